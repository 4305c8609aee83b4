/-! ===== more of them: alike, unlike, pages ===== -/
/-- the place of a question in a version -/
def nbr (A : AS) (v w : Nat) (p : Nat) : Prop := ∃ r, r + 1 < anq A ∧ vO A w r = vO A v (p - 1) ∧ vO A w (r + 1) = vO A v p
noncomputable def cntN (P : Nat → Prop) (n : Nat) : Nat := @cnt P (fun _ => Classical.propDecidable _) n
theorem cntN_eq {P : Nat → Prop} [DecidablePred P] : ∀ {n : Nat}, cnt P n = cntN P n
  | 0 => rfl
  | n + 1 => by
    unfold cntN
    rw [cnt, cnt]
    have := cntN_eq (P := P) (n := n)
    unfold cntN at this
    rw [this]
    by_cases hp : P n
    · rw [if_pos hp, if_pos hp]
    · rw [if_neg hp, if_neg hp]
theorem cntN_congr {P Q : Nat → Prop} {n : Nat} (h : ∀ k, k < n → (P k ↔ Q k)) : cntN P n = cntN Q n := @cnt_congr P Q (fun _ => Classical.propDecidable _) (fun _ => Classical.propDecidable _) n h
theorem cntN_le (P : Nat → Prop) (n : Nat) : cntN P n ≤ n := @cnt_le P (fun _ => Classical.propDecidable _) n
theorem cntN_yes {P : Nat → Prop} {n : Nat} (h : P n) : cntN P (n + 1) = cntN P n + 1 := by unfold cntN; rw [cnt, if_pos h]
theorem cntN_no {P : Nat → Prop} {n : Nat} (h : ¬ P n) : cntN P (n + 1) = cntN P n := by unfold cntN; rw [cnt, if_neg h]; rfl
noncomputable def alF (A : AS) (v w : Nat) (k : Int32) : Nat := if k = 0 then cntN (fun p => vO A v p = vO A w p) (anq A) else if k = 1 then cntN (fun p => vK A v p = vK A w p) (anq A) else cntN (fun p => 1 ≤ p ∧ nbr A v w p) (anq A)
abbrev is02 (w : Int32) : Prop := w = 0 ∨ w = 1 ∨ w = 2
def aAlike (A : AS) (x y k r : Int32) : Prop := (∃ v w, v < anv A ∧ x = nI v ∧ w < anv A ∧ y = nI w ∧ is02 k ∧ r = nI (alF A v w k)) ∨ ((¬ isV A x ∨ ¬ isV A y ∨ ¬ is02 k) ∧ r = -1001)
theorem s_neighborsIn {I : ZI} {A : AS} {v w : Nat} (hV : AV A) (hv : v < 6) (hw : w < 6) (hP : Pm I (139 + 20 * v) (anq A) (aqd A) (asd A v)) (hP2 : Pm I (139 + 20 * w) (anq A) (aqd A) (asd A w)) : ZE yX4_neighborsIn cX4_neighborsIn 5 (some FieldType.int) 1 [.ref (139 + 20 * v), .ref (139 + 20 * w)] Sg I (some (.int (nI (cntN (fun p => 1 ≤ p ∧ nbr A v w p) (anq A))))) I := by
  have hp := at_paper hv
  have hq := at_paper hw
  have hp0 := hp.1
  have hq0 := hq.1
  have hp1 := hp.2.1.1
  have hq2 := hq.2.2.1.1
  have hn := hV.1.1
  have hO1 := Od_en (anq A) (aqd A) (asd A v)
  have hO2 := Od_en (anq A) (aqd A) (asd A w)
  refine ZSp.of (own := RX4) (L := [.ref (139 + 20 * v), .ref (139 + 20 * w), zj, zj, zj]) mX4_neighborsIn rfl (List.all_eq_true.mp rfl) (Nat.le_of_ble_eq_true rfl) rfl (fun X hE hN => ?_)
  have loop : ∀ (d p : Nat), p + d = (if anq A = 0 then 1 else anq A) → 1 ≤ p → (ZG X RX4 cX4_neighborsIn 5 1 0 0 0 0 4 [.ref (139 + 20 * v), .ref (139 + 20 * w), .int (nI (cntN (fun p => 1 ≤ p ∧ nbr A v w p) p)), .int (nI p), zj] [] Sg I) := by
    intro d
    induction d with
    | zero =>
      intro p hp9 h1
      have e1 : anq A ≤ p := by by_cases e : anq A = 0 <;> simp [e] at hp9 <;> omega
      have e2 : cntN (fun p => 1 ≤ p ∧ nbr A v w p) p = cntN (fun p => 1 ≤ p ∧ nbr A v w p) (anq A) := by
        by_cases e : anq A = 0
        · simp [e] at hp9
          subst hp9
          rw [e, show (1 : Nat) = 0 + 1 from rfl, cntN_no (by omega)]
        · simp [e] at hp9
          rw [hp9]
      refine z_iload_n dX4_neighborsIn_4 rfl ?_
      refine z_aload_n dX4_neighborsIn_5 rfl ?_
      refine z_getI fRX4_36 dX4_neighborsIn_6 (by first | assumption | rfl) (by rfl) ?_
      refine z_icmp_ge (tgt := 62) dX4_neighborsIn_9 (by decide) (fun _ => ?_) (fun hb => absurd (by rw [hP.1]; exact nI_le e1 (by by_cases e : anq A = 0 <;> simp [e] at hp9 <;> omega)) hb)
      refine z_iload_n dX4_neighborsIn_62 rfl ?_
      exact z_eireturn hE dX4_neighborsIn_63 (by rw [e2]) rfl
    | succ d ih =>
      intro p hp9 h1
      have hpn : p < anq A := by by_cases e : anq A = 0 <;> simp [e] at hp9 <;> omega
      have hO := hO1.1 p hpn
      have hOm := hO1.1 (p - 1) (by omega)
      obtain ⟨r0, hr0, er0⟩ := hO2.2.1 _ hOm
      obtain ⟨r1, hr1, er1⟩ := hO2.2.1 _ hO
      have f0 : I (139 + 20 * w + 3 + 1) (Od (anq A) (aqd A) (asd A v) (p - 1)) = nI r0 := by rw [← er0]; exact hP2.2.2.1 r0 hr0
      have f1 : I (139 + 20 * w + 3 + 1) (Od (anq A) (aqd A) (asd A v) p) = nI r1 := by rw [← er1]; exact hP2.2.2.1 r1 hr1
      have hnb : (1 ≤ p ∧ nbr A v w p) ↔ r1 = r0 + 1 := by
        constructor
        · rintro ⟨-, r, h2, h3, h4⟩
          have a1 : r = r0 := hO2.inj (by omega) hr0 (h3.trans er0.symm)
          have a2 : r + 1 = r1 := hO2.inj h2 hr1 (h4.trans er1.symm)
          omega
        · intro e
          exact ⟨h1, r0, by omega, er0, by rw [← e]; exact er1⟩
      have := ih (p + 1) (by omega) (by omega)
      refine z_iload_n dX4_neighborsIn_4 rfl ?_
      refine z_aload_n dX4_neighborsIn_5 rfl ?_
      refine z_getI fRX4_36 dX4_neighborsIn_6 (by first | assumption | rfl) (by rfl) ?_
      refine z_icmp_ge (tgt := 62) dX4_neighborsIn_9 (by decide) (fun hb => absurd hb (by rw [hP.1]; exact nI_ge hpn (by omega))) (fun _ => ?_)
      refine z_aload_n dX4_neighborsIn_12 rfl ?_
      refine z_getR fRX4_20 dX4_neighborsIn_13 (by first | assumption | rfl) (by rfl) ?_
      refine z_aload_n dX4_neighborsIn_16 rfl ?_
      refine z_getR fRX4_14 dX4_neighborsIn_17 (by first | assumption | rfl) (by rfl) ?_
      refine z_iload_n dX4_neighborsIn_20 rfl ?_
      refine z_iconst (v := 1) dX4_neighborsIn_21 rfl ?_
      refine z_isub dX4_neighborsIn_22 ?_
      refine z_cV1s mX6_get gRX4_44 dX4_neighborsIn_23 (s_getN hp.2.1 (show nI p - 1 = nI (p - 1) from pk_sub (b := 1) h1) (show p - 1 < 20 by omega)) (by decide) (by first | assumption | rfl) (by rfl) (Nat.le_of_ble_eq_true rfl) (Nat.le_refl _) (Nat.le_refl _) ?_
      rw [hP.2.1 (p - 1) (by omega)]
      refine z_cV1s mX6_get gRX4_44 dX4_neighborsIn_26 (s_getN hq.2.2.1 rfl (show Od (anq A) (aqd A) (asd A v) (p - 1) < 20 by omega)) (by decide) (by first | assumption | rfl) (by rfl) (Nat.le_of_ble_eq_true rfl) (Nat.le_refl _) (Nat.le_refl _) ?_
      rw [f0]
      refine z_ist4 dX4_neighborsIn_29 (by decide) rfl ?_
      refine z_aload_n dX4_neighborsIn_31 rfl ?_
      refine z_getR fRX4_20 dX4_neighborsIn_32 (by first | assumption | rfl) (by rfl) ?_
      refine z_aload_n dX4_neighborsIn_35 rfl ?_
      refine z_getR fRX4_14 dX4_neighborsIn_36 (by first | assumption | rfl) (by rfl) ?_
      refine z_iload_n dX4_neighborsIn_39 rfl ?_
      refine z_cV1s mX6_get gRX4_44 dX4_neighborsIn_40 (s_getN hp.2.1 rfl (show p < 20 by omega)) (by decide) (by first | assumption | rfl) (by rfl) (Nat.le_of_ble_eq_true rfl) (Nat.le_refl _) (Nat.le_refl _) ?_
      rw [hP.2.1 p hpn]
      refine z_cV1s mX6_get gRX4_44 dX4_neighborsIn_43 (s_getN hq.2.2.1 rfl (show Od (anq A) (aqd A) (asd A v) p < 20 by omega)) (by decide) (by first | assumption | rfl) (by rfl) (Nat.le_of_ble_eq_true rfl) (Nat.le_refl _) (Nat.le_refl _) ?_
      rw [f1]
      refine z_iload dX4_neighborsIn_46 rfl ?_
      refine z_iconst (v := 1) dX4_neighborsIn_48 rfl ?_
      refine z_iadd dX4_neighborsIn_49 ?_
      rw [nI_1]
      refine z_icmp_ne (tgt := 56) dX4_neighborsIn_50 (by decide) (fun hb => ?_) (fun hb => ?_)
      · refine z_inc3 (w := 1) dX4_neighborsIn_56 rfl (by decide) rfl ?_
        refine z_goto (tgt := 4) dX4_neighborsIn_59 (by decide) ?_
        rw [cntN_no (fun q => hb (by rw [hnb.mp q]))] at this
        rw [nI_1]
        refine z_fg4 ?_
        exact this
      · refine z_inc2 (w := 1) dX4_neighborsIn_53 rfl (by decide) rfl ?_
        refine z_inc3 (w := 1) dX4_neighborsIn_56 rfl (by decide) rfl ?_
        refine z_goto (tgt := 4) dX4_neighborsIn_59 (by decide) ?_
        rw [cntN_yes (hnb.mpr ((nI_eq (by omega) (by omega)).mp hb))] at this
        rw [nI_1, nI_1]
        refine z_fg4 ?_
        exact this
  refine z_iconst (v := 0) dX4_neighborsIn_0 rfl ?_
  refine z_ist2 dX4_neighborsIn_1 (by decide) rfl ?_
  refine z_iconst (v := 1) dX4_neighborsIn_2 rfl ?_
  refine z_ist3 dX4_neighborsIn_3 (by decide) rfl ?_
  have e0 : cntN (fun p => 1 ≤ p ∧ nbr A v w p) 1 = 0 := by rw [show (1 : Nat) = 0 + 1 from rfl, cntN_no (by omega)]; rfl
  have := loop ((if anq A = 0 then 1 else anq A) - 1) 1 (by by_cases e : anq A = 0 <;> simp [e] <;> omega) (Nat.le_refl 1)
  rw [e0] at this
  exact this
theorem s_alike {I : ZI} {A : AS} {hc : Nat} {Hh : Nat → AS} {tc : Nat} {bf : Nat → Nat} {x y k : Int32} (h : CI I A hc Hh tc bf) : ZP yX9_alike cX9_alike 6 (some FieldType.int) 6 [.ref 0, .int x, .int y, .int k] Sg I (fun r J => (∃ a, r = some (.int a) ∧ aAlike A x y k a) ∧ (∀ a, 259 ≤ a → J a = I a) ∧ CI J A hc Hh tc bf) := by
  have hn := h.2.1.1.1
  have hnv := h.2.1.2.1
  refine ZSp.of (own := RX9) (L := [.ref 0, .int x, .int y, .int k, zj, zj]) mX9_alike rfl (List.all_eq_true.mp rfl) (Nat.le_of_ble_eq_true rfl) rfl (fun X hE hN => ?_)
  refine z_aload_n dX9_alike_0 rfl ?_
  refine z_iload_n dX9_alike_1 rfl ?_
  by_cases hv : isV A x
  · obtain ⟨v, hv1, rfl⟩ := hv
    have hv6 : v < 6 := by omega
    have hp := at_paper hv6
    have hp0 := hp.1
    refine z_cV1p mX9_paperOf gRX9_119 dX9_alike_2 (s_paperOf h rfl hv1) (by decide) (by first | assumption | rfl) (by rfl) (Nat.le_of_ble_eq_true rfl) (Nat.le_refl _) (Nat.le_refl _) (fun r J hq => ?_)
    obtain ⟨rfl, b1, b2, b3, b4⟩ := hq
    refine z_ast4 dX9_alike_5 (by decide) rfl ?_
    refine z_aload_n dX9_alike_7 rfl ?_
    refine z_iload_n dX9_alike_8 rfl ?_
    by_cases hw : isV A y
    · obtain ⟨w, hw1, rfl⟩ := hw
      have hw6 : w < 6 := by omega
      have hq := at_paper hw6
      have hq0 := hq.1
      have b2' := b2
      refine z_cV1p mX9_paperOf gRX9_119 dX9_alike_9 (s_paperOf b2' rfl hw1) (by decide) (by first | assumption | rfl) (by rfl) (Nat.le_of_ble_eq_true rfl) (Nat.le_refl _) (Nat.le_refl _) (fun r J hq => ?_)
      obtain ⟨rfl, c1, c2, c3, c4⟩ := hq
      have hfr : ∀ a, 259 ≤ a → J a = I a := fun a ha => by rw [c1 a (by omega), b1 a (by omega)]
      have hPv : Pm J (139 + 20 * v) (anq A) (aqd A) (asd A v) := by
        by_cases e : v = w
        · subst e; exact c3
        · exact b3.keep (fun a q1 q2 => c1 a (by omega))
      refine z_ast5 dX9_alike_12 (by decide) rfl ?_
      refine z_aload dX9_alike_14 rfl ?_
      refine z_ifnull dX9_alike_16 ?_
      refine z_aload dX9_alike_19 rfl ?_
      refine z_ifnonnull (tgt := 28) dX9_alike_21 (by decide) ?_
      refine z_iload_n dX9_alike_28 rfl ?_
      have h012 : is02 k ∨ (k.toInt < 0 ∨ 2 < k.toInt) := by
        rcases z_sw4 k with e | e | e | e | e
        · exact Or.inl (Or.inl e)
        · exact Or.inl (Or.inr (Or.inl e))
        · exact Or.inl (Or.inr (Or.inr e))
        · exact Or.inr (by rw [e]; exact Or.inr (by decide))
        · exact Or.inr (by omega)
      rcases h012 with (rfl | rfl | rfl) | hk
      · refine z_tableIn (off := 27) (tgt := 56) dX9_alike_29 (by decide) (by decide) (by decide) (by decide) ?_
        refine z_aload dX9_alike_56 rfl ?_
        refine z_getR fRX9_137 dX9_alike_58 (by first | assumption | rfl) (by rfl) ?_
        refine z_aload dX9_alike_61 rfl ?_
        refine z_getR fRX9_137 dX9_alike_63 (by first | assumption | rfl) (by rfl) ?_
        refine z_aload dX9_alike_66 rfl ?_
        refine z_getI fRX9_140 dX9_alike_68 (by first | assumption | rfl) (by rfl) ?_
        rw [hPv.1]
        have hp1 := hp.2.1.1
        refine z_cV2s mX6_countSame gRX9_141 dX9_alike_71 (s_sameAs hp.2.1 hq.2.1 rfl (show anq A ≤ 20 by omega)) (by decide) (by first | assumption | rfl) (by rfl) (Nat.le_of_ble_eq_true rfl) (Nat.le_refl _) (Nat.le_refl _) ?_
        rw [show cnt (fun k => J (139 + 20 * v + 1 + 1) k = J (139 + 20 * w + 1 + 1) k) (anq A) = alF A v w 0 from by
          show _ = cntN (fun p => vO A v p = vO A w p) (anq A)
          rw [cntN_eq]
          refine cntN_congr (fun p hp9 => ?_)
          have a1 := (Od_en (anq A) (aqd A) (asd A v)).1 p hp9
          have a2 := (Od_en (anq A) (aqd A) (asd A w)).1 p hp9
          rw [hPv.2.1 p hp9, c3.2.1 p hp9]
          exact nI_eq (by omega) (by omega)]
        exact z_iret hE dX9_alike_74 ⟨rfl, ⟨_, rfl, Or.inl ⟨v, w, hv1, rfl, hw1, rfl, Or.inl rfl, rfl⟩⟩, hfr, c2⟩
      · refine z_tableIn (off := 46) (tgt := 75) dX9_alike_29 (by decide) (by decide) (by decide) (by decide) ?_
        refine z_aload dX9_alike_75 rfl ?_
        refine z_getR fRX9_145 dX9_alike_77 (by first | assumption | rfl) (by rfl) ?_
        refine z_aload dX9_alike_80 rfl ?_
        refine z_getR fRX9_145 dX9_alike_82 (by first | assumption | rfl) (by rfl) ?_
        refine z_aload dX9_alike_85 rfl ?_
        refine z_getI fRX9_140 dX9_alike_87 (by first | assumption | rfl) (by rfl) ?_
        rw [hPv.1]
        have hp3 := hp.2.2.2.1.1
        refine z_cV2s mX6_countSame gRX9_141 dX9_alike_90 (s_sameAs hp.2.2.2.1 hq.2.2.2.1 rfl (show anq A ≤ 20 by omega)) (by decide) (by first | assumption | rfl) (by rfl) (Nat.le_of_ble_eq_true rfl) (Nat.le_refl _) (Nat.le_refl _) ?_
        rw [show cnt (fun k => J (139 + 20 * v + 5 + 1) k = J (139 + 20 * w + 5 + 1) k) (anq A) = alF A v w 1 from by
          show _ = cntN (fun p => vK A v p = vK A w p) (anq A)
          rw [cntN_eq]
          refine cntN_congr (fun p hp9 => ?_)
          have a1 := (Ky_lt (seed := asd A v) h.2.1.1 hp9).1
          have a2 := (Ky_lt (seed := asd A w) h.2.1.1 hp9).1
          have a3 := (h.2.1.1.2 _ ((Od_en (anq A) (aqd A) (asd A v)).1 p hp9)).2.2.2.1
          have a4 := (h.2.1.1.2 _ ((Od_en (anq A) (aqd A) (asd A w)).1 p hp9)).2.2.2.1
          rw [hPv.2.2.2.2 p hp9, c3.2.2.2.2 p hp9]
          exact nI_eq (by omega) (by omega)]
        exact z_iret hE dX9_alike_93 ⟨rfl, ⟨_, rfl, Or.inl ⟨v, w, hv1, rfl, hw1, rfl, Or.inr (Or.inl rfl), rfl⟩⟩, hfr, c2⟩
      · refine z_tableIn (off := 65) (tgt := 94) dX9_alike_29 (by decide) (by decide) (by decide) (by decide) ?_
        refine z_aload dX9_alike_94 rfl ?_
        refine z_aload dX9_alike_96 rfl ?_
        refine z_cV1s mX4_neighborsIn gRX9_148 dX9_alike_98 (s_neighborsIn h.2.1 hv6 hw6 hPv c3) (by decide) (by first | assumption | rfl) (by rfl) (Nat.le_of_ble_eq_true rfl) (Nat.le_refl _) (Nat.le_refl _) ?_
        exact z_iret hE dX9_alike_101 ⟨rfl, ⟨_, rfl, Or.inl ⟨v, w, hv1, rfl, hw1, rfl, Or.inr (Or.inr rfl), rfl⟩⟩, hfr, c2⟩
      · refine z_tableOut (tgt := 102) dX9_alike_29 (hk) (by decide) ?_
        refine z_sipush (v := -1001) dX9_alike_102 rfl ?_
        exact z_iret hE dX9_alike_105 ⟨rfl, ⟨_, rfl, Or.inr ⟨Or.inr (Or.inr (by rintro (rfl | rfl | rfl) <;> exact absurd hk (by decide))), rfl⟩⟩, hfr, c2⟩
    · refine z_cV1s mX9_paperOf gRX9_119 dX9_alike_9 (s_paperOfN b2 hw) (by decide) (by first | assumption | rfl) (by rfl) (Nat.le_of_ble_eq_true rfl) (Nat.le_refl _) (Nat.le_refl _) ?_
      refine z_asn5 dX9_alike_12 (by decide) rfl ?_
      refine z_aload dX9_alike_14 rfl ?_
      refine z_ifnull dX9_alike_16 ?_
      refine z_aloadN dX9_alike_19 rfl ?_
      refine z_ifnonnullN dX9_alike_21 ?_
      refine z_sipush (v := -1001) dX9_alike_24 rfl ?_
      exact z_iret hE dX9_alike_27 ⟨rfl, ⟨_, rfl, Or.inr ⟨Or.inr (Or.inl hw), rfl⟩⟩, fun a ha => b1 a (by omega), b2⟩
  · refine z_cV1s mX9_paperOf gRX9_119 dX9_alike_2 (s_paperOfN h hv) (by decide) (by first | assumption | rfl) (by rfl) (Nat.le_of_ble_eq_true rfl) (Nat.le_refl _) (Nat.le_refl _) ?_
    refine z_asn4 dX9_alike_5 (by decide) rfl ?_
    refine z_aload_n dX9_alike_7 rfl ?_
    refine z_iload_n dX9_alike_8 rfl ?_
    by_cases hw : isV A y
    · obtain ⟨w, hw1, rfl⟩ := hw
      refine z_cV1p mX9_paperOf gRX9_119 dX9_alike_9 (s_paperOf h rfl hw1) (by decide) (by first | assumption | rfl) (by rfl) (Nat.le_of_ble_eq_true rfl) (Nat.le_refl _) (Nat.le_refl _) (fun r J hq => ?_)
      obtain ⟨rfl, c1, c2, c3, c4⟩ := hq
      refine z_ast5 dX9_alike_12 (by decide) rfl ?_
      refine z_aloadN dX9_alike_14 rfl ?_
      refine z_ifnullN (tgt := 24) dX9_alike_16 (by decide) ?_
      refine z_sipush (v := -1001) dX9_alike_24 rfl ?_
      exact z_iret hE dX9_alike_27 ⟨rfl, ⟨_, rfl, Or.inr ⟨Or.inl hv, rfl⟩⟩, fun a ha => c1 a (by omega), c2⟩
    · refine z_cV1s mX9_paperOf gRX9_119 dX9_alike_9 (s_paperOfN h hw) (by decide) (by first | assumption | rfl) (by rfl) (Nat.le_of_ble_eq_true rfl) (Nat.le_refl _) (Nat.le_refl _) ?_
      refine z_asn5 dX9_alike_12 (by decide) rfl ?_
      refine z_aloadN dX9_alike_14 rfl ?_
      refine z_ifnullN (tgt := 24) dX9_alike_16 (by decide) ?_
      refine z_sipush (v := -1001) dX9_alike_24 rfl ?_
      exact z_iret hE dX9_alike_27 ⟨rfl, ⟨_, rfl, Or.inr ⟨Or.inl hv, rfl⟩⟩, fun _ _ => rfl, h⟩
def aPages (A : AS) (x r : Int32) : Prop := (∃ v, v < anv A ∧ x = nI v ∧ r = nI (vN A v)) ∨ (¬ isV A x ∧ r = -1001)
abbrev is01 (w : Int32) : Prop := w = 0 ∨ w = 1
def aPage (A : AS) (x y w r : Int32) : Prop := (∃ v i, v < anv A ∧ x = nI v ∧ i < vN A v ∧ y = nI i ∧ is01 w ∧ r = if w = 0 then nI (vP A v (i + 1) - vP A v i) else nI (smh (vH A v) (vP A v i) (vP A v (i + 1) - vP A v i))) ∨ ((¬ isV A x ∨ (∃ v, v < anv A ∧ x = nI v ∧ ¬ ∃ i, i < vN A v ∧ y = nI i) ∨ ¬ is01 w) ∧ r = -1001)
theorem s_pages {I : ZI} {A : AS} {hc : Nat} {Hh : Nat → AS} {tc : Nat} {bf : Nat → Nat} {x : Int32} (h : CI I A hc Hh tc bf) : ZP yX9_pages cX9_pages 3 (some FieldType.int) 6 [.ref 0, .int x] Sg I (fun r J => (∃ a, r = some (.int a) ∧ aPages A x a) ∧ (∀ a, 259 ≤ a → J a = I a) ∧ CI J A hc Hh tc bf) := by
  have hnv := h.2.1.2.1
  refine ZSp.of (own := RX9) (L := [.ref 0, .int x, zj]) mX9_pages rfl (List.all_eq_true.mp rfl) (Nat.le_of_ble_eq_true rfl) rfl (fun X hE hN => ?_)
  refine z_aload_n dX9_pages_0 rfl ?_
  refine z_iload_n dX9_pages_1 rfl ?_
  by_cases hv : isV A x
  · obtain ⟨v, hv1, rfl⟩ := hv
    have hpp := at_paper (show v < 6 by omega)
    have hp0 := hpp.1
    have hy0 := hpp.2.2.2.2.2.1
    refine z_cV1p mX9_paperOf gRX9_119 dX9_pages_2 (s_paperOf h rfl hv1) (by decide) (by first | assumption | rfl) (by rfl) (Nat.le_of_ble_eq_true rfl) (Nat.le_refl _) (Nat.le_refl _) (fun r J hq => ?_)
    obtain ⟨rfl, b1, b2, b3, b4⟩ := hq
    refine z_ast2 dX9_pages_5 (by decide) rfl ?_
    refine z_aload_n dX9_pages_6 rfl ?_
    refine z_ifnonnull (tgt := 16) dX9_pages_7 (by decide) ?_
    refine z_aload_n dX9_pages_16 rfl ?_
    refine z_getR fRX9_160 dX9_pages_17 (by first | assumption | rfl) (by rfl) ?_
    refine z_getI fRX9_164 dX9_pages_20 (by first | assumption | rfl) (by rfl) ?_
    rw [b4.1]
    exact z_iret hE dX9_pages_23 ⟨rfl, ⟨_, rfl, Or.inl ⟨v, hv1, rfl, rfl⟩⟩, fun a ha => b1 a (by omega), b2⟩
  · refine z_cV1s mX9_paperOf gRX9_119 dX9_pages_2 (s_paperOfN h hv) (by decide) (by first | assumption | rfl) (by rfl) (Nat.le_of_ble_eq_true rfl) (Nat.le_refl _) (Nat.le_refl _) ?_
    refine z_asn2 dX9_pages_5 (by decide) rfl ?_
    refine z_aload_nN dX9_pages_6 rfl ?_
    refine z_ifnonnullN dX9_pages_7 ?_
    refine z_sipush (v := -1001) dX9_pages_10 rfl ?_
    refine z_goto (tgt := 23) dX9_pages_13 (by decide) ?_
    exact z_iret hE dX9_pages_23 ⟨rfl, ⟨_, rfl, Or.inr ⟨hv, rfl⟩⟩, fun _ _ => rfl, h⟩
theorem s_page {I : ZI} {A : AS} {hc : Nat} {Hh : Nat → AS} {tc : Nat} {bf : Nat → Nat} {x y w : Int32} (h : CI I A hc Hh tc bf) : ZP yX9_page cX9_page 5 (some FieldType.int) 6 [.ref 0, .int x, .int y, .int w] Sg I (fun r J => (∃ a, r = some (.int a) ∧ aPage A x y w a) ∧ (∀ a, 259 ≤ a → J a = I a) ∧ CI J A hc Hh tc bf) := by
  have hnv := h.2.1.2.1
  have hn := h.2.1.1.1
  refine ZSp.of (own := RX9) (L := [.ref 0, .int x, .int y, .int w, zj]) mX9_page rfl (List.all_eq_true.mp rfl) (Nat.le_of_ble_eq_true rfl) rfl (fun X hE hN => ?_)
  refine z_aload_n dX9_page_0 rfl ?_
  refine z_iload_n dX9_page_1 rfl ?_
  by_cases hv : isV A x
  · obtain ⟨v, hv1, rfl⟩ := hv
    have hpp := at_paper (show v < 6 by omega)
    have hp0 := hpp.1
    have hy0 := hpp.2.2.2.2.2.1
    have hr7 := hpp.2.2.2.2.2.2.2.2.2.1
    have hr9 := hpp.2.2.2.2.2.2.2.2.2.2
    have hr70 := hr7.1
    have hr90 := hr9.1
    have hM : vN A v ≤ anq A := Pn_le
    refine z_cV1p mX9_paperOf gRX9_119 dX9_page_2 (s_paperOf h rfl hv1) (by decide) (by first | assumption | rfl) (by rfl) (Nat.le_of_ble_eq_true rfl) (Nat.le_refl _) (Nat.le_refl _) (fun r J hq => ?_)
    obtain ⟨rfl, b1, b2, b3, b4⟩ := hq
    have hfr : ∀ a, 259 ≤ a → J a = I a := fun a ha => b1 a (by omega)
    refine z_ast4 dX9_page_5 (by decide) rfl ?_
    refine z_aload dX9_page_7 rfl ?_
    refine z_ifnull dX9_page_9 ?_
    have bad : ((∃ v', v' < anv A ∧ nI v = nI v' ∧ ¬ ∃ i, i < vN A v' ∧ y = nI i) ∨ ¬ is01 w) → (ZG X RX9 cX9_page 5 6 0 0 0 0 37 [.ref 0, .int (nI v), .int y, .int w, .ref (139 + 20 * v)] [] Sg J) := by
      intro hz
      refine z_sipush (v := -1001) dX9_page_37 rfl ?_
      exact z_iret hE dX9_page_40 ⟨rfl, ⟨_, rfl, Or.inr ⟨Or.inr hz, rfl⟩⟩, hfr, b2⟩
    refine z_iload_n dX9_page_12 rfl ?_
    rcases z_dom y (vN A v) (by omega) with ⟨i, hi, rfl, hy⟩ | ⟨hy, hyi⟩
    · refine z_if_lt (tgt := 37) dX9_page_13 (by decide) (fun hb => absurd hb (fun q => hy (Or.inl q))) (fun _ => ?_)
      refine z_iload_n dX9_page_16 rfl ?_
      refine z_aload dX9_page_17 rfl ?_
      refine z_getR fRX9_160 dX9_page_19 (by first | assumption | rfl) (by rfl) ?_
      refine z_getI fRX9_164 dX9_page_22 (by first | assumption | rfl) (by rfl) ?_
      rw [b4.1]
      refine z_icmp_ge (tgt := 37) dX9_page_25 (by decide) (fun hb => absurd hb (fun q => hy (Or.inr q))) (fun _ => ?_)
      refine z_iload_n dX9_page_28 rfl ?_
      refine z_if_lt (tgt := 37) dX9_page_29 (by decide) (fun hw0 => ?_) (fun hw0 => ?_)
      · exact bad (Or.inr (by rintro (rfl | rfl) <;> exact absurd hw0 (by decide)))
      · refine z_iload_n dX9_page_32 rfl ?_
        refine z_iconst (v := 1) dX9_page_33 rfl ?_
        refine z_icmp_le (tgt := 41) dX9_page_34 (by decide) (fun hw1 => ?_) (fun hw1 => ?_)
        · refine z_iload_n dX9_page_41 rfl ?_
          have hw : is01 w := by
            obtain ⟨k, hk, rfl⟩ := nI_of2 (M := 1) (n := 1) rfl hw0 hw1
            match k, hk with
            | 0, _ => exact Or.inl rfl
            | 1, _ => exact Or.inr rfl
          refine z_if_ne (tgt := 60) dX9_page_42 (by decide) (fun hw2 => ?_) (fun hw2 => ?_)
          · refine z_aload dX9_page_60 rfl ?_
            refine z_getR fRX9_160 dX9_page_62 (by first | assumption | rfl) (by rfl) ?_
            refine z_getR fRX9_172 dX9_page_65 (by first | assumption | rfl) (by rfl) ?_
            refine z_iload_n dX9_page_68 rfl ?_
            refine z_cV1s mX6_get gRX9_115 dX9_page_69 (s_getN hr9 rfl (show i < 20 by omega)) (by decide) (by first | assumption | rfl) (by rfl) (Nat.le_of_ble_eq_true rfl) (Nat.le_refl _) (Nat.le_refl _) ?_
            rw [(b4.2 i hi).2.1]
            exact z_iret hE dX9_page_72 ⟨rfl, ⟨_, rfl, Or.inl ⟨v, i, hv1, rfl, hi, rfl, hw, by rw [if_neg hw2]; rfl⟩⟩, hfr, b2⟩
          · refine z_aload dX9_page_45 rfl ?_
            refine z_getR fRX9_160 dX9_page_47 (by first | assumption | rfl) (by rfl) ?_
            refine z_getR fRX9_169 dX9_page_50 (by first | assumption | rfl) (by rfl) ?_
            refine z_iload_n dX9_page_53 rfl ?_
            refine z_cV1s mX6_get gRX9_115 dX9_page_54 (s_getN hr7 rfl (show i < 20 by omega)) (by decide) (by first | assumption | rfl) (by rfl) (Nat.le_of_ble_eq_true rfl) (Nat.le_refl _) (Nat.le_refl _) ?_
            rw [(b4.2 i hi).1]
            refine z_goto (tgt := 72) dX9_page_57 (by decide) ?_
            exact z_iret hE dX9_page_72 ⟨rfl, ⟨_, rfl, Or.inl ⟨v, i, hv1, rfl, hi, rfl, hw, by rw [if_pos hw2]; rfl⟩⟩, hfr, b2⟩
        · refine z_eq rfl (bad (Or.inr ?_))
          rintro (rfl | rfl) <;> exact absurd hw1 (by decide)
    · have hbad := bad (Or.inl ⟨v, hv1, rfl, hyi⟩)
      refine z_if_lt (tgt := 37) dX9_page_13 (by decide) (fun hy0' => ?_) (fun hy0' => ?_)
      · exact hbad
      · refine z_iload_n dX9_page_16 rfl ?_
        refine z_aload dX9_page_17 rfl ?_
        refine z_getR fRX9_160 dX9_page_19 (by first | assumption | rfl) (by rfl) ?_
        refine z_getI fRX9_164 dX9_page_22 (by first | assumption | rfl) (by rfl) ?_
        rw [b4.1]
        refine z_icmp_ge (tgt := 37) dX9_page_25 (by decide) (fun _ => ?_) (fun hb => absurd (hy.resolve_left hy0') hb)
        exact hbad
  · refine z_cV1s mX9_paperOf gRX9_119 dX9_page_2 (s_paperOfN h hv) (by decide) (by first | assumption | rfl) (by rfl) (Nat.le_of_ble_eq_true rfl) (Nat.le_refl _) (Nat.le_refl _) ?_
    refine z_asn4 dX9_page_5 (by decide) rfl ?_
    refine z_aloadN dX9_page_7 rfl ?_
    refine z_ifnullN (tgt := 37) dX9_page_9 (by decide) ?_
    refine z_sipush (v := -1001) dX9_page_37 rfl ?_
    exact z_iret hE dX9_page_40 ⟨rfl, ⟨_, rfl, Or.inr ⟨Or.inl hv, rfl⟩⟩, fun _ _ => rfl, h⟩

