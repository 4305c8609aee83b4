/-! ===== unlike ===== -/
noncomputable def msk (A : AS) (seed : Int32) : Nat → Nat
  | 0 => 0
  | v + 1 => if msk A seed v < cntN (fun p => vK A v p = Ky (anq A) (aqd A) seed p) (anq A) then cntN (fun p => vK A v p = Ky (anq A) (aqd A) seed p) (anq A) else msk A seed v
theorem msk_le (A : AS) (seed : Int32) : ∀ v, msk A seed v ≤ anq A
  | 0 => Nat.zero_le _
  | v + 1 => by
    have h1 := cntN_le (fun p => vK A v p = Ky (anq A) (aqd A) seed p) (anq A)
    have h2 := msk_le A seed v
    rw [msk]
    split <;> omega
theorem s_msk {I : ZI} {A : AS} {hc : Nat} {Hh : Nat → AS} {tc : Nat} {bf : Nat → Nat} {x : Int32} (h : CI I A hc Hh tc bf) : ZP yX9_mostSameKeys cX9_mostSameKeys 5 (some FieldType.int) 6 [.ref 0, .int x] Sg I (fun r J => r = some (.int (nI (msk A x (anv A)))) ∧ (∀ a, 259 ≤ a → J a = I a) ∧ CI J A hc Hh tc bf) := by
  have hn := h.2.1.1.1
  have hnv := h.2.1.2.1
  have h0 := at_tv
  have hn1 := at_now.1
  have hcd := at_cand
  have hcd0 := hcd.1
  refine ZSp.of (own := RX9) (L := [.ref 0, .int x, zj, zj, zj]) mX9_mostSameKeys rfl (List.all_eq_true.mp rfl) (Nat.le_of_ble_eq_true rfl) rfl (fun X hE hN => ?_)
  have loop : ∀ (m v : Nat) (J : ZI), v + m = anv A → (∀ a, 259 ≤ a → J a = I a) → CI J A hc Hh tc bf → Pm J 114 (anq A) (aqd A) x → (ZG X RX9 cX9_mostSameKeys 5 6 0 0 0 0 23 [.ref 0, .int x, .int (nI (msk A x v)), .int (nI v), zj] [] Sg J) := by
    intro m
    induction m with
    | zero =>
      intro v J hv hfr hC hP
      have e : v = anv A := by omega
      subst e
      refine z_iload_n dX9_mostSameKeys_23 rfl ?_
      refine z_aload_n dX9_mostSameKeys_24 rfl ?_
      refine z_getR fRX9_10 dX9_mostSameKeys_25 (by first | assumption | rfl) (by rfl) ?_
      refine z_getI fRX9_103 dX9_mostSameKeys_28 (by first | assumption | rfl) (by rfl) ?_
      refine z_icmp_ge (tgt := 79) dX9_mostSameKeys_31 (by decide) (fun _ => ?_) (fun hb => absurd (by rw [hC.1.2.1]; exact nI_le (Nat.le_refl _) (by omega)) hb)
      refine z_iload_n dX9_mostSameKeys_79 rfl ?_
      exact z_iret hE dX9_mostSameKeys_80 ⟨rfl, rfl, hfr, hC⟩
    | succ m ih =>
      intro v K hv hfr hC hP
      have hv1 : v < anv A := by omega
      have hv6 : v < 6 := by omega
      have hpp := at_paper hv6
      have hp0 := hpp.1
      have hk0 := hpp.2.2.2.1.1
      have hk1 := hcd.2.2.2.1.1
      have e1 : msk A x (v + 1) = if msk A x v < cntN (fun p => vK A v p = Ky (anq A) (aqd A) x p) (anq A) then cntN (fun p => vK A v p = Ky (anq A) (aqd A) x p) (anq A) else msk A x v := rfl
      have hle := msk_le A x v
      have hle2 := cntN_le (fun p => vK A v p = Ky (anq A) (aqd A) x p) (anq A)
      refine z_iload_n dX9_mostSameKeys_23 rfl ?_
      refine z_aload_n dX9_mostSameKeys_24 rfl ?_
      refine z_getR fRX9_10 dX9_mostSameKeys_25 (by first | assumption | rfl) (by rfl) ?_
      refine z_getI fRX9_103 dX9_mostSameKeys_28 (by first | assumption | rfl) (by rfl) ?_
      refine z_icmp_ge (tgt := 79) dX9_mostSameKeys_31 (by decide) (fun hb => absurd hb (by rw [hC.1.2.1]; exact nI_ge (by omega) (by omega))) (fun _ => ?_)
      refine z_aload_n dX9_mostSameKeys_34 rfl ?_
      refine z_iload_n dX9_mostSameKeys_35 rfl ?_
      refine z_cV1p mX9_paperOf gRX9_119 dX9_mostSameKeys_36 (s_paperOf hC rfl hv1) (by decide) (by first | assumption | rfl) (by rfl) (Nat.le_of_ble_eq_true rfl) (Nat.le_refl _) (Nat.le_refl _) (fun r J hq => ?_)
      obtain ⟨rfl, b1, b2, b3, b4⟩ := hq
      have hP2 : Pm J 114 (anq A) (aqd A) x := hP.keep (fun a q1 q2 => b1 a (by omega))
      have hf2 : ∀ a, 259 ≤ a → J a = I a := fun a ha => by rw [b1 a (by omega), hfr a ha]
      refine z_ast4 dX9_mostSameKeys_39 (by decide) rfl ?_
      refine z_aload dX9_mostSameKeys_41 rfl ?_
      refine z_ifnull dX9_mostSameKeys_43 ?_
      refine z_iload_n dX9_mostSameKeys_46 rfl ?_
      refine z_aload dX9_mostSameKeys_47 rfl ?_
      refine z_getR fRX9_145 dX9_mostSameKeys_49 (by first | assumption | rfl) (by rfl) ?_
      refine z_aload_n dX9_mostSameKeys_52 rfl ?_
      refine z_getR fRX9_37 dX9_mostSameKeys_53 (by first | assumption | rfl) (by rfl) ?_
      refine z_getR fRX9_145 dX9_mostSameKeys_56 (by first | assumption | rfl) (by rfl) ?_
      refine z_aload_n dX9_mostSameKeys_59 rfl ?_
      refine z_getR fRX9_37 dX9_mostSameKeys_60 (by first | assumption | rfl) (by rfl) ?_
      refine z_getI fRX9_140 dX9_mostSameKeys_63 (by first | assumption | rfl) (by rfl) ?_
      rw [hP2.1]
      refine z_cV2s mX6_countSame gRX9_141 dX9_mostSameKeys_66 (s_sameAs hpp.2.2.2.1 hcd.2.2.2.1 rfl (show anq A ≤ 20 by omega)) (by decide) (by first | assumption | rfl) (by rfl) (Nat.le_of_ble_eq_true rfl) (Nat.le_refl _) (Nat.le_refl _) ?_
      rw [show cnt (fun k => J (139 + 20 * v + 5 + 1) k = J (114 + 5 + 1) k) (anq A) = cntN (fun p => vK A v p = Ky (anq A) (aqd A) x p) (anq A) from by
          rw [cntN_eq]
          refine cntN_congr (fun p hp9 => ?_)
          have a1 := (Ky_lt (seed := asd A v) h.2.1.1 hp9).1
          have a2 := (Ky_lt (seed := x) h.2.1.1 hp9).1
          have a3 := (h.2.1.1.2 _ ((Od_en (anq A) (aqd A) (asd A v)).1 p hp9)).2.2.2.1
          have a4 := (h.2.1.1.2 _ ((Od_en (anq A) (aqd A) x).1 p hp9)).2.2.2.1
          rw [b3.2.2.2.2 p hp9, hP2.2.2.2.2 p hp9]
          exact nI_eq (by omega) (by omega)]
      refine z_mmax gRX9_250 j_max_static j_math_ini j_max_code dX9_mostSameKeys_69 (by decide) (Nat.le_of_ble_eq_true rfl) (Nat.le_refl _) (Nat.le_refl _) ?_
      rw [z_max _ _ (by omega) (by omega), ← e1]
      refine z_ist2 dX9_mostSameKeys_72 (by decide) rfl ?_
      refine z_inc3 (w := 1) dX9_mostSameKeys_73 rfl (by decide) rfl ?_
      refine z_goto (tgt := 23) dX9_mostSameKeys_76 (by decide) ?_
      have := ih (v + 1) J (by omega) hf2 b2 hP2
      rw [nI_1]
      refine z_fg4 ?_
      exact this
  refine z_aload_n dX9_mostSameKeys_0 rfl ?_
  refine z_getR fRX9_26 dX9_mostSameKeys_1 (by first | assumption | rfl) (by rfl) ?_
  refine z_aload_n dX9_mostSameKeys_4 rfl ?_
  refine z_getR fRX9_10 dX9_mostSameKeys_5 (by first | assumption | rfl) (by rfl) ?_
  refine z_getR fRX9_76 dX9_mostSameKeys_8 (by first | assumption | rfl) (by rfl) ?_
  refine z_iload_n dX9_mostSameKeys_11 rfl ?_
  refine z_aload_n dX9_mostSameKeys_12 rfl ?_
  refine z_getR fRX9_37 dX9_mostSameKeys_13 (by first | assumption | rfl) (by rfl) ?_
  refine z_cV3p mX3_mix gRX9_242 dX9_mostSameKeys_16 (s_mix h.1.1 h.2.1.1 hcd (by omega)) (by decide) (by first | assumption | rfl) (by rfl) (Nat.le_of_ble_eq_true rfl) (Nat.le_refl _) (Nat.le_refl _) (fun r J hq => ?_)
  obtain ⟨rfl, b1, b2, b3⟩ := hq
  have hlo : ∀ a, a < 106 → J a = I a := fun a ha => b1 a (by omega) (by omega) (by omega) (by omega) (by omega) (by omega) (by omega) (by omega) (by omega)
  have hhi : ∀ a, 134 ≤ a → J a = I a := fun a ha => b1 a (by omega) (by omega) (by omega) (by omega) (by omega) (by omega) (by omega) (by omega) (by omega)
  have hC : CI J A hc Hh tc bf := by
    refine h.keep (fun a ha => hlo a (by omega)) (hhi 138 (by omega)) ?_
    intro w hw
    rcases h.2.2.2.1 w hw with g | ⟨g1, g2, g3, g4⟩
    · exact Or.inl (by rw [hhi _ (by omega)]; exact g)
    · exact Or.inr ⟨by rw [hhi _ (by omega)]; exact g1, g2, g3.keep (fun a q1 q2 => hhi a (by omega)), g4.keep (fun a q1 q2 => hhi a (by omega))⟩
  refine z_iconst (v := 0) dX9_mostSameKeys_19 rfl ?_
  refine z_ist2 dX9_mostSameKeys_20 (by decide) rfl ?_
  refine z_iconst (v := 0) dX9_mostSameKeys_21 rfl ?_
  refine z_ist3 dX9_mostSameKeys_22 (by decide) rfl ?_
  exact loop (anv A) 0 J (by omega) (fun a ha => hhi a (by omega)) hC b3
noncomputable def ulF (A : AS) (x : Int32) : Nat → Int32 × Nat
  | 0 => (x, 21)
  | k + 1 => if msk A (x + nI k) (anv A) < (ulF A x k).2 then (x + nI k, msk A (x + nI k) (anv A)) else ulF A x k
theorem ulF_le {A : AS} {x : Int32} (hn : anq A ≤ 20) : ∀ k, (ulF A x k).2 ≤ 21
  | 0 => Nat.le_refl _
  | k + 1 => by
    have h1 := ulF_le (A := A) (x := x) hn k
    have h2 := msk_le A (x + nI k) (anv A)
    rw [ulF]
    split
    · show msk A (x + nI k) (anv A) ≤ 21; omega
    · exact h1
def aUnlike (A : AS) (x y : Int32) (r : Int64) : Prop := (∃ n, 1 ≤ n ∧ n ≤ 40 ∧ y = nI n ∧ r = (ulF A x n).1.toInt64) ∨ ((¬ ∃ n, 1 ≤ n ∧ n ≤ 40 ∧ y = nI n) ∧ r = -4611686018427387905)
theorem s_unlike {I : ZI} {A : AS} {hc : Nat} {Hh : Nat → AS} {tc : Nat} {bf : Nat → Nat} {x y : Int32} (h : CI I A hc Hh tc bf) : ZP yX9_unlike cX9_unlike 7 (some FieldType.long) 7 [.ref 0, .int x, .int y] Sg I (fun r J => (∃ a, r = some (.long a) ∧ aUnlike A x y a) ∧ (∀ a, 259 ≤ a → J a = I a) ∧ CI J A hc Hh tc bf) := by
  have hn := h.2.1.1.1
  refine ZSp.of (own := RX9) (L := [.ref 0, .int x, .int y, zj, zj, zj, zj]) mX9_unlike rfl (List.all_eq_true.mp rfl) (Nat.le_of_ble_eq_true rfl) rfl (fun X hE hN => ?_)
  have bad : (¬ ∃ n, 1 ≤ n ∧ n ≤ 40 ∧ y = nI n) → (ZG X RX9 cX9_unlike 7 7 0 0 0 0 11 [.ref 0, .int x, .int y, zj, zj, zj, zj] [] Sg I) := by
    intro hw
    refine z_ldc2 kRX9_152 dX9_unlike_11 ?_
    exact z_lret hE dX9_unlike_14 ⟨rfl, ⟨_, rfl, Or.inr ⟨hw, rfl⟩⟩, fun _ _ => rfl, h⟩
  have loop : ∀ (n : Nat), 1 ≤ n → n ≤ 40 → y = nI n → ∀ (m k : Nat) (J : ZI), k + m = n → (∀ a, 259 ≤ a → J a = I a) → CI J A hc Hh tc bf → (ZG X RX9 cX9_unlike 7 7 0 0 0 0 24 [.ref 0, .int x, .int (nI n), .int (ulF A x k).1, .int (nI (ulF A x k).2), .int (nI k), zj] [] Sg J) := by
    intro n hn1 hn2 hy m
    induction m with
    | zero =>
      intro k J hk hfr hC
      have e : k = n := by omega
      subst e
      refine z_iload dX9_unlike_24 rfl ?_
      refine z_iload_n dX9_unlike_26 rfl ?_
      refine z_icmp_ge (tgt := 62) dX9_unlike_27 (by decide) (fun _ => ?_) (fun hb => absurd (nI_le (Nat.le_refl _) (by omega)) hb)
      refine z_iload_n dX9_unlike_62 rfl ?_
      refine z_i2l dX9_unlike_63 ?_
      exact z_lret hE dX9_unlike_64 ⟨rfl, ⟨_, rfl, Or.inl ⟨k, hn1, hn2, hy, rfl⟩⟩, hfr, hC⟩
    | succ m ih =>
      intro k K hk hfr hC
      have e1 : ulF A x (k + 1) = if msk A (x + nI k) (anv A) < (ulF A x k).2 then (x + nI k, msk A (x + nI k) (anv A)) else ulF A x k := rfl
      have hle := ulF_le (A := A) (x := x) hn k
      have hle2 := msk_le A (x + nI k) (anv A)
      refine z_iload dX9_unlike_24 rfl ?_
      refine z_iload_n dX9_unlike_26 rfl ?_
      refine z_icmp_ge (tgt := 62) dX9_unlike_27 (by decide) (fun hb => absurd hb (nI_ge (by omega) (by omega))) (fun _ => ?_)
      refine z_aload_n dX9_unlike_30 rfl ?_
      refine z_iload_n dX9_unlike_31 rfl ?_
      refine z_iload dX9_unlike_32 rfl ?_
      refine z_iadd dX9_unlike_34 ?_
      refine z_cV1p mX9_mostSameKeys gRX9_154 dX9_unlike_35 (s_msk hC) (by decide) (by first | assumption | rfl) (by rfl) (Nat.le_of_ble_eq_true rfl) (Nat.le_refl _) (Nat.le_refl _) (fun r J hq => ?_)
      obtain ⟨rfl, b1, b2⟩ := hq
      have nxt := ih (k + 1) J (by omega) (fun a ha => by rw [b1 a ha, hfr a ha]) b2
      refine z_ist6 dX9_unlike_38 (by decide) rfl ?_
      refine z_iload dX9_unlike_40 rfl ?_
      refine z_iload dX9_unlike_42 rfl ?_
      refine z_icmp_ge (tgt := 56) dX9_unlike_44 (by decide) (fun ha => ?_) (fun ha => ?_)
      · refine z_inc5 (w := 1) dX9_unlike_56 rfl (by decide) rfl ?_
        refine z_goto (tgt := 24) dX9_unlike_59 (by decide) ?_
        have hlt : ¬ msk A (x + nI k) (anv A) < (ulF A x k).2 := fun z => absurd ha (nI_ge z (by omega))
        rw [e1, if_neg hlt] at nxt
        rw [nI_1]
        refine z_fg6 ?_
        exact nxt
      · refine z_iload dX9_unlike_47 rfl ?_
        refine z_ist4 dX9_unlike_49 (by decide) rfl ?_
        refine z_iload_n dX9_unlike_51 rfl ?_
        refine z_iload dX9_unlike_52 rfl ?_
        refine z_iadd dX9_unlike_54 ?_
        refine z_ist3 dX9_unlike_55 (by decide) rfl ?_
        refine z_inc5 (w := 1) dX9_unlike_56 rfl (by decide) rfl ?_
        refine z_goto (tgt := 24) dX9_unlike_59 (by decide) ?_
        have hlt : msk A (x + nI k) (anv A) < (ulF A x k).2 := by
          rcases Nat.lt_or_ge (msk A (x + nI k) (anv A)) (ulF A x k).2 with z | z
          · exact z
          · exact absurd (nI_le z (by omega)) ha
        rw [e1, if_pos hlt] at nxt
        rw [nI_1]
        refine z_fg6 ?_
        exact nxt
  refine z_iload_n dX9_unlike_0 rfl ?_
  refine z_iconst (v := 1) dX9_unlike_1 rfl ?_
  refine z_icmp_lt (tgt := 11) dX9_unlike_2 (by decide) (fun h1 => ?_) (fun h1 => ?_)
  · refine bad ?_
    rintro ⟨n, n1, n2, rfl⟩
    exact absurd h1 (nI_nlt (b := 1) n1 (by omega))
  · refine z_iload_n dX9_unlike_5 rfl ?_
    refine z_bipush (v := 40) dX9_unlike_6 rfl ?_
    refine z_icmp_le (tgt := 15) dX9_unlike_8 (by decide) (fun h2 => ?_) (fun h2 => ?_)
    · refine z_iload_n dX9_unlike_15 rfl ?_
      refine z_ist3 dX9_unlike_16 (by decide) rfl ?_
      refine z_bipush (v := 21) dX9_unlike_17 rfl ?_
      refine z_ist4 dX9_unlike_19 (by decide) rfl ?_
      refine z_iconst (v := 0) dX9_unlike_21 rfl ?_
      refine z_ist5 dX9_unlike_22 (by decide) rfl ?_
      have hp : ¬ y < 0 := fun z => h1 (Int32.lt_trans z (by decide))
      obtain ⟨n, hn2, rfl⟩ := nI_of2 (M := 40) (n := 40) rfl hp h2
      have hn1 : 1 ≤ n := by
        rcases Nat.lt_or_ge n 1 with z | z
        · have e : n = 0 := by omega
          subst e
          exact absurd (by decide) h1
        · exact z
      exact loop n hn1 hn2 rfl n 0 I (by omega) (fun _ _ => rfl) h
    · refine bad ?_
      rintro ⟨n, n1, n2, rfl⟩
      exact absurd (nI_le (b := 40) n2 (by decide)) h2

