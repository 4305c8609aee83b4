/-! ===== the model: unlike ===== -/
theorem od_k {A : AS} {seed : Int32} {p : Nat} (hV : AV A) (hp : p < anq A) : Od (anq A) (aqd A) seed p < 1000 ∧ Ky (anq A) (aqd A) seed p < 1000 := by
  have h1 := (Od_en (anq A) (aqd A) seed).1 p hp
  have h2 := (Ky_lt (seed := seed) hV.1 hp).1
  have h3 := (hV.1.2 _ h1).2.2.2.1
  have h4 := hV.1.1
  exact ⟨by omega, by omega⟩
noncomputable def lsN (A : AS) (x : Int32) (k : Nat) : Nat := if k = 0 then 99 else (ulF A x k).2
theorem q_unlike {I : ZI} {A : AS} {hc : Nat} {Hh : Nat → AS} {tc : Nat} {bf : Nat → Nat} {x y : Int32} {a : Int64} (h : RI I A hc Hh tc bf) (hD : aUnlike A x y a) : ZP yX10_unlike cX10_unlike 8 (some FieldType.long) 5 [.ref 259, .int x, .int y] Sg I (fun r J => r = some (.long a) ∧ (∀ a, a < 259 → J a = I a) ∧ RI J A hc Hh tc bf) := by
  have g0 := m_obj
  have hn := h.2.1.1.1
  have hnv := h.2.1.2.1
  have hV := h.2.1
  refine ZSp.of (own := RX10) (L := [.ref 259, .int x, .int y, zj, zj, zj, zj, zj]) mX10_unlike rfl (List.all_eq_true.mp rfl) (Nat.le_of_ble_eq_true rfl) rfl (fun X hE hN => ?_)
  refine z_iload_n dX10_unlike_0 rfl ?_
  refine z_iconst (v := 1) dX10_unlike_1 rfl ?_
  refine z_bipush (v := 40) dX10_unlike_2 rfl ?_
  rcases hD with ⟨n, n1, n2, rfl, rfl⟩ | ⟨hb, rfl⟩
  · have loop : ∀ (m k : Nat) (K : ZI), k + m = n → (∀ a, a < 259 → K a = I a) → RI K A hc Hh tc bf → (ZG X RX10 cX10_unlike 8 5 0 0 0 0 23 [.ref 259, .int x, .int (nI n), .int (ulF A x k).1, .int (nI (lsN A x k)), .int (nI k), zj, zj] [] Sg K) := by
      intro m
      induction m with
      | zero =>
        intro k K hk c1 c2
        have e : k = n := by omega
        subst e
        refine z_iload dX10_unlike_23 rfl ?_
        refine z_iload_n dX10_unlike_25 rfl ?_
        refine z_icmp_ge (tgt := 130) dX10_unlike_26 (by decide) (fun _ => ?_) (fun hb => absurd (nI_le (Nat.le_refl _) (by omega)) hb)
        refine z_iload_n dX10_unlike_130 rfl ?_
        refine z_i2l dX10_unlike_131 ?_
        exact z_lret hE dX10_unlike_132 ⟨rfl, rfl, c1, c2⟩
      | succ m ih =>
        intro k K hk c1 c2
        have e1 : ulF A x (k + 1) = if msk A (x + nI k) (anv A) < (ulF A x k).2 then (x + nI k, msk A (x + nI k) (anv A)) else ulF A x k := rfl
        have hle := ulF_le (A := A) (x := x) hn k
        have hle2 := msk_le A (x + nI k) (anv A)
        have els : msk A (x + nI k) (anv A) < lsN A x k ↔ msk A (x + nI k) (anv A) < (ulF A x k).2 := by
          unfold lsN
          by_cases e : k = 0
          · subst e
            rw [if_pos rfl]
            have e2 : (ulF A x 0).2 = 21 := rfl
            rw [e2]
            exact ⟨fun _ => by omega, fun _ => by omega⟩
          · rw [if_neg e]
        have hls : lsN A x k ≤ 99 := by
          unfold lsN
          by_cases e : k = 0
          · rw [if_pos e]; exact Nat.le_refl _
          · rw [if_neg e]; omega
        have els1 : lsN A x (k + 1) = (ulF A x (k + 1)).2 := if_neg (by omega)
        have inner : ∀ (m w : Nat) (K : ZI), w + m = anv A → (∀ a, a < 259 → K a = I a) → RI K A hc Hh tc bf → (∀ p, p < anq A → K 269 p = nI (Od (anq A) (aqd A) (x + nI k) p)) → (∀ p, p < anq A → K 270 p = nI (Ky (anq A) (aqd A) (x + nI k) p)) → (ZG X RX10 cX10_unlike 8 5 0 0 0 0 47 [.ref 259, .int x, .int (nI n), .int (ulF A x k).1, .int (nI (lsN A x k)), .int (nI k), .int (nI (msk A (x + nI k) w)), .int (nI w)] [] Sg K) := by
          intro m
          induction m with
          | zero =>
            intro w K hw c1 c2 c3 c4
            have e : w = anv A := by omega
            subst e
            have nxt := ih (k + 1) K (by omega) c1 c2
            rw [els1, e1] at nxt
            refine z_iload dX10_unlike_47 rfl ?_
            refine z_aload_n dX10_unlike_49 rfl ?_
            refine z_getR fRX10_7 dX10_unlike_50 (by first | assumption | rfl) (by rfl) ?_
            refine z_iconst (v := 1) dX10_unlike_53 rfl ?_
            refine z_ialdN (j := 1) dX10_unlike_54 m_v (rfl) (by decide) (by decide) ?_
            rw [c2.1.2.1]
            refine z_icmp_ge (tgt := 92) dX10_unlike_55 (by decide) (fun _ => ?_) (fun hb => absurd (nI_le (Nat.le_refl _) (by omega)) hb)
            refine z_iload dX10_unlike_92 rfl ?_
            refine z_iload dX10_unlike_94 rfl ?_
            by_cases hlt : msk A (x + nI k) (anv A) < lsN A x k
            · rw [if_pos (els.mp hlt)] at nxt
              refine z_icmp_ge (tgt := 106) dX10_unlike_96 (by decide) (fun hb => absurd hb (nI_ge hlt (by omega))) (fun _ => ?_)
              refine z_iload_n dX10_unlike_99 rfl ?_
              refine z_iload dX10_unlike_100 rfl ?_
              refine z_iadd dX10_unlike_102 ?_
              refine z_goto (tgt := 107) dX10_unlike_103 (by decide) ?_
              refine z_ist3 dX10_unlike_107 (by decide) rfl ?_
              refine z_iload dX10_unlike_108 rfl ?_
              refine z_iload dX10_unlike_110 rfl ?_
              refine z_icmp_ge (tgt := 120) dX10_unlike_112 (by decide) (fun hb => absurd hb (nI_ge hlt (by omega))) (fun _ => ?_)
              refine z_iload dX10_unlike_115 rfl ?_
              refine z_goto (tgt := 122) dX10_unlike_117 (by decide) ?_
              refine z_ist4 dX10_unlike_122 (by decide) rfl ?_
              refine z_inc5 (w := 1) dX10_unlike_124 rfl (by decide) rfl ?_
              refine z_goto (tgt := 23) dX10_unlike_127 (by decide) ?_
              rw [nI_1]
              refine z_fg6 (z_fg7 ?_)
              exact nxt
            · rw [if_neg (fun z => hlt (els.mpr z))] at nxt
              have e0 : lsN A x k = (ulF A x k).2 := by
                unfold lsN
                by_cases e : k = 0
                · subst e
                  exact absurd (show msk A (x + nI 0) (anv A) < lsN A x 0 from by
                    have e2 : lsN A x 0 = 99 := if_pos rfl
                    rw [e2]
                    omega) hlt
                · rw [if_neg e]
              rw [← e0] at nxt
              refine z_icmp_ge (tgt := 106) dX10_unlike_96 (by decide) (fun _ => ?_) (fun hb => absurd (nI_le (by omega) (by omega)) hb)
              refine z_iload_n dX10_unlike_106 rfl ?_
              refine z_ist3 dX10_unlike_107 (by decide) rfl ?_
              refine z_iload dX10_unlike_108 rfl ?_
              refine z_iload dX10_unlike_110 rfl ?_
              refine z_icmp_ge (tgt := 120) dX10_unlike_112 (by decide) (fun _ => ?_) (fun hb => absurd (nI_le (by omega) (by omega)) hb)
              refine z_iload dX10_unlike_120 rfl ?_
              refine z_ist4 dX10_unlike_122 (by decide) rfl ?_
              refine z_inc5 (w := 1) dX10_unlike_124 rfl (by decide) rfl ?_
              refine z_goto (tgt := 23) dX10_unlike_127 (by decide) ?_
              rw [nI_1]
              refine z_fg6 (z_fg7 ?_)
              exact nxt
          | succ m ih2 =>
            intro w K hw c1 c2 c3 c4
            have hw1 : w < anv A := by omega
            have e2 : msk A (x + nI k) (w + 1) = if msk A (x + nI k) w < cntN (fun p => vK A w p = Ky (anq A) (aqd A) (x + nI k) p) (anq A) then cntN (fun p => vK A w p = Ky (anq A) (aqd A) (x + nI k) p) (anq A) else msk A (x + nI k) w := rfl
            have hl1 := msk_le A (x + nI k) w
            have hl2 := cntN_le (fun p => vK A w p = Ky (anq A) (aqd A) (x + nI k) p) (anq A)
            refine z_iload dX10_unlike_47 rfl ?_
            refine z_aload_n dX10_unlike_49 rfl ?_
            refine z_getR fRX10_7 dX10_unlike_50 (by first | assumption | rfl) (by rfl) ?_
            refine z_iconst (v := 1) dX10_unlike_53 rfl ?_
            refine z_ialdN (j := 1) dX10_unlike_54 m_v (rfl) (by decide) (by decide) ?_
            rw [c2.1.2.1]
            refine z_icmp_ge (tgt := 92) dX10_unlike_55 (by decide) (fun hb => absurd hb (nI_ge (by omega) (by omega))) (fun _ => ?_)
            refine z_aload_n dX10_unlike_58 rfl ?_
            refine z_iload dX10_unlike_59 rfl ?_
            refine z_cV1p mX10_opens gRX10_106 dX10_unlike_61 (q_opens c2.1 c2.2.1 rfl hw1) (by decide) (by first | assumption | rfl) (by rfl) (Nat.le_of_ble_eq_true rfl) (Nat.le_refl _) (Nat.le_refl _) (fun r J hq => ?_)
            obtain ⟨rfl, d1, d2⟩ := hq
            have hR3 := d1.ri c2
            have c5 : ∀ p, p < anq A → J 269 p = nI (Od (anq A) (aqd A) (x + nI k) p) := fun p hp => by rw [d1.1 269 (by omega)]; exact c3 p hp
            have c6 : ∀ p, p < anq A → J 270 p = nI (Ky (anq A) (aqd A) (x + nI k) p) := fun p hp => by rw [d1.1 270 (by omega)]; exact c4 p hp
            have nxt := ih2 (w + 1) J (by omega) (fun a ha => by rw [d1.1 a (Or.inl ha), c1 a ha]) hR3 c5 c6
            rw [e2] at nxt
            have hcm := q_common (x := 1) hR3.1 hn (Or.inr (Or.inl rfl)) (fun p hp => ⟨d2.1 p hp, (od_k hV hp).1⟩) (fun p hp => ⟨c5 p hp, (od_k hV hp).1⟩) (fun p hp => ⟨d2.2.1 p hp, (od_k hV hp).2⟩) (fun p hp => ⟨c6 p hp, (od_k hV hp).2⟩)
            have ecm : cmN 1 (Od (anq A) (aqd A) (asd A w)) (Od (anq A) (aqd A) (x + nI k)) (Ky (anq A) (aqd A) (asd A w)) (Ky (anq A) (aqd A) (x + nI k)) (anq A) = cntN (fun p => vK A w p = Ky (anq A) (aqd A) (x + nI k) p) (anq A) := rfl
            rw [ecm] at hcm
            refine z_aload_n dX10_unlike_64 rfl ?_
            refine z_iconst (v := 1) dX10_unlike_65 rfl ?_
            refine z_cV1s mX10_common gRX10_121 dX10_unlike_66 (hcm) (by decide) (by first | assumption | rfl) (by rfl) (Nat.le_of_ble_eq_true rfl) (Nat.le_refl _) (Nat.le_refl _) ?_
            refine z_iload dX10_unlike_69 rfl ?_
            by_cases hlt : msk A (x + nI k) w < cntN (fun p => vK A w p = Ky (anq A) (aqd A) (x + nI k) p) (anq A)
            · rw [if_pos hlt] at nxt
              refine z_icmp_le (tgt := 82) dX10_unlike_71 (by decide) (fun hb => absurd hb (nI_ge hlt (by omega))) (fun _ => ?_)
              refine z_aload_n dX10_unlike_74 rfl ?_
              refine z_iconst (v := 1) dX10_unlike_75 rfl ?_
              refine z_cV1s mX10_common gRX10_121 dX10_unlike_76 (hcm) (by decide) (by first | assumption | rfl) (by rfl) (Nat.le_of_ble_eq_true rfl) (Nat.le_refl _) (Nat.le_refl _) ?_
              refine z_goto (tgt := 84) dX10_unlike_79 (by decide) ?_
              refine z_ist6 dX10_unlike_84 (by decide) rfl ?_
              refine z_inc7 (w := 1) dX10_unlike_86 rfl (by decide) rfl ?_
              refine z_goto (tgt := 47) dX10_unlike_89 (by decide) ?_
              rw [nI_1]
              exact nxt
            · rw [if_neg hlt] at nxt
              refine z_icmp_le (tgt := 82) dX10_unlike_71 (by decide) (fun _ => ?_) (fun hb => absurd (nI_le (by omega) (by omega)) hb)
              refine z_iload dX10_unlike_82 rfl ?_
              refine z_ist6 dX10_unlike_84 (by decide) rfl ?_
              refine z_inc7 (w := 1) dX10_unlike_86 rfl (by decide) rfl ?_
              refine z_goto (tgt := 47) dX10_unlike_89 (by decide) ?_
              rw [nI_1]
              exact nxt
        refine z_iload dX10_unlike_23 rfl ?_
        refine z_iload_n dX10_unlike_25 rfl ?_
        refine z_icmp_ge (tgt := 130) dX10_unlike_26 (by decide) (fun hb => absurd hb (nI_ge (by omega) (by omega))) (fun _ => ?_)
        refine z_aload_n dX10_unlike_29 rfl ?_
        refine z_iload_n dX10_unlike_30 rfl ?_
        refine z_iload dX10_unlike_31 rfl ?_
        refine z_iadd dX10_unlike_33 ?_
        refine z_cV1p mX10_mixesAll gRX10_92 dX10_unlike_34 (q_mixesAll c2.1 c2.2.1) (by decide) (by first | assumption | rfl) (by rfl) (Nat.le_of_ble_eq_true rfl) (Nat.le_refl _) (Nat.le_refl _) (fun r J hq => ?_)
        obtain ⟨rfl, b1, b2⟩ := hq
        have hR1 := b1.ri c2
        refine z_aload_n dX10_unlike_37 rfl ?_
        refine z_cV0p mX10_puts gRX10_118 dX10_unlike_38 (q_puts) (by decide) (by first | assumption | rfl) (by rfl) (Nat.le_of_ble_eq_true rfl) (Nat.le_refl _) (Nat.le_refl _) (fun r J hq => ?_)
        obtain ⟨rfl, e1, e2, e3⟩ := hq
        have hR2 : RI J A hc Hh tc bf := hR1.keep (e1 260 (by decide) (by decide)) (e1 261 (by decide) (by decide)) (e1 271 (by decide) (by decide)) (by rw [e1 259 (by decide) (by decide)]) (by rw [e1 259 (by decide) (by decide)])
        refine z_iconst (v := 0) dX10_unlike_41 rfl ?_
        refine z_ist6 dX10_unlike_42 (by decide) rfl ?_
        refine z_iconst (v := 0) dX10_unlike_44 rfl ?_
        refine z_ist7 dX10_unlike_45 (by decide) rfl ?_
        exact inner (anv A) 0 J (by omega) (fun a ha => by rw [e1 a (by omega) (by omega), b1.1 a (Or.inl ha), c1 a ha]) hR2 (fun p hp => by rw [e2 p (by omega)]; exact b2.1 p hp) (fun p hp => by rw [e3 p (by omega)]; exact b2.2.1 p hp)
    refine z_cS3s mX10_in gRX10_50 dX10_unlike_4 (q_in (r := 1) (fun _ _ => rfl) (fun z => z.elim (fun e => absurd e (nI_nlt (b := 1) n1 (by omega))) (fun e => absurd e (nI_nlt (b := n) (a := 40) n2 (by decide))))) (by decide) (Nat.le_of_ble_eq_true rfl) (Nat.le_refl _) (Nat.le_refl _) ?_
    refine z_if_ne (tgt := 14) dX10_unlike_7 (by decide) (fun _ => ?_) (fun hb => absurd hb (by decide))
    refine z_iload_n dX10_unlike_14 rfl ?_
    refine z_ist3 dX10_unlike_15 (by decide) rfl ?_
    refine z_bipush (v := 99) dX10_unlike_16 rfl ?_
    refine z_ist4 dX10_unlike_18 (by decide) rfl ?_
    refine z_iconst (v := 0) dX10_unlike_20 rfl ?_
    refine z_ist5 dX10_unlike_21 (by decide) rfl ?_
    exact loop n 0 I (by omega) (fun _ _ => rfl) h
  · have hy : ¬ (¬ y < 1 ∧ y ≤ 40) := by
      rintro ⟨y1, y2⟩
      obtain ⟨w, hw, rfl⟩ := nI_of2 (M := 40) (n := 40) rfl (fun z => y1 (Int32.lt_trans z (by decide))) y2
      refine hb ⟨w, ?_, hw, rfl⟩
      rcases Nat.lt_or_ge w 1 with z | z
      · exact absurd (nI_lt (b := 1) z (by decide)) y1
      · exact z
    refine z_cS3s mX10_in gRX10_50 dX10_unlike_4 (q_in (r := 0) (fun y1 y2 => absurd ⟨y1, y2⟩ hy) (fun _ => rfl)) (by decide) (Nat.le_of_ble_eq_true rfl) (Nat.le_refl _) (Nat.le_refl _) ?_
    refine z_if_ne (tgt := 14) dX10_unlike_7 (by decide) (fun hb => absurd (rfl) hb) (fun _ => ?_)
    refine z_ldc2 kRX10_124 dX10_unlike_10 ?_
    exact z_lret hE dX10_unlike_13 ⟨rfl, rfl, fun _ _ => rfl, h⟩

