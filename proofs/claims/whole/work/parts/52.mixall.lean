/-! ===== the model: a version mixed, and opened -/
theorem q_mixesAll {I : ZI} {A : AS} {seed : Int32} (h : RV (I 260) A) (hV : AV A) : ZP yX10_mixesAll cX10_mixesAll 6 none 3 [.ref 259, .int seed] Sg I (fun r J => r = none ∧ MFr I J ∧ MPf J A seed) := by
  have g0 := m_obj
  have hn := hV.1.1
  have hcn := col_le (lead (aqd A)) (anq A)
  refine ZSp.of (own := RX10) (L := [.ref 259, .int seed, zj, zj, zj, zj]) mX10_mixesAll rfl (List.all_eq_true.mp rfl) (Nat.le_of_ble_eq_true rfl) rfl (fun X hE hN => ?_)
  have units : ∀ (m i : Nat) (K : ZI), i + m = (col (lead (aqd A)) (anq A)).1 → MFr I K → K 259 3 = (mxU (anq A) (aqd A) seed).1 → Rp (K 265) (mxU (anq A) (aqd A) seed).2 (col (lead (aqd A)) (anq A)).1 → Rp (K 266) (mxU (anq A) (aqd A) seed).2 i
      → (ZG X RX10 cX10_mixesAll 6 3 0 0 0 0 67 [.ref 259, .int seed, .int (nI (col (lead (aqd A)) (anq A)).1), .int (nI i), zj, zj] [] Sg K) := by
    intro m
    induction m with
    | zero =>
      intro i K hi c1 c2 c3 c4
      have e : i = (col (lead (aqd A)) (anq A)).1 := by omega
      subst e
      refine z_iload_n dX10_mixesAll_67 rfl ?_
      refine z_iload_n dX10_mixesAll_68 rfl ?_
      refine z_icmp_ge (tgt := 90) dX10_mixesAll_69 (by decide) (fun _ => ?_) (fun hb => absurd (nI_le (Nat.le_refl _) (by omega)) hb)
      refine z_iconst (v := 0) dX10_mixesAll_90 rfl ?_
      refine z_ist3 dX10_mixesAll_91 (by decide) rfl ?_
      refine z_iconst (v := 0) dX10_mixesAll_92 rfl ?_
      refine z_ist4 dX10_mixesAll_93 (by decide) rfl ?_
      exact q_mixUnits hE h hV (fun J q1 q2 => ⟨rfl, rfl, q1, q2⟩) (col (lead (aqd A)) (anq A)).1 0 K (by omega) c1 c4 c2 (fun j hj => absurd hj (Nat.not_lt_zero j))
    | succ m ih =>
      intro i K hi c1 c2 c3 c4
      refine z_iload_n dX10_mixesAll_67 rfl ?_
      refine z_iload_n dX10_mixesAll_68 rfl ?_
      refine z_icmp_ge (tgt := 90) dX10_mixesAll_69 (by decide) (fun hb => absurd hb (nI_ge (by omega) (by omega))) (fun _ => ?_)
      refine z_aload_n dX10_mixesAll_72 rfl ?_
      refine z_getR fRX10_28 dX10_mixesAll_73 (by first | assumption | rfl) (by rfl) ?_
      refine z_iload_n dX10_mixesAll_76 rfl ?_
      refine z_aload_n dX10_mixesAll_77 rfl ?_
      refine z_getR fRX10_25 dX10_mixesAll_78 (by first | assumption | rfl) (by rfl) ?_
      refine z_iload_n dX10_mixesAll_81 rfl ?_
      refine z_ialdN dX10_mixesAll_82 m_row (rfl) (by omega) (by decide) ?_
      rw [c3 i (by omega)]
      refine z_iastN dX10_mixesAll_83 m_units (rfl) (by omega) (by decide) ?_
      refine z_inc3 (w := 1) dX10_mixesAll_84 rfl (by decide) rfl ?_
      refine z_goto (tgt := 67) dX10_mixesAll_87 (by decide) ?_
      rw [nI_1]
      refine ih (i + 1) _ (by omega) ⟨fun a ha => by rw [zup_ne _ _ _ (by omega)]; exact c1.1 a ha, fun k q1 q2 => by rw [zup_ne _ _ _ (by decide)]; exact c1.2 k q1 q2⟩ (by rw [zup_ne _ _ _ (by decide)]; exact c2) (by rw [zup_ne _ _ _ (by decide)]; exact c3) ?_
      intro j hj
      rw [zup_at]
      by_cases e : j = i
      · rw [e, upd_at]
      · rw [upd_ne _ _ e]
        exact c4 j (by omega)
  have leads : ∀ (m j : Nat) (K : ZI), j + m = anq A → (∀ a, a ≠ 259 → a ≠ 265 → K a = I a) → (∀ i, i ≠ 3 → i ≠ 8 → K 259 i = I 259 i) → K 259 3 = seed → K 259 8 = nI (col (lead (aqd A)) j).1 → Rp (K 265) (col (lead (aqd A)) j).2 (col (lead (aqd A)) j).1
      → (ZG X RX10 cX10_mixesAll 6 3 0 0 0 0 12 [.ref 259, .int seed, .int (nI j), zj, zj, zj] [] Sg K) := by
    intro m
    induction m with
    | zero =>
      intro j K hj c1 c2 c3 c4 c5
      have e : j = anq A := by omega
      subst e
      have hRK : RV (K 260) A := by rw [c1 _ (by decide) (by decide)]; exact h
      refine z_iload_n dX10_mixesAll_12 rfl ?_
      refine z_aload_n dX10_mixesAll_13 rfl ?_
      refine z_getR fRX10_7 dX10_mixesAll_14 (by first | assumption | rfl) (by rfl) ?_
      refine z_iconst (v := 0) dX10_mixesAll_17 rfl ?_
      refine z_ialdN (j := 0) dX10_mixesAll_18 m_v (rfl) (by decide) (by decide) ?_
      rw [hRK.1]
      refine z_icmp_ge (tgt := 56) dX10_mixesAll_19 (by decide) (fun _ => ?_) (fun hb => absurd (nI_le (Nat.le_refl _) (by omega)) hb)
      refine z_aload_n dX10_mixesAll_56 rfl ?_
      refine z_cV0p mX10_mixes gRX10_82 dX10_mixesAll_57 (q_mixes c4 (by omega)) (by decide) (by first | assumption | rfl) (by rfl) (Nat.le_of_ble_eq_true rfl) (Nat.le_refl _) (Nat.le_refl _) (fun r J hq => ?_)
      obtain ⟨rfl, b1, b2, b3, b4⟩ := hq
      have hm := mix_rp ((col (lead (aqd A)) (anq A)).1 - 1) (K 259 3) (K 265) (col (lead (aqd A)) (anq A)).2 (col (lead (aqd A)) (anq A)).1 (by omega) c5
      rw [← b3, ← b4, c3] at hm
      have e8 : J 259 8 = nI (col (lead (aqd A)) (anq A)).1 := by rw [b2 _ (by decide)]; exact c4
      refine z_aload_n dX10_mixesAll_60 rfl ?_
      refine z_getI fRX10_75 dX10_mixesAll_61 (by first | assumption | rfl) (by rfl) ?_
      refine z_ist2 dX10_mixesAll_64 (by decide) rfl ?_
      refine z_iconst (v := 0) dX10_mixesAll_65 rfl ?_
      refine z_ist3 dX10_mixesAll_66 (by decide) rfl ?_
      rw [e8]
      exact units (col (lead (aqd A)) (anq A)).1 0 J (by omega) ⟨fun a ha => by rw [b1 a (by omega) (by omega)]; exact c1 a (by omega) (by omega), fun i q1 q2 => by rw [b2 i q1]; exact c2 i q1 q2⟩ hm.1 hm.2 (fun j hj => absurd hj (Nat.not_lt_zero j))
    | succ m ih =>
      intro j K hj c1 c2 c3 c4 c5
      have hj1 : j < anq A := by omega
      have hcj := col_le (lead (aqd A)) j
      have hRK : RV (K 260) A := by rw [c1 _ (by decide) (by decide)]; exact h
      refine z_iload_n dX10_mixesAll_12 rfl ?_
      refine z_aload_n dX10_mixesAll_13 rfl ?_
      refine z_getR fRX10_7 dX10_mixesAll_14 (by first | assumption | rfl) (by rfl) ?_
      refine z_iconst (v := 0) dX10_mixesAll_17 rfl ?_
      refine z_ialdN (j := 0) dX10_mixesAll_18 m_v (rfl) (by decide) (by decide) ?_
      rw [hRK.1]
      refine z_icmp_ge (tgt := 56) dX10_mixesAll_19 (by decide) (fun hb => absurd hb (nI_ge (by omega) (by omega))) (fun _ => ?_)
      refine z_aload_n dX10_mixesAll_22 rfl ?_
      refine z_iload_n dX10_mixesAll_23 rfl ?_
      refine z_cV1s mX10_leads gRX10_85 dX10_mixesAll_24 (q_leads hRK hV rfl hj1) (by decide) (by first | assumption | rfl) (by rfl) (Nat.le_of_ble_eq_true rfl) (Nat.le_refl _) (Nat.le_refl _) ?_
      by_cases hl : lead (aqd A) j = true
      · rw [hl]
        refine z_if_eq (tgt := 50) dX10_mixesAll_27 (by decide) (fun hb => absurd hb (by decide)) (fun _ => ?_)
        refine z_aload_n dX10_mixesAll_30 rfl ?_
        refine z_getR fRX10_25 dX10_mixesAll_31 (by first | assumption | rfl) (by rfl) ?_
        refine z_aload_n dX10_mixesAll_34 rfl ?_
        refine z_getI fRX10_75 dX10_mixesAll_35 (by first | assumption | rfl) (by rfl) ?_
        refine z_iload_n dX10_mixesAll_38 rfl ?_
        rw [c4]
        refine z_iastN dX10_mixesAll_39 m_row (rfl) (by omega) (by decide) ?_
        refine z_aload_n dX10_mixesAll_40 rfl ?_
        refine z_dup dX10_mixesAll_41 rfl ?_
        refine z_getI fRX10_75 dX10_mixesAll_42 (by first | assumption | rfl) (by rfl) ?_
        refine z_iconst (v := 1) dX10_mixesAll_45 rfl ?_
        refine z_iadd dX10_mixesAll_46 ?_
        refine z_putI fRX10_75 dX10_mixesAll_47 (by first | assumption | rfl) (by rfl) ?_
        refine z_inc2 (w := 1) dX10_mixesAll_50 rfl (by decide) rfl ?_
        refine z_goto (tgt := 12) dX10_mixesAll_53 (by decide) ?_
        have e9 : zup K 265 (col (lead (aqd A)) j).1 (nI j) 259 8 = nI (col (lead (aqd A)) j).1 := by rw [zup_ne _ _ _ (by decide)]; exact c4
        rw [e9, nI_1, nI_1]
        refine ih (j + 1) _ (by omega) (fun a q1 q2 => by rw [zup_ne _ _ _ q1, zup_ne _ _ _ q2]; exact c1 a q1 q2) (fun i q1 q2 => by rw [zup_at, upd_ne _ _ q2, zup_ne _ _ _ (by decide)]; exact c2 i q1 q2) (by rw [zup_at, upd_ne _ _ (by decide), zup_ne _ _ _ (by decide)]; exact c3) (by rw [zup_at, upd_at, col_yes hl]) ?_
        rw [zup_ne _ _ _ (by decide), zup_at, col_yes hl]
        intro i hi
        have hi2 : i < (col (lead (aqd A)) j).1 + 1 := hi
        show upd _ _ _ i = nI (if i = (col (lead (aqd A)) j).1 then j else (col (lead (aqd A)) j).2 i)
        by_cases ei : i = (col (lead (aqd A)) j).1
        · rw [if_pos ei, ei, upd_at]
        · rw [if_neg ei, upd_ne _ _ ei]
          exact c5 i (by omega)
      · have hl2 : lead (aqd A) j = false := Bool.eq_false_iff.mpr hl
        rw [hl2]
        refine z_if_eq (tgt := 50) dX10_mixesAll_27 (by decide) (fun _ => ?_) (fun hb => absurd (rfl) hb)
        refine z_inc2 (w := 1) dX10_mixesAll_50 rfl (by decide) rfl ?_
        refine z_goto (tgt := 12) dX10_mixesAll_53 (by decide) ?_
        rw [nI_1]
        exact ih (j + 1) K (by omega) c1 c2 c3 (by rw [col_no hl]; exact c4) (by rw [col_no hl]; exact c5)
  refine z_aload_n dX10_mixesAll_0 rfl ?_
  refine z_iload_n dX10_mixesAll_1 rfl ?_
  refine z_putI fRX10_72 dX10_mixesAll_2 (by first | assumption | rfl) (by rfl) ?_
  refine z_aload_n dX10_mixesAll_5 rfl ?_
  refine z_iconst (v := 0) dX10_mixesAll_6 rfl ?_
  refine z_putI fRX10_75 dX10_mixesAll_7 (by first | assumption | rfl) (by rfl) ?_
  refine z_iconst (v := 0) dX10_mixesAll_10 rfl ?_
  refine z_ist2 dX10_mixesAll_11 (by decide) rfl ?_
  refine leads (anq A) 0 _ (by omega) (fun a q1 q2 => by rw [zup_ne _ _ _ q1, zup_ne _ _ _ q1]) (fun i q1 q2 => by rw [zup_at, upd_ne _ _ q2, zup_at, upd_ne _ _ q1]) (by rw [zup_at, upd_ne _ _ (by decide), zup_at, upd_at]) (by rw [zup_at, upd_at]; rfl) (fun j hj => absurd hj (Nat.not_lt_zero j))
theorem q_opens {I : ZI} {A : AS} {v : Nat} {x : Int32} (h : RV (I 260) A) (hV : AV A) (hx : x = nI v) (hv : v < anv A) : ZP yX10_opens cX10_opens 2 none 4 [.ref 259, .int x] Sg I (fun r J => r = none ∧ MFr I J ∧ MPf J A (asd A v)) := by
  have g0 := m_obj
  have hnv := hV.2.1
  subst hx
  refine ZSp.of (own := RX10) (L := [.ref 259, .int (nI v)]) mX10_opens rfl (List.all_eq_true.mp rfl) (Nat.le_of_ble_eq_true rfl) rfl (fun X hE hN => ?_)
  refine z_aload_n dX10_opens_0 rfl ?_
  refine z_aload_n dX10_opens_1 rfl ?_
  refine z_getR fRX10_7 dX10_opens_2 (by first | assumption | rfl) (by rfl) ?_
  refine z_bipush (v := 110) dX10_opens_5 rfl ?_
  refine z_iload_n dX10_opens_7 rfl ?_
  refine z_iadd dX10_opens_8 ?_
  refine z_ialdN dX10_opens_9 m_v (show (110 : Int32) + nI v = nI (110 + v) from nI_add 110 v) (by omega) (by decide) ?_
  rw [h.2.2.2.2.2.1 v hv]
  refine z_cV1p mX10_mixesAll gRX10_92 dX10_opens_10 (q_mixesAll h hV) (by decide) (by first | assumption | rfl) (by rfl) (Nat.le_of_ble_eq_true rfl) (Nat.le_refl _) (Nat.le_refl _) (fun r J hq => ?_)
  obtain ⟨rfl, b1, b2⟩ := hq
  exact z_vret hE dX10_opens_13 ⟨rfl, rfl, b1, b2⟩

