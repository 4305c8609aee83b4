/-! ===== the model: remove; the lots -/
theorem q_remove {I : ZI} {A : AS} {hc : Nat} {Hh : Nat → AS} {tc : Nat} {bf : Nat → Nat} {x : Int32} {r0 : Option Value} {P : AS → Nat → (Nat → AS) → Nat → (Nat → Nat) → Prop} (h : RI I A hc Hh tc bf) (hD : (¬ isQ A x ∧ r0 = some (.int (-1001)) ∧ P A hc Hh tc bf) ∨ (isQ A x ∧ ans A ≠ 0 ∧ r0 = some (.int (-1002)) ∧ P A hc Hh tc bf) ∨ (∃ q, q < anq A ∧ x = nI q ∧ ans A = 0 ∧ r0 = some (.int (nI (anq A - 1))) ∧ P (rmA A q) (phc hc) (pHh hc Hh A) tc bf)) : ZP yX10_remove cX10_remove 3 (some FieldType.int) 2 [.ref 259, .int x] Sg I (fun r J => r = r0 ∧ (∀ a, a < 259 → J a = I a) ∧ ∃ A' hc' Hh' tc' bf', P A' hc' Hh' tc' bf' ∧ RI J A' hc' Hh' tc' bf') := by
  have g0 := m_obj
  have hn := h.2.1.1.1
  have hns := h.2.1.2.2.2.2.1
  refine ZSp.of (own := RX10) (L := [.ref 259, .int x, zj]) mX10_remove rfl (List.all_eq_true.mp rfl) (Nat.le_of_ble_eq_true rfl) rfl (fun X hE hN => ?_)
  refine z_aload_n dX10_remove_0 rfl ?_
  refine z_iload_n dX10_remove_1 rfl ?_
  rcases hD with ⟨hb, rfl, hP⟩ | ⟨hx, hz, rfl, hP⟩ | ⟨q, hq, rfl, hz, rfl, hP⟩
  · refine z_cV1s mX10_isQuestion gRX10_57 dX10_remove_2 (q_isQ (r := 0) h.1 hn (fun z => absurd z hb) (fun _ => rfl)) (by decide) (by first | assumption | rfl) (by rfl) (Nat.le_of_ble_eq_true rfl) (Nat.le_refl _) (Nat.le_refl _) ?_
    refine z_if_ne (tgt := 12) dX10_remove_5 (by decide) (fun hb => absurd (rfl) hb) (fun _ => ?_)
    refine z_sipush (v := -1001) dX10_remove_8 rfl ?_
    exact z_iret hE dX10_remove_11 ⟨rfl, rfl, fun _ _ => rfl, _, _, _, _, _, hP, h⟩
  · refine z_cV1s mX10_isQuestion gRX10_57 dX10_remove_2 (q_isQ (r := 1) h.1 hn (fun _ => rfl) (fun z => absurd hx z)) (by decide) (by first | assumption | rfl) (by rfl) (Nat.le_of_ble_eq_true rfl) (Nat.le_refl _) (Nat.le_refl _) ?_
    refine z_if_ne (tgt := 12) dX10_remove_5 (by decide) (fun _ => ?_) (fun hb => absurd hb (by decide))
    refine z_aload_n dX10_remove_12 rfl ?_
    refine z_getR fRX10_7 dX10_remove_13 (by first | assumption | rfl) (by rfl) ?_
    refine z_iconst (v := 3) dX10_remove_16 rfl ?_
    refine z_ialdN (j := 3) dX10_remove_17 m_v (rfl) (by decide) (by decide) ?_
    rw [h.1.2.2.2.1]
    refine z_if_le (tgt := 25) dX10_remove_18 (by decide) (fun hb => absurd hb (nI_nle (by omega) (by omega))) (fun _ => ?_)
    refine z_sipush (v := -1002) dX10_remove_21 rfl ?_
    exact z_iret hE dX10_remove_24 ⟨rfl, rfl, fun _ _ => rfl, _, _, _, _, _, hP, h⟩
  · refine z_cV1s mX10_isQuestion gRX10_57 dX10_remove_2 (q_isQ (r := 1) h.1 hn (fun _ => rfl) (fun z => absurd ⟨q, hq, rfl⟩ z)) (by decide) (by first | assumption | rfl) (by rfl) (Nat.le_of_ble_eq_true rfl) (Nat.le_refl _) (Nat.le_refl _) ?_
    refine z_if_ne (tgt := 12) dX10_remove_5 (by decide) (fun _ => ?_) (fun hb => absurd hb (by decide))
    refine z_aload_n dX10_remove_12 rfl ?_
    refine z_getR fRX10_7 dX10_remove_13 (by first | assumption | rfl) (by rfl) ?_
    refine z_iconst (v := 3) dX10_remove_16 rfl ?_
    refine z_ialdN (j := 3) dX10_remove_17 m_v (rfl) (by decide) (by decide) ?_
    rw [h.1.2.2.2.1]
    refine z_if_le (tgt := 25) dX10_remove_18 (by decide) (fun _ => ?_) (fun hb => absurd (by rw [hz]; decide) hb)
    refine z_aload_n dX10_remove_25 rfl ?_
    refine z_cV0p mX10_act gRX10_54 dX10_remove_26 (q_act h) (by decide) (by first | assumption | rfl) (by rfl) (Nat.le_of_ble_eq_true rfl) (Nat.le_refl _) (Nat.le_refl _) (fun r J hq => ?_)
    obtain ⟨rfl, b1, b2, b3⟩ := hq
    have e : J 260 = I 260 := b1 _ (by decide) (by decide)
    refine z_aload_n dX10_remove_29 rfl ?_
    refine z_getR fRX10_7 dX10_remove_30 (by first | assumption | rfl) (by rfl) ?_
    refine z_iconst (v := 0) dX10_remove_33 rfl ?_
    refine z_dup2 dX10_remove_34 rfl rfl ?_
    refine z_ialdN (j := 0) dX10_remove_35 m_v (rfl) (by decide) (by decide) ?_
    rw [e, h.1.1]
    refine z_iconst (v := 1) dX10_remove_36 rfl ?_
    refine z_isub dX10_remove_37 ?_
    rw [show nI (anq A) - 1 = nI (anq A - 1) from xI_sub (b := 1) (by omega)]
    refine z_iastN (j := 0) dX10_remove_38 m_v (rfl) (by decide) (by decide) ?_
    refine z_bipush (v := 10) dX10_remove_39 rfl ?_
    refine z_iconst (v := 5) dX10_remove_41 rfl ?_
    refine z_iload_n dX10_remove_42 rfl ?_
    refine z_imul dX10_remove_43 ?_
    refine z_iadd dX10_remove_44 ?_
    refine z_ist2 dX10_remove_45 (by decide) rfl ?_
    have e5 : (10 : Int32) + 5 * nI q = nI (10 + 5 * q) := by rw [← nI_add, ← pk_mul]; rfl
    have e6 : (10 : Int32) + 5 * nI (anq A - 1) = nI (10 + 5 * (anq A - 1)) := by rw [← nI_add, ← pk_mul]; rfl
    rw [e5]
    have loop : ∀ (m i : Nat) (K : ZI), i + m = 10 + 5 * (anq A - 1) → 10 + 5 * q ≤ i → (∀ a, a ≠ 260 → K a = J a) → K 260 0 = nI (anq A - 1) → (∀ k, k ≠ 0 → k < 10 + 5 * q → K 260 k = I 260 k) → (∀ k, 10 + 5 * q ≤ k → k < i → K 260 k = I 260 (k + 5)) → (∀ k, i ≤ k → K 260 k = I 260 k) → (ZG X RX10 cX10_remove 3 2 0 0 0 0 46 [.ref 259, .int (nI q), .int (nI i)] [] Sg K) := by
      intro m
      induction m with
      | zero =>
        intro i K hi hqi k1 k2 k3 k4 k5
        have ei : i = 10 + 5 * (anq A - 1) := by omega
        subst ei
        refine z_iload_n dX10_remove_46 rfl ?_
        refine z_bipush (v := 10) dX10_remove_47 rfl ?_
        refine z_iconst (v := 5) dX10_remove_49 rfl ?_
        refine z_aload_n dX10_remove_50 rfl ?_
        refine z_getR fRX10_7 dX10_remove_51 (by first | assumption | rfl) (by rfl) ?_
        refine z_iconst (v := 0) dX10_remove_54 rfl ?_
        refine z_ialdN (j := 0) dX10_remove_55 m_v (rfl) (by decide) (by decide) ?_
        rw [k2]
        refine z_imul dX10_remove_56 ?_
        refine z_iadd dX10_remove_57 ?_
        rw [e6]
        refine z_icmp_ge (tgt := 81) dX10_remove_58 (by decide) (fun _ => ?_) (fun hb => absurd (nI_le (Nat.le_refl _) (by omega)) hb)
        refine z_aload_n dX10_remove_81 rfl ?_
        refine z_getR fRX10_7 dX10_remove_82 (by first | assumption | rfl) (by rfl) ?_
        refine z_iconst (v := 0) dX10_remove_85 rfl ?_
        refine z_ialdN (j := 0) dX10_remove_86 m_v (rfl) (by decide) (by decide) ?_
        rw [k2]
        refine z_iret hE dX10_remove_87 ⟨rfl, rfl, fun a ha => by rw [k1 a (by omega), b1 a (by omega) (by omega)], _, _, _, _, _, hP, z_toRI b3 ?_ ?_ (fun a ha => k1 a (by omega))⟩
        · obtain ⟨r1, r2, r3, r4, r5, r6, r7⟩ := h.1
          refine ⟨k2, by rw [k3 _ (by decide) (by omega)]; exact r2, by rw [k3 _ (by decide) (by omega)]; exact r3, by rw [k3 _ (by decide) (by omega), r4, hz]; rfl, fun i hi w hw => ?_, fun v hv' => by rw [k5 _ (by omega)]; exact r6 v hv', fun t ht => absurd ht (Nat.not_lt_zero t)⟩
          have hi2 : i < anq A - 1 := hi
          show _ = nI (if i < q then aqd A i w else aqd A (i + 1) w)
          by_cases ei : i < q
          · rw [if_pos ei, k3 _ (by omega) (by omega)]
            exact r5 i (by omega) w hw
          · rw [if_neg ei, k4 _ (by omega) (by omega), show 10 + 5 * i + w + 5 = 10 + 5 * (i + 1) + w by omega]
            exact r5 (i + 1) (by omega) w hw
        · obtain ⟨v1, v2, v3, v4, v5, v6⟩ := h.2.1
          refine z_av0 rfl ⟨show anq A - 1 ≤ 20 by omega, fun i hi => ?_⟩ v2 v3 v4
          have hi2 : i < anq A - 1 := hi
          show 1 ≤ aqd (rmA A q) i 0 ∧ aqd (rmA A q) i 0 ≤ 9 ∧ 2 ≤ aqd (rmA A q) i 4 ∧ aqd (rmA A q) i 4 ≤ 5 ∧ aqd (rmA A q) i 1 < aqd (rmA A q) i 4 ∧ aqd (rmA A q) i 2 < 2 ^ aqd (rmA A q) i 4 ∧ aqd (rmA A q) i 3 ≤ 5
          by_cases ei : i < q
          · have r : ∀ w, aqd (rmA A q) i w = aqd A i w := fun w => if_pos ei
            rw [r 0, r 1, r 2, r 3, r 4]
            exact v1.2 i (by omega)
          · have r : ∀ w, aqd (rmA A q) i w = aqd A (i + 1) w := fun w => if_neg ei
            rw [r 0, r 1, r 2, r 3, r 4]
            exact v1.2 (i + 1) (by omega)
      | succ m ih =>
        intro i K hi hqi k1 k2 k3 k4 k5
        refine z_iload_n dX10_remove_46 rfl ?_
        refine z_bipush (v := 10) dX10_remove_47 rfl ?_
        refine z_iconst (v := 5) dX10_remove_49 rfl ?_
        refine z_aload_n dX10_remove_50 rfl ?_
        refine z_getR fRX10_7 dX10_remove_51 (by first | assumption | rfl) (by rfl) ?_
        refine z_iconst (v := 0) dX10_remove_54 rfl ?_
        refine z_ialdN (j := 0) dX10_remove_55 m_v (rfl) (by decide) (by decide) ?_
        rw [k2]
        refine z_imul dX10_remove_56 ?_
        refine z_iadd dX10_remove_57 ?_
        rw [e6]
        refine z_icmp_ge (tgt := 81) dX10_remove_58 (by decide) (fun hb => absurd hb (nI_ge (by omega) (by omega))) (fun _ => ?_)
        refine z_aload_n dX10_remove_61 rfl ?_
        refine z_getR fRX10_7 dX10_remove_62 (by first | assumption | rfl) (by rfl) ?_
        refine z_iload_n dX10_remove_65 rfl ?_
        refine z_aload_n dX10_remove_66 rfl ?_
        refine z_getR fRX10_7 dX10_remove_67 (by first | assumption | rfl) (by rfl) ?_
        refine z_iload_n dX10_remove_70 rfl ?_
        refine z_iconst (v := 5) dX10_remove_71 rfl ?_
        refine z_iadd dX10_remove_72 ?_
        refine z_ialdN dX10_remove_73 m_v (nI_add i 5) (by omega) (by decide) ?_
        refine z_iastN dX10_remove_74 m_v (rfl) (by omega) (by decide) ?_
        refine z_inc2 (w := 1) dX10_remove_75 rfl (by decide) rfl ?_
        refine z_goto (tgt := 46) dX10_remove_78 (by decide) ?_
        rw [nI_1]
        refine ih (i + 1) _ (by omega) (by omega) (fun a q => by rw [zup_ne _ _ _ q]; exact k1 a q) (by rw [zup_at, upd_ne _ _ (by omega)]; exact k2) (fun k q1 q2 => by rw [zup_at, upd_ne _ _ (by omega)]; exact k3 k q1 q2) (fun k q1 q2 => ?_) (fun k q1 => by rw [zup_at, upd_ne _ _ (by omega)]; exact k5 k (by omega))
        rw [zup_at]
        by_cases ei : k = i
        · subst ei
          rw [upd_at]
          exact k5 _ (by omega)
        · rw [upd_ne _ _ ei]
          exact k4 k q1 (by omega)
    refine loop (10 + 5 * (anq A - 1) - (10 + 5 * q)) (10 + 5 * q) _ (by omega) (Nat.le_refl _) (fun a q => zup_ne _ _ _ q) (by rw [zup_at, upd_at]) (fun k q1 q2 => by rw [zup_at, upd_ne _ _ q1, e]) (fun k q1 q2 => absurd q1 (by omega)) (fun k q1 => by rw [zup_at, upd_ne _ _ (by omega), e])

