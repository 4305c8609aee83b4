/-! ===== the model: the lots and the mixing of a row -/
theorem q_lot {I : ZI} {m : Nat} {y : Int32} (hy : y = nI m) (h0 : 0 < m) (hm : m < 1000) : ZE yX10_lot cX10_lot 2 (some FieldType.int) 0 [.ref 259, .int y] Sg I (some (.int (nI (lvv (lx (I 259 3)) m)))) (zup I 259 3 (lx (I 259 3))) := by
  have g0 := m_obj
  subst hy
  refine ZSp.of (own := RX10) (L := [.ref 259, .int (nI m)]) mX10_lot rfl (List.all_eq_true.mp rfl) (Nat.le_of_ble_eq_true rfl) rfl (fun X hE hN => ?_)
  refine z_aload_n dX10_lot_0 rfl ?_
  refine z_ldc kRX10_71 dX10_lot_1 ?_
  refine z_aload_n dX10_lot_3 rfl ?_
  refine z_getI fRX10_72 dX10_lot_4 (by first | assumption | rfl) (by rfl) ?_
  refine z_imul dX10_lot_7 ?_
  refine z_sipush (v := 12345) dX10_lot_8 rfl ?_
  refine z_iadd dX10_lot_11 ?_
  refine z_putI fRX10_72 dX10_lot_12 (by first | assumption | rfl) (by rfl) ?_
  refine z_aload_n dX10_lot_15 rfl ?_
  refine z_getI fRX10_72 dX10_lot_16 (by first | assumption | rfl) (by rfl) ?_
  refine z_bipush (v := 16) dX10_lot_19 rfl ?_
  refine z_iushr dX10_lot_21 ?_
  refine z_iload_n dX10_lot_22 rfl ?_
  refine z_irem dX10_lot_23 (nI_ne0 h0 (by omega)) ?_
  exact z_eireturn hE dX10_lot_24 (by
    rw [zup_at, upd_at, z_ushr16, pk_rem (by have := (lx (I 259 3)).toBitVec.isLt; show _ / 65536 < _; omega) h0 (by omega)]
    rfl) rfl
theorem upd_sw (f : Nat → Int32) (i j : Nat) : upd (upd f i (f j)) j (f i) = swI f i j := by
  funext k
  unfold swI
  by_cases h1 : k = j
  · rw [if_pos h1, h1, upd_at]
  · rw [if_neg h1, upd_ne _ _ h1]
    by_cases h2 : k = i
    · rw [if_pos h2, h2, upd_at]
    · rw [if_neg h2, upd_ne _ _ h2]
theorem q_mixes {I : ZI} {m : Nat} (hm : I 259 8 = nI m) (hm2 : m ≤ 20) : ZP yX10_mixes cX10_mixes 4 none 1 [.ref 259] Sg I (fun r J => r = none ∧ (∀ a, a ≠ 259 → a ≠ 265 → J a = I a) ∧ (∀ k, k ≠ 3 → J 259 k = I 259 k) ∧ J 259 3 = (mixA (m - 1) (I 259 3, I 265)).1 ∧ J 265 = (mixA (m - 1) (I 259 3, I 265)).2) := by
  have g0 := m_obj
  refine ZSp.of (own := RX10) (L := [.ref 259, zj, zj, zj]) mX10_mixes rfl (List.all_eq_true.mp rfl) (Nat.le_of_ble_eq_true rfl) rfl (fun X hE hN => ?_)
  have loop : ∀ (i : Nat) (K : ZI), i < 20 → (∀ a, a ≠ 259 → a ≠ 265 → K a = I a) → (∀ k, k ≠ 3 → K 259 k = I 259 k) → mixA i (K 259 3, K 265) = mixA (m - 1) (I 259 3, I 265) → (ZG X RX10 cX10_mixes 4 1 0 0 0 0 7 [.ref 259, .int (nI i), zj, zj] [] Sg K) := by
    intro i
    induction i with
    | zero =>
      intro K _ k1 k2 k3
      have k3' : (K 259 3, K 265) = mixA (m - 1) (I 259 3, I 265) := k3
      refine z_iload_n dX10_mixes_7 rfl ?_
      refine z_if_le (tgt := 51) dX10_mixes_8 (by decide) (fun _ => ?_) (fun hb => absurd (by decide) hb)
      exact z_vret hE dX10_mixes_51 ⟨rfl, rfl, k1, k2, by rw [← k3'], by rw [← k3']⟩
    | succ i ih =>
      intro K hi k1 k2 k3
      have hlt := lvv_lt (lx (K 259 3)) (m := i + 1 + 1) (by omega)
      refine z_iload_n dX10_mixes_7 rfl ?_
      refine z_if_le (tgt := 51) dX10_mixes_8 (by decide) (fun hb => absurd hb (nI_nle (by omega) (by omega))) (fun _ => ?_)
      refine z_aload_n dX10_mixes_11 rfl ?_
      refine z_iload_n dX10_mixes_12 rfl ?_
      refine z_iconst (v := 1) dX10_mixes_13 rfl ?_
      refine z_iadd dX10_mixes_14 ?_
      rw [nI_1]
      refine z_cV1s mX10_lot gRX10_78 dX10_mixes_15 (q_lot rfl (by omega) (by omega)) (by decide) (by first | assumption | rfl) (by rfl) (Nat.le_of_ble_eq_true rfl) (Nat.le_refl _) (Nat.le_refl _) ?_
      refine z_ist2 dX10_mixes_18 (by decide) rfl ?_
      refine z_aload_n dX10_mixes_19 rfl ?_
      refine z_getR fRX10_25 dX10_mixes_20 (by first | assumption | rfl) (by rfl) ?_
      refine z_iload_n dX10_mixes_23 rfl ?_
      refine z_ialdN dX10_mixes_24 m_row (rfl) (by omega) (by decide) ?_
      refine z_ist3 dX10_mixes_25 (by decide) rfl ?_
      refine z_aload_n dX10_mixes_26 rfl ?_
      refine z_getR fRX10_25 dX10_mixes_27 (by first | assumption | rfl) (by rfl) ?_
      refine z_iload_n dX10_mixes_30 rfl ?_
      refine z_aload_n dX10_mixes_31 rfl ?_
      refine z_getR fRX10_25 dX10_mixes_32 (by first | assumption | rfl) (by rfl) ?_
      refine z_iload_n dX10_mixes_35 rfl ?_
      refine z_ialdN dX10_mixes_36 m_row (rfl) (by omega) (by decide) ?_
      refine z_iastN dX10_mixes_37 m_row (rfl) (by omega) (by decide) ?_
      refine z_aload_n dX10_mixes_38 rfl ?_
      refine z_getR fRX10_25 dX10_mixes_39 (by first | assumption | rfl) (by rfl) ?_
      refine z_iload_n dX10_mixes_42 rfl ?_
      refine z_iload_n dX10_mixes_43 rfl ?_
      refine z_iastN dX10_mixes_44 m_row (rfl) (by omega) (by decide) ?_
      refine z_inc1 (w := (-1)) dX10_mixes_45 rfl (by decide) rfl ?_
      refine z_goto (tgt := 7) dX10_mixes_48 (by decide) ?_
      rw [show nI (i + 1) + (-1) = nI i from pk_m1 i]
      refine z_fg2 (z_fg3 ?_)
      refine ih _ (by omega) (fun a q1 q2 => by rw [zup_ne _ _ _ q2, zup_ne _ _ _ q2, zup_ne _ _ _ q1]; exact k1 a q1 q2) (fun k q => by rw [zup_ne _ _ _ (by decide), zup_ne _ _ _ (by decide), zup_at, upd_ne _ _ q]; exact k2 k q) ?_
      rw [zup_ne _ _ _ (show (259 : Nat) ≠ 265 by decide), zup_ne _ _ _ (show (259 : Nat) ≠ 265 by decide), zup_at, upd_at, zup_at, zup_at, zup_ne _ _ _ (show (265 : Nat) ≠ 259 by decide), upd_sw, ← k3]
      rfl
  refine z_aload_n dX10_mixes_0 rfl ?_
  refine z_getI fRX10_75 dX10_mixes_1 (by first | assumption | rfl) (by rfl) ?_
  refine z_iconst (v := 1) dX10_mixes_4 rfl ?_
  refine z_isub dX10_mixes_5 ?_
  refine z_ist1 dX10_mixes_6 (by decide) rfl ?_
  rw [hm]
  by_cases h0 : m = 0
  · subst h0
    refine z_iload_n dX10_mixes_7 rfl ?_
    refine z_if_le (tgt := 51) dX10_mixes_8 (by decide) (fun _ => ?_) (fun hb => absurd (by decide) hb)
    exact z_vret hE dX10_mixes_51 ⟨rfl, rfl, fun _ _ _ => rfl, fun _ _ => rfl, rfl, rfl⟩
  · have e : nI m - 1 = nI (m - 1) := xI_sub (b := 1) (by omega)
    rw [e]
    exact loop (m - 1) I (by omega) (fun _ _ _ => rfl) (fun _ _ => rfl) rfl

