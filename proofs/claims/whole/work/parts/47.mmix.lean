/-! ===== the model: the lots and the mixing of a row -/
theorem q_lot {I : ZI} {m : Nat} {y : Int32} (hy : y = nI m) (h0 : 0 < m) (hm : m < 1000) : ZE yX10_lot cX10_lot 2 (some FieldType.int) 0 [.ref 259, .int y] Sg I (some (.int (nI (lvv (lx (I 259 3)) m)))) (zup I 259 3 (lx (I 259 3))) := by
  have g0 := m_obj
  subst hy
  refine ZSp.of (own := RX10) (L := [.ref 259, .int (nI m)]) mX10_lot rfl (List.all_eq_true.mp rfl) (Nat.le_of_ble_eq_true rfl) rfl (fun X hE hN => ?_)
  refine z_aload_n dX10_lot_0 rfl ?_
  refine z_ldc kRX10_71 dX10_lot_1 ?_
  refine z_aload_n dX10_lot_3 rfl ?_
  refine z_getI fRX10_72 dX10_lot_4 (by first | assumption | rfl) (by rfl) ?_
  refine z_imul dX10_lot_7 ?_
  refine z_sipush (v := 12345) dX10_lot_8 rfl ?_
  refine z_iadd dX10_lot_11 ?_
  refine z_putI fRX10_72 dX10_lot_12 (by first | assumption | rfl) (by rfl) ?_
  refine z_aload_n dX10_lot_15 rfl ?_
  refine z_getI fRX10_72 dX10_lot_16 (by first | assumption | rfl) (by rfl) ?_
  refine z_bipush (v := 16) dX10_lot_19 rfl ?_
  refine z_iushr dX10_lot_21 ?_
  refine z_iload_n dX10_lot_22 rfl ?_
  refine z_irem dX10_lot_23 (nI_ne0 h0 (by omega)) ?_
  exact z_eireturn hE dX10_lot_24 (by
    rw [zup_at, upd_at, z_ushr16, pk_rem (by have := (lx (I 259 3)).toBitVec.isLt; show _ / 65536 < _; omega) h0 (by omega)]
    rfl) rfl

