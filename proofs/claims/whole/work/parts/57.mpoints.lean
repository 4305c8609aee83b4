/-! ===== the model: the points of a sheet's counts ===== -/
theorem pby_ok : ∀ R, R < 21 → ∀ W, W < 21 → 4 * (nI (100 * R + W) / 100) - (nI (100 * R + W) - nI (100 * R + W) / 100 * 100) = ptF R W := by decide +kernel
theorem q_pointsBy {I : ZI} {R W : Nat} {x : Int32} (hx : x = nI (100 * R + W)) (hR : R < 21) (hW : W < 21) : ZE yX10_pointsBy cX10_pointsBy 1 (some FieldType.int) 0 [.int x] Sg I (some (.int (ptF R W))) I := by
  subst hx
  refine ZSp.of (own := RX10) (L := [.int (nI (100 * R + W))]) mX10_pointsBy rfl (List.all_eq_true.mp rfl) (Nat.le_of_ble_eq_true rfl) rfl (fun X hE hN => ?_)
  refine z_iconst (v := 4) dX10_pointsBy_0 rfl ?_
  refine z_iload_n dX10_pointsBy_1 rfl ?_
  refine z_bipush (v := 100) dX10_pointsBy_2 rfl ?_
  refine z_idiv dX10_pointsBy_4 (by decide) ?_
  refine z_imul dX10_pointsBy_5 ?_
  refine z_iload_n dX10_pointsBy_6 rfl ?_
  refine z_bipush (v := 100) dX10_pointsBy_7 rfl ?_
  refine z_irem dX10_pointsBy_9 (by decide) ?_
  refine z_isub dX10_pointsBy_10 ?_
  rw [pby_ok R hR W hW]
  exact z_eireturn hE dX10_pointsBy_11 rfl rfl

