/-! ===== the model: a sheet's points -/
theorem q_points {I : ZI} {A : AS} {hc : Nat} {Hh : Nat → AS} {tc : Nat} {bf : Nat → Nat} {t : Nat} {x : Int32} (h : RI I A hc Hh tc bf) (hx : x = nI t) (ht : t < ans A) : ZP yX10_points cX10_points 2 (some FieldType.int) 6 [.ref 259, .int x] Sg I (fun r J => r = some (.int (ptA A t)) ∧ MFr I J) := by
  have g0 := m_obj
  have hn := h.2.1.1.1
  have hle : shR A t + shW A t ≤ anq A := cRW_le _ _ _
  subst hx
  refine ZSp.of (own := RX10) (L := [.ref 259, .int (nI t)]) mX10_points rfl (List.all_eq_true.mp rfl) (Nat.le_of_ble_eq_true rfl) rfl (fun X hE hN => ?_)
  refine z_aload_n dX10_points_0 rfl ?_
  refine z_iload_n dX10_points_1 rfl ?_
  refine z_cV1p mX10_countsOwn gRX10_139 dX10_points_2 (q_countsOwn h rfl ht) (by decide) (by first | assumption | rfl) (by rfl) (Nat.le_of_ble_eq_true rfl) (Nat.le_refl _) (Nat.le_refl _) (fun r J hq => ?_)
  obtain ⟨rfl, b1⟩ := hq
  refine z_cS1s mX10_pointsBy gRX10_142 dX10_points_5 (q_pointsBy rfl (show shR A t < 21 by omega) (show shW A t < 21 by omega)) (by decide) (Nat.le_of_ble_eq_true rfl) (Nat.le_refl _) (Nat.le_refl _) ?_
  exact z_iret hE dX10_points_8 ⟨rfl, rfl, b1⟩

