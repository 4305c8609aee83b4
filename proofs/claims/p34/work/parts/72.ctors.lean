/-! ===== constructors that make their parts one after another ===== -/
def hX5 (a : Nat) : List ZC := (0, 5, [a + 3, 0]) :: (([] : List ZC) ++ hRow (a + 1) 100)
theorem n_X5 : ZN0 yX5_init cX5_init 1 2 2 101 [] 5 hX5 (fun a J => J a 1 = 0) := by
  intro τ a I ha hz
  refine ZSp.of (own := RX5) (L := [.ref a]) mX5_init rfl (List.all_eq_true.mp rfl) (Nat.le_of_ble_eq_true rfl) rfl (fun X hE hN => ?_)
  refine z_sg (σ' := τ ++ ((0, 5, [1, 0]) :: [])) rfl ?_
  refine z_aload_n dX5_init_0 rfl ?_
  refine z_objInit gRX5_3 j_obj_instanceMethod j_obj_code dX5_init_1 (by decide) (by decide) ?_
  refine z_aload_n dX5_init_4 rfl ?_
  refine z_nob (ci := 6) (N := 1) (a := a + 1) (z_lenO (n := 0) ha rfl) nRX5_9 ⟨_, rfl⟩ dX5_init_5 (by decide) (Nat.le_of_ble_eq_true rfl) ?_
  refine z_dup dX5_init_8 rfl ?_
  refine z_bipush (v := 100) dX5_init_9 rfl ?_
  refine z_init1 (a := a + 1) mX6_init gRX5_11 dX5_init_11 (n_X6 100 (by decide) (by decide)) (z_lenO (n := 0) ha rfl) rfl (by decide) (Nat.le_of_ble_eq_true rfl) (by decide) (Nat.le_of_ble_eq_true rfl) (fun K0 f0 p0 => ?_)
  refine z_sg (σ' := τ ++ ((0, 5, [1, 0]) :: (([] : List ZC) ++ hRow (a + 1) 100))) (List.append_assoc _ _ _) ?_
  refine z_putO (C := "TestVersions$Row") (rs' := [a + 3, 0]) ha (Or.inl eRX5_14) hN rfl dX5_init_14 rfl rfl ?_
  refine z_k (kc' := 2) (ks' := 101) rfl rfl ?_
  exact z_vret hE dX5_init_17 ⟨rfl, rfl, fun q hq => (by rw [f0 q (by omega)]), (show K0 a 1 = 0 from by rw [f0 a (by omega), hz])⟩
def hX7 (a : Nat) : List ZC := (0, 7, [a + 3, a + 5, a + 7, a + 9, a + 11, 0]) :: (([] : List ZC) ++ hRow (a + 1) 20 ++ hRow (a + 3) 20 ++ hRow (a + 5) 20 ++ hRow (a + 7) 400 ++ hRow (a + 9) 400)
theorem n_X7 : ZN0 yX7_init cX7_init 1 2 10 865 [] 7 hX7 (fun a J => J a 5 = 0) := by
  intro τ a I ha hz
  refine ZSp.of (own := RX7) (L := [.ref a]) mX7_init rfl (List.all_eq_true.mp rfl) (Nat.le_of_ble_eq_true rfl) rfl (fun X hE hN => ?_)
  refine z_sg (σ' := τ ++ ((0, 7, [1, 1, 1, 1, 1, 0]) :: [])) rfl ?_
  refine z_aload_n dX7_init_0 rfl ?_
  refine z_objInit gRX7_3 j_obj_instanceMethod j_obj_code dX7_init_1 (by decide) (by decide) ?_
  refine z_aload_n dX7_init_4 rfl ?_
  refine z_nob (ci := 6) (N := 1) (a := a + 1) (z_lenO (n := 0) ha rfl) nRX7_9 ⟨_, rfl⟩ dX7_init_5 (by decide) (Nat.le_of_ble_eq_true rfl) ?_
  refine z_dup dX7_init_8 rfl ?_
  refine z_bipush (v := 20) dX7_init_9 rfl ?_
  refine z_init1 (a := a + 1) mX6_init gRX7_11 dX7_init_11 (n_X6 20 (by decide) (by decide)) (z_lenO (n := 0) ha rfl) rfl (by decide) (Nat.le_of_ble_eq_true rfl) (by decide) (Nat.le_of_ble_eq_true rfl) (fun K0 f0 p0 => ?_)
  refine z_sg (σ' := τ ++ ((0, 7, [1, 1, 1, 1, 1, 0]) :: (([] : List ZC) ++ hRow (a + 1) 20))) (List.append_assoc _ _ _) ?_
  refine z_putO (C := "TestVersions$Row") (rs' := [a + 3, 1, 1, 1, 1, 0]) ha (Or.inl eRX7_14) hN rfl dX7_init_14 rfl rfl ?_
  refine z_k (kc' := 2) (ks' := 21) rfl rfl ?_
  refine z_aload_n dX7_init_17 rfl ?_
  refine z_nob (ci := 6) (N := 1) (a := a + 3) (z_lenO (n := 2) ha rfl) nRX7_9 ⟨_, rfl⟩ dX7_init_18 (by decide) (Nat.le_of_ble_eq_true rfl) ?_
  refine z_dup dX7_init_21 rfl ?_
  refine z_bipush (v := 20) dX7_init_22 rfl ?_
  refine z_init1 (a := a + 3) mX6_init gRX7_11 dX7_init_24 (n_X6 20 (by decide) (by decide)) (z_lenO (n := 2) ha rfl) rfl (by decide) (Nat.le_of_ble_eq_true rfl) (by decide) (Nat.le_of_ble_eq_true rfl) (fun K1 f1 p1 => ?_)
  refine z_sg (σ' := τ ++ ((0, 7, [a + 3, 1, 1, 1, 1, 0]) :: (([] : List ZC) ++ hRow (a + 1) 20 ++ hRow (a + 3) 20))) (List.append_assoc _ _ _) ?_
  refine z_putO (C := "TestVersions$Row") (rs' := [a + 3, a + 5, 1, 1, 1, 0]) ha (Or.inl eRX7_20) hN rfl dX7_init_27 rfl rfl ?_
  refine z_k (kc' := 4) (ks' := 42) rfl rfl ?_
  refine z_aload_n dX7_init_30 rfl ?_
  refine z_nob (ci := 6) (N := 1) (a := a + 5) (z_lenO (n := 4) ha rfl) nRX7_9 ⟨_, rfl⟩ dX7_init_31 (by decide) (Nat.le_of_ble_eq_true rfl) ?_
  refine z_dup dX7_init_34 rfl ?_
  refine z_bipush (v := 20) dX7_init_35 rfl ?_
  refine z_init1 (a := a + 5) mX6_init gRX7_11 dX7_init_37 (n_X6 20 (by decide) (by decide)) (z_lenO (n := 4) ha rfl) rfl (by decide) (Nat.le_of_ble_eq_true rfl) (by decide) (Nat.le_of_ble_eq_true rfl) (fun K2 f2 p2 => ?_)
  refine z_sg (σ' := τ ++ ((0, 7, [a + 3, a + 5, 1, 1, 1, 0]) :: (([] : List ZC) ++ hRow (a + 1) 20 ++ hRow (a + 3) 20 ++ hRow (a + 5) 20))) (List.append_assoc _ _ _) ?_
  refine z_putO (C := "TestVersions$Row") (rs' := [a + 3, a + 5, a + 7, 1, 1, 0]) ha (Or.inl eRX7_23) hN rfl dX7_init_40 rfl rfl ?_
  refine z_k (kc' := 6) (ks' := 63) rfl rfl ?_
  refine z_aload_n dX7_init_43 rfl ?_
  refine z_nob (ci := 6) (N := 1) (a := a + 7) (z_lenO (n := 6) ha rfl) nRX7_9 ⟨_, rfl⟩ dX7_init_44 (by decide) (Nat.le_of_ble_eq_true rfl) ?_
  refine z_dup dX7_init_47 rfl ?_
  refine z_sipush (v := 400) dX7_init_48 rfl ?_
  refine z_init1 (a := a + 7) mX6_init gRX7_11 dX7_init_51 (n_X6 400 (by decide) (by decide)) (z_lenO (n := 6) ha rfl) rfl (by decide) (Nat.le_of_ble_eq_true rfl) (by decide) (Nat.le_of_ble_eq_true rfl) (fun K3 f3 p3 => ?_)
  refine z_sg (σ' := τ ++ ((0, 7, [a + 3, a + 5, a + 7, 1, 1, 0]) :: (([] : List ZC) ++ hRow (a + 1) 20 ++ hRow (a + 3) 20 ++ hRow (a + 5) 20 ++ hRow (a + 7) 400))) (List.append_assoc _ _ _) ?_
  refine z_putO (C := "TestVersions$Row") (rs' := [a + 3, a + 5, a + 7, a + 9, 1, 0]) ha (Or.inl eRX7_26) hN rfl dX7_init_54 rfl rfl ?_
  refine z_k (kc' := 8) (ks' := 464) rfl rfl ?_
  refine z_aload_n dX7_init_57 rfl ?_
  refine z_nob (ci := 6) (N := 1) (a := a + 9) (z_lenO (n := 8) ha rfl) nRX7_9 ⟨_, rfl⟩ dX7_init_58 (by decide) (Nat.le_of_ble_eq_true rfl) ?_
  refine z_dup dX7_init_61 rfl ?_
  refine z_sipush (v := 400) dX7_init_62 rfl ?_
  refine z_init1 (a := a + 9) mX6_init gRX7_11 dX7_init_65 (n_X6 400 (by decide) (by decide)) (z_lenO (n := 8) ha rfl) rfl (by decide) (Nat.le_of_ble_eq_true rfl) (by decide) (Nat.le_of_ble_eq_true rfl) (fun K4 f4 p4 => ?_)
  refine z_sg (σ' := τ ++ ((0, 7, [a + 3, a + 5, a + 7, a + 9, 1, 0]) :: (([] : List ZC) ++ hRow (a + 1) 20 ++ hRow (a + 3) 20 ++ hRow (a + 5) 20 ++ hRow (a + 7) 400 ++ hRow (a + 9) 400))) (List.append_assoc _ _ _) ?_
  refine z_putO (C := "TestVersions$Row") (rs' := [a + 3, a + 5, a + 7, a + 9, a + 11, 0]) ha (Or.inl eRX7_29) hN rfl dX7_init_68 rfl rfl ?_
  refine z_k (kc' := 10) (ks' := 865) rfl rfl ?_
  exact z_vret hE dX7_init_71 ⟨rfl, rfl, fun q hq => (by rw [f4 q (by omega), f3 q (by omega), f2 q (by omega), f1 q (by omega), f0 q (by omega)]), (show K4 a 5 = 0 from by rw [f4 a (by omega), f3 a (by omega), f2 a (by omega), f1 a (by omega), f0 a (by omega), hz])⟩
def hX8 (a : Nat) : List ZC := (0, 8, [a + 3, a + 6, a + 8, 0, 0]) :: (([] : List ZC) ++ hX5 (a + 1) ++ hRow (a + 4) 6 ++ hX7 (a + 6))
theorem n_X8 : ZN0 yX8_init cX8_init 1 3 16 981 [] 8 hX8 (fun a J => J a 3 = 0 ∧ J a 4 = 30 ∧ J (a + 1) 1 = 0 ∧ J (a + 6) 5 = 0) := by
  intro τ a I ha hz
  refine ZSp.of (own := RX8) (L := [.ref a]) mX8_init rfl (List.all_eq_true.mp rfl) (Nat.le_of_ble_eq_true rfl) rfl (fun X hE hN => ?_)
  refine z_sg (σ' := τ ++ ((0, 8, [1, 1, 1, 0, 0]) :: [])) rfl ?_
  refine z_aload_n dX8_init_0 rfl ?_
  refine z_objInit gRX8_3 j_obj_instanceMethod j_obj_code dX8_init_1 (by decide) (by decide) ?_
  refine z_aload_n dX8_init_4 rfl ?_
  refine z_nob (ci := 5) (N := 2) (a := a + 1) (z_lenO (n := 0) ha rfl) nRX8_9 ⟨_, rfl⟩ dX8_init_5 (by decide) (Nat.le_of_ble_eq_true rfl) ?_
  refine z_dup dX8_init_8 rfl ?_
  refine z_init0 (a := a + 1) mX5_init gRX8_11 dX8_init_9 n_X5 (z_lenO (n := 0) ha rfl) rfl (by decide) (Nat.le_of_ble_eq_true rfl) (by decide) (Nat.le_of_ble_eq_true rfl) (fun K0 f0 p0 => ?_)
  refine z_sg (σ' := τ ++ ((0, 8, [1, 1, 1, 0, 0]) :: (([] : List ZC) ++ hX5 (a + 1)))) (List.append_assoc _ _ _) ?_
  refine z_putO (C := "TestVersions$Questions") (rs' := [a + 3, 1, 1, 0, 0]) ha (Or.inl eRX8_12) hN rfl dX8_init_12 rfl rfl ?_
  refine z_k (kc' := 3) (ks' := 103) rfl rfl ?_
  refine z_aload_n dX8_init_15 rfl ?_
  refine z_nob (ci := 6) (N := 1) (a := a + 4) (z_lenO (n := 3) ha rfl) nRX8_18 ⟨_, rfl⟩ dX8_init_16 (by decide) (Nat.le_of_ble_eq_true rfl) ?_
  refine z_dup dX8_init_19 rfl ?_
  refine z_bipush (v := 6) dX8_init_20 rfl ?_
  refine z_init1 (a := a + 4) mX6_init gRX8_20 dX8_init_22 (n_X6 6 (by decide) (by decide)) (z_lenO (n := 3) ha rfl) rfl (by decide) (Nat.le_of_ble_eq_true rfl) (by decide) (Nat.le_of_ble_eq_true rfl) (fun K1 f1 p1 => ?_)
  refine z_sg (σ' := τ ++ ((0, 8, [a + 3, 1, 1, 0, 0]) :: (([] : List ZC) ++ hX5 (a + 1) ++ hRow (a + 4) 6))) (List.append_assoc _ _ _) ?_
  refine z_putO (C := "TestVersions$Row") (rs' := [a + 3, a + 6, 1, 0, 0]) ha (Or.inl eRX8_23) hN rfl dX8_init_25 rfl rfl ?_
  refine z_k (kc' := 5) (ks' := 110) rfl rfl ?_
  refine z_aload_n dX8_init_28 rfl ?_
  refine z_nob (ci := 7) (N := 6) (a := a + 6) (z_lenO (n := 5) ha rfl) nRX8_27 ⟨_, rfl⟩ dX8_init_29 (by decide) (Nat.le_of_ble_eq_true rfl) ?_
  refine z_dup dX8_init_32 rfl ?_
  refine z_init0 (a := a + 6) mX7_init gRX8_29 dX8_init_33 n_X7 (z_lenO (n := 5) ha rfl) rfl (by decide) (Nat.le_of_ble_eq_true rfl) (by decide) (Nat.le_of_ble_eq_true rfl) (fun K2 f2 p2 => ?_)
  refine z_sg (σ' := τ ++ ((0, 8, [a + 3, a + 6, 1, 0, 0]) :: (([] : List ZC) ++ hX5 (a + 1) ++ hRow (a + 4) 6 ++ hX7 (a + 6)))) (List.append_assoc _ _ _) ?_
  refine z_putO (C := "TestVersions$Sheets") (rs' := [a + 3, a + 6, a + 8, 0, 0]) ha (Or.inl eRX8_30) hN rfl dX8_init_36 rfl rfl ?_
  refine z_k (kc' := 16) (ks' := 981) rfl rfl ?_
  refine z_aload_n dX8_init_39 rfl ?_
  refine z_bipush (v := 30) dX8_init_40 rfl ?_
  refine z_putI fRX8_34 dX8_init_42 (z_midA ha) (by rfl) ?_
  exact z_vret hE dX8_init_45 ⟨rfl, rfl, fun q hq => (by rw [zup_ne _ _ _ (by omega)]; rw [f2 q (by omega), f1 q (by omega), f0 q (by omega)]), (by rw [zup_at, upd_ne _ _ (by decide), f2 a (by omega), f1 a (by omega), f0 a (by omega), hz]), (by rw [zup_at, upd_at]), (by rw [zup_ne _ _ _ (by omega), f2 _ (by omega), f1 _ (by omega)]; exact p0), (by rw [zup_ne _ _ _ (by omega)]; exact p2)⟩
def hX2 (a : Nat) : List ZC := (0, 2, [0]) :: (([] : List ZC))
theorem n_X2 : ZN0 yX2_init cX2_init 1 1 0 0 [] 2 hX2 (fun a J => True) := by
  intro τ a I ha hz
  refine ZSp.of (own := RX2) (L := [.ref a]) mX2_init rfl (List.all_eq_true.mp rfl) (Nat.le_of_ble_eq_true rfl) rfl (fun X hE hN => ?_)
  refine z_sg (σ' := τ ++ ((0, 2, [0]) :: [])) rfl ?_
  refine z_aload_n dX2_init_0 rfl ?_
  refine z_objInit gRX2_1 j_obj_instanceMethod j_obj_code dX2_init_1 (by decide) (by decide) ?_
  exact z_vret hE dX2_init_4 ⟨rfl, rfl, fun _ _ => rfl, trivial⟩
def hX3 (a : Nat) : List ZC := (0, 3, [a + 3, a + 4, a + 6, a + 8]) :: (([] : List ZC) ++ hX2 (a + 1) ++ hRow (a + 2) 20 ++ hRow (a + 4) 20 ++ hRow (a + 6) 5)
theorem n_X3 : ZN0 yX3_init cX3_init 1 2 7 49 [] 3 hX3 (fun a J => True) := by
  intro τ a I ha hz
  refine ZSp.of (own := RX3) (L := [.ref a]) mX3_init rfl (List.all_eq_true.mp rfl) (Nat.le_of_ble_eq_true rfl) rfl (fun X hE hN => ?_)
  refine z_sg (σ' := τ ++ ((0, 3, [1, 1, 1, 1]) :: [])) rfl ?_
  refine z_aload_n dX3_init_0 rfl ?_
  refine z_objInit gRX3_3 j_obj_instanceMethod j_obj_code dX3_init_1 (by decide) (by decide) ?_
  refine z_aload_n dX3_init_4 rfl ?_
  refine z_nob (ci := 2) (N := 1) (a := a + 1) (z_lenO (n := 0) ha rfl) nRX3_9 ⟨_, rfl⟩ dX3_init_5 (by decide) (Nat.le_of_ble_eq_true rfl) ?_
  refine z_dup dX3_init_8 rfl ?_
  refine z_init0 (a := a + 1) mX2_init gRX3_11 dX3_init_9 n_X2 (z_lenO (n := 0) ha rfl) rfl (by decide) (Nat.le_of_ble_eq_true rfl) (by decide) (Nat.le_of_ble_eq_true rfl) (fun K0 f0 p0 => ?_)
  refine z_sg (σ' := τ ++ ((0, 3, [1, 1, 1, 1]) :: (([] : List ZC) ++ hX2 (a + 1)))) (List.append_assoc _ _ _) ?_
  refine z_putO (C := "TestVersions$Lots") (rs' := [a + 3, 1, 1, 1]) ha (Or.inl eRX3_12) hN rfl dX3_init_12 rfl rfl ?_
  refine z_k (kc' := 1) (ks' := 1) rfl rfl ?_
  refine z_aload_n dX3_init_15 rfl ?_
  refine z_nob (ci := 6) (N := 1) (a := a + 2) (z_lenO (n := 1) ha rfl) nRX3_18 ⟨_, rfl⟩ dX3_init_16 (by decide) (Nat.le_of_ble_eq_true rfl) ?_
  refine z_dup dX3_init_19 rfl ?_
  refine z_bipush (v := 20) dX3_init_20 rfl ?_
  refine z_init1 (a := a + 2) mX6_init gRX3_20 dX3_init_22 (n_X6 20 (by decide) (by decide)) (z_lenO (n := 1) ha rfl) rfl (by decide) (Nat.le_of_ble_eq_true rfl) (by decide) (Nat.le_of_ble_eq_true rfl) (fun K1 f1 p1 => ?_)
  refine z_sg (σ' := τ ++ ((0, 3, [a + 3, 1, 1, 1]) :: (([] : List ZC) ++ hX2 (a + 1) ++ hRow (a + 2) 20))) (List.append_assoc _ _ _) ?_
  refine z_putO (C := "TestVersions$Row") (rs' := [a + 3, a + 4, 1, 1]) ha (Or.inl eRX3_23) hN rfl dX3_init_25 rfl rfl ?_
  refine z_k (kc' := 3) (ks' := 22) rfl rfl ?_
  refine z_aload_n dX3_init_28 rfl ?_
  refine z_nob (ci := 6) (N := 1) (a := a + 4) (z_lenO (n := 3) ha rfl) nRX3_18 ⟨_, rfl⟩ dX3_init_29 (by decide) (Nat.le_of_ble_eq_true rfl) ?_
  refine z_dup dX3_init_32 rfl ?_
  refine z_bipush (v := 20) dX3_init_33 rfl ?_
  refine z_init1 (a := a + 4) mX6_init gRX3_20 dX3_init_35 (n_X6 20 (by decide) (by decide)) (z_lenO (n := 3) ha rfl) rfl (by decide) (Nat.le_of_ble_eq_true rfl) (by decide) (Nat.le_of_ble_eq_true rfl) (fun K2 f2 p2 => ?_)
  refine z_sg (σ' := τ ++ ((0, 3, [a + 3, a + 4, 1, 1]) :: (([] : List ZC) ++ hX2 (a + 1) ++ hRow (a + 2) 20 ++ hRow (a + 4) 20))) (List.append_assoc _ _ _) ?_
  refine z_putO (C := "TestVersions$Row") (rs' := [a + 3, a + 4, a + 6, 1]) ha (Or.inl eRX3_27) hN rfl dX3_init_38 rfl rfl ?_
  refine z_k (kc' := 5) (ks' := 43) rfl rfl ?_
  refine z_aload_n dX3_init_41 rfl ?_
  refine z_nob (ci := 6) (N := 1) (a := a + 6) (z_lenO (n := 5) ha rfl) nRX3_18 ⟨_, rfl⟩ dX3_init_42 (by decide) (Nat.le_of_ble_eq_true rfl) ?_
  refine z_dup dX3_init_45 rfl ?_
  refine z_iconst (v := 5) dX3_init_46 rfl ?_
  refine z_init1 (a := a + 6) mX6_init gRX3_20 dX3_init_47 (n_X6 5 (by decide) (by decide)) (z_lenO (n := 5) ha rfl) rfl (by decide) (Nat.le_of_ble_eq_true rfl) (by decide) (Nat.le_of_ble_eq_true rfl) (fun K3 f3 p3 => ?_)
  refine z_sg (σ' := τ ++ ((0, 3, [a + 3, a + 4, a + 6, 1]) :: (([] : List ZC) ++ hX2 (a + 1) ++ hRow (a + 2) 20 ++ hRow (a + 4) 20 ++ hRow (a + 6) 5))) (List.append_assoc _ _ _) ?_
  refine z_putO (C := "TestVersions$Row") (rs' := [a + 3, a + 4, a + 6, a + 8]) ha (Or.inl eRX3_30) hN rfl dX3_init_50 rfl rfl ?_
  refine z_k (kc' := 7) (ks' := 49) rfl rfl ?_
  exact z_vret hE dX3_init_53 ⟨rfl, rfl, fun q hq => (by rw [f3 q (by omega), f2 q (by omega), f1 q (by omega), f0 q (by omega)]), trivial⟩
def hX1 (a : Nat) : List ZC := (0, 1, [a + 3, a + 5, a + 7, a + 9, a + 11, 0, 0]) :: (([] : List ZC) ++ hRow (a + 1) 20 ++ hRow (a + 3) 20 ++ hRow (a + 5) 20 ++ hRow (a + 7) 20 ++ hRow (a + 9) 20)
theorem n_X1 : ZN0 yX1_init cX1_init 1 2 10 105 [] 1 hX1 (fun a J => True) := by
  intro τ a I ha hz
  refine ZSp.of (own := RX1) (L := [.ref a]) mX1_init rfl (List.all_eq_true.mp rfl) (Nat.le_of_ble_eq_true rfl) rfl (fun X hE hN => ?_)
  refine z_sg (σ' := τ ++ ((0, 1, [1, 1, 1, 1, 1, 0, 0]) :: [])) rfl ?_
  refine z_aload_n dX1_init_0 rfl ?_
  refine z_objInit gRX1_3 j_obj_instanceMethod j_obj_code dX1_init_1 (by decide) (by decide) ?_
  refine z_aload_n dX1_init_4 rfl ?_
  refine z_nob (ci := 6) (N := 1) (a := a + 1) (z_lenO (n := 0) ha rfl) nRX1_9 ⟨_, rfl⟩ dX1_init_5 (by decide) (Nat.le_of_ble_eq_true rfl) ?_
  refine z_dup dX1_init_8 rfl ?_
  refine z_bipush (v := 20) dX1_init_9 rfl ?_
  refine z_init1 (a := a + 1) mX6_init gRX1_11 dX1_init_11 (n_X6 20 (by decide) (by decide)) (z_lenO (n := 0) ha rfl) rfl (by decide) (Nat.le_of_ble_eq_true rfl) (by decide) (Nat.le_of_ble_eq_true rfl) (fun K0 f0 p0 => ?_)
  refine z_sg (σ' := τ ++ ((0, 1, [1, 1, 1, 1, 1, 0, 0]) :: (([] : List ZC) ++ hRow (a + 1) 20))) (List.append_assoc _ _ _) ?_
  refine z_putO (C := "TestVersions$Row") (rs' := [a + 3, 1, 1, 1, 1, 0, 0]) ha (Or.inl eRX1_14) hN rfl dX1_init_14 rfl rfl ?_
  refine z_k (kc' := 2) (ks' := 21) rfl rfl ?_
  refine z_aload_n dX1_init_17 rfl ?_
  refine z_nob (ci := 6) (N := 1) (a := a + 3) (z_lenO (n := 2) ha rfl) nRX1_9 ⟨_, rfl⟩ dX1_init_18 (by decide) (Nat.le_of_ble_eq_true rfl) ?_
  refine z_dup dX1_init_21 rfl ?_
  refine z_bipush (v := 20) dX1_init_22 rfl ?_
  refine z_init1 (a := a + 3) mX6_init gRX1_11 dX1_init_24 (n_X6 20 (by decide) (by decide)) (z_lenO (n := 2) ha rfl) rfl (by decide) (Nat.le_of_ble_eq_true rfl) (by decide) (Nat.le_of_ble_eq_true rfl) (fun K1 f1 p1 => ?_)
  refine z_sg (σ' := τ ++ ((0, 1, [a + 3, 1, 1, 1, 1, 0, 0]) :: (([] : List ZC) ++ hRow (a + 1) 20 ++ hRow (a + 3) 20))) (List.append_assoc _ _ _) ?_
  refine z_putO (C := "TestVersions$Row") (rs' := [a + 3, a + 5, 1, 1, 1, 0, 0]) ha (Or.inl eRX1_20) hN rfl dX1_init_27 rfl rfl ?_
  refine z_k (kc' := 4) (ks' := 42) rfl rfl ?_
  refine z_aload_n dX1_init_30 rfl ?_
  refine z_nob (ci := 6) (N := 1) (a := a + 5) (z_lenO (n := 4) ha rfl) nRX1_9 ⟨_, rfl⟩ dX1_init_31 (by decide) (Nat.le_of_ble_eq_true rfl) ?_
  refine z_dup dX1_init_34 rfl ?_
  refine z_bipush (v := 20) dX1_init_35 rfl ?_
  refine z_init1 (a := a + 5) mX6_init gRX1_11 dX1_init_37 (n_X6 20 (by decide) (by decide)) (z_lenO (n := 4) ha rfl) rfl (by decide) (Nat.le_of_ble_eq_true rfl) (by decide) (Nat.le_of_ble_eq_true rfl) (fun K2 f2 p2 => ?_)
  refine z_sg (σ' := τ ++ ((0, 1, [a + 3, a + 5, 1, 1, 1, 0, 0]) :: (([] : List ZC) ++ hRow (a + 1) 20 ++ hRow (a + 3) 20 ++ hRow (a + 5) 20))) (List.append_assoc _ _ _) ?_
  refine z_putO (C := "TestVersions$Row") (rs' := [a + 3, a + 5, a + 7, 1, 1, 0, 0]) ha (Or.inl eRX1_23) hN rfl dX1_init_40 rfl rfl ?_
  refine z_k (kc' := 6) (ks' := 63) rfl rfl ?_
  refine z_aload_n dX1_init_43 rfl ?_
  refine z_nob (ci := 6) (N := 1) (a := a + 7) (z_lenO (n := 6) ha rfl) nRX1_9 ⟨_, rfl⟩ dX1_init_44 (by decide) (Nat.le_of_ble_eq_true rfl) ?_
  refine z_dup dX1_init_47 rfl ?_
  refine z_bipush (v := 20) dX1_init_48 rfl ?_
  refine z_init1 (a := a + 7) mX6_init gRX1_11 dX1_init_50 (n_X6 20 (by decide) (by decide)) (z_lenO (n := 6) ha rfl) rfl (by decide) (Nat.le_of_ble_eq_true rfl) (by decide) (Nat.le_of_ble_eq_true rfl) (fun K3 f3 p3 => ?_)
  refine z_sg (σ' := τ ++ ((0, 1, [a + 3, a + 5, a + 7, 1, 1, 0, 0]) :: (([] : List ZC) ++ hRow (a + 1) 20 ++ hRow (a + 3) 20 ++ hRow (a + 5) 20 ++ hRow (a + 7) 20))) (List.append_assoc _ _ _) ?_
  refine z_putO (C := "TestVersions$Row") (rs' := [a + 3, a + 5, a + 7, a + 9, 1, 0, 0]) ha (Or.inl eRX1_26) hN rfl dX1_init_53 rfl rfl ?_
  refine z_k (kc' := 8) (ks' := 84) rfl rfl ?_
  refine z_aload_n dX1_init_56 rfl ?_
  refine z_nob (ci := 6) (N := 1) (a := a + 9) (z_lenO (n := 8) ha rfl) nRX1_9 ⟨_, rfl⟩ dX1_init_57 (by decide) (Nat.le_of_ble_eq_true rfl) ?_
  refine z_dup dX1_init_60 rfl ?_
  refine z_bipush (v := 20) dX1_init_61 rfl ?_
  refine z_init1 (a := a + 9) mX6_init gRX1_11 dX1_init_63 (n_X6 20 (by decide) (by decide)) (z_lenO (n := 8) ha rfl) rfl (by decide) (Nat.le_of_ble_eq_true rfl) (by decide) (Nat.le_of_ble_eq_true rfl) (fun K4 f4 p4 => ?_)
  refine z_sg (σ' := τ ++ ((0, 1, [a + 3, a + 5, a + 7, a + 9, 1, 0, 0]) :: (([] : List ZC) ++ hRow (a + 1) 20 ++ hRow (a + 3) 20 ++ hRow (a + 5) 20 ++ hRow (a + 7) 20 ++ hRow (a + 9) 20))) (List.append_assoc _ _ _) ?_
  refine z_putO (C := "TestVersions$Row") (rs' := [a + 3, a + 5, a + 7, a + 9, a + 11, 0, 0]) ha (Or.inl eRX1_29) hN rfl dX1_init_66 rfl rfl ?_
  refine z_k (kc' := 10) (ks' := 105) rfl rfl ?_
  exact z_vret hE dX1_init_69 ⟨rfl, rfl, fun q hq => (by rw [f4 q (by omega), f3 q (by omega), f2 q (by omega), f1 q (by omega), f0 q (by omega)]), trivial⟩
def hX4 (a : Nat) : List ZC := (0, 4, [a + 3, a + 5, a + 7, a + 9, a + 11, 0, 0]) :: (([] : List ZC) ++ hRow (a + 1) 20 ++ hRow (a + 3) 20 ++ hRow (a + 5) 20 ++ hRow (a + 7) 100 ++ hX1 (a + 9))
theorem n_X4 : ZN0 yX4_init cX4_init 1 3 19 276 [] 4 hX4 (fun a J => J a 6 = 0) := by
  intro τ a I ha hz
  refine ZSp.of (own := RX4) (L := [.ref a]) mX4_init rfl (List.all_eq_true.mp rfl) (Nat.le_of_ble_eq_true rfl) rfl (fun X hE hN => ?_)
  refine z_sg (σ' := τ ++ ((0, 4, [1, 1, 1, 1, 1, 0, 0]) :: [])) rfl ?_
  refine z_aload_n dX4_init_0 rfl ?_
  refine z_objInit gRX4_3 j_obj_instanceMethod j_obj_code dX4_init_1 (by decide) (by decide) ?_
  refine z_aload_n dX4_init_4 rfl ?_
  refine z_nob (ci := 6) (N := 1) (a := a + 1) (z_lenO (n := 0) ha rfl) nRX4_9 ⟨_, rfl⟩ dX4_init_5 (by decide) (Nat.le_of_ble_eq_true rfl) ?_
  refine z_dup dX4_init_8 rfl ?_
  refine z_bipush (v := 20) dX4_init_9 rfl ?_
  refine z_init1 (a := a + 1) mX6_init gRX4_11 dX4_init_11 (n_X6 20 (by decide) (by decide)) (z_lenO (n := 0) ha rfl) rfl (by decide) (Nat.le_of_ble_eq_true rfl) (by decide) (Nat.le_of_ble_eq_true rfl) (fun K0 f0 p0 => ?_)
  refine z_sg (σ' := τ ++ ((0, 4, [1, 1, 1, 1, 1, 0, 0]) :: (([] : List ZC) ++ hRow (a + 1) 20))) (List.append_assoc _ _ _) ?_
  refine z_putO (C := "TestVersions$Row") (rs' := [a + 3, 1, 1, 1, 1, 0, 0]) ha (Or.inl eRX4_14) hN rfl dX4_init_14 rfl rfl ?_
  refine z_k (kc' := 2) (ks' := 21) rfl rfl ?_
  refine z_aload_n dX4_init_17 rfl ?_
  refine z_nob (ci := 6) (N := 1) (a := a + 3) (z_lenO (n := 2) ha rfl) nRX4_9 ⟨_, rfl⟩ dX4_init_18 (by decide) (Nat.le_of_ble_eq_true rfl) ?_
  refine z_dup dX4_init_21 rfl ?_
  refine z_bipush (v := 20) dX4_init_22 rfl ?_
  refine z_init1 (a := a + 3) mX6_init gRX4_11 dX4_init_24 (n_X6 20 (by decide) (by decide)) (z_lenO (n := 2) ha rfl) rfl (by decide) (Nat.le_of_ble_eq_true rfl) (by decide) (Nat.le_of_ble_eq_true rfl) (fun K1 f1 p1 => ?_)
  refine z_sg (σ' := τ ++ ((0, 4, [a + 3, 1, 1, 1, 1, 0, 0]) :: (([] : List ZC) ++ hRow (a + 1) 20 ++ hRow (a + 3) 20))) (List.append_assoc _ _ _) ?_
  refine z_putO (C := "TestVersions$Row") (rs' := [a + 3, a + 5, 1, 1, 1, 0, 0]) ha (Or.inl eRX4_20) hN rfl dX4_init_27 rfl rfl ?_
  refine z_k (kc' := 4) (ks' := 42) rfl rfl ?_
  refine z_aload_n dX4_init_30 rfl ?_
  refine z_nob (ci := 6) (N := 1) (a := a + 5) (z_lenO (n := 4) ha rfl) nRX4_9 ⟨_, rfl⟩ dX4_init_31 (by decide) (Nat.le_of_ble_eq_true rfl) ?_
  refine z_dup dX4_init_34 rfl ?_
  refine z_bipush (v := 20) dX4_init_35 rfl ?_
  refine z_init1 (a := a + 5) mX6_init gRX4_11 dX4_init_37 (n_X6 20 (by decide) (by decide)) (z_lenO (n := 4) ha rfl) rfl (by decide) (Nat.le_of_ble_eq_true rfl) (by decide) (Nat.le_of_ble_eq_true rfl) (fun K2 f2 p2 => ?_)
  refine z_sg (σ' := τ ++ ((0, 4, [a + 3, a + 5, 1, 1, 1, 0, 0]) :: (([] : List ZC) ++ hRow (a + 1) 20 ++ hRow (a + 3) 20 ++ hRow (a + 5) 20))) (List.append_assoc _ _ _) ?_
  refine z_putO (C := "TestVersions$Row") (rs' := [a + 3, a + 5, a + 7, 1, 1, 0, 0]) ha (Or.inl eRX4_23) hN rfl dX4_init_40 rfl rfl ?_
  refine z_k (kc' := 6) (ks' := 63) rfl rfl ?_
  refine z_aload_n dX4_init_43 rfl ?_
  refine z_nob (ci := 6) (N := 1) (a := a + 7) (z_lenO (n := 6) ha rfl) nRX4_9 ⟨_, rfl⟩ dX4_init_44 (by decide) (Nat.le_of_ble_eq_true rfl) ?_
  refine z_dup dX4_init_47 rfl ?_
  refine z_bipush (v := 100) dX4_init_48 rfl ?_
  refine z_init1 (a := a + 7) mX6_init gRX4_11 dX4_init_50 (n_X6 100 (by decide) (by decide)) (z_lenO (n := 6) ha rfl) rfl (by decide) (Nat.le_of_ble_eq_true rfl) (by decide) (Nat.le_of_ble_eq_true rfl) (fun K3 f3 p3 => ?_)
  refine z_sg (σ' := τ ++ ((0, 4, [a + 3, a + 5, a + 7, 1, 1, 0, 0]) :: (([] : List ZC) ++ hRow (a + 1) 20 ++ hRow (a + 3) 20 ++ hRow (a + 5) 20 ++ hRow (a + 7) 100))) (List.append_assoc _ _ _) ?_
  refine z_putO (C := "TestVersions$Row") (rs' := [a + 3, a + 5, a + 7, a + 9, 1, 0, 0]) ha (Or.inl eRX4_26) hN rfl dX4_init_53 rfl rfl ?_
  refine z_k (kc' := 8) (ks' := 164) rfl rfl ?_
  refine z_aload_n dX4_init_56 rfl ?_
  refine z_nob (ci := 1) (N := 7) (a := a + 9) (z_lenO (n := 8) ha rfl) nRX4_29 ⟨_, rfl⟩ dX4_init_57 (by decide) (Nat.le_of_ble_eq_true rfl) ?_
  refine z_dup dX4_init_60 rfl ?_
  refine z_init0 (a := a + 9) mX1_init gRX4_31 dX4_init_61 n_X1 (z_lenO (n := 8) ha rfl) rfl (by decide) (Nat.le_of_ble_eq_true rfl) (by decide) (Nat.le_of_ble_eq_true rfl) (fun K4 f4 p4 => ?_)
  refine z_sg (σ' := τ ++ ((0, 4, [a + 3, a + 5, a + 7, a + 9, 1, 0, 0]) :: (([] : List ZC) ++ hRow (a + 1) 20 ++ hRow (a + 3) 20 ++ hRow (a + 5) 20 ++ hRow (a + 7) 100 ++ hX1 (a + 9)))) (List.append_assoc _ _ _) ?_
  refine z_putO (C := "TestVersions$Layout") (rs' := [a + 3, a + 5, a + 7, a + 9, a + 11, 0, 0]) ha (Or.inl eRX4_32) hN rfl dX4_init_64 rfl rfl ?_
  refine z_k (kc' := 19) (ks' := 276) rfl rfl ?_
  exact z_vret hE dX4_init_67 ⟨rfl, rfl, fun q hq => (by rw [f4 q (by omega), f3 q (by omega), f2 q (by omega), f1 q (by omega), f0 q (by omega)]), (show K4 a 6 = 0 from by rw [f4 a (by omega), f3 a (by omega), f2 a (by omega), f1 a (by omega), f0 a (by omega), hz])⟩

