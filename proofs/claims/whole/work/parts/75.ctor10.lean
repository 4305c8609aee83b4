/-! ===== the constructor of the model ===== -/
def hX10 (a : Nat) : List ZC := (0, 10, [a + 3, a + 4, 0, 0, a + 5, a + 6, a + 7, a + 8, 0, a + 9, a + 10, a + 11, 0, a + 12, a + 13, a + 14, 0]) :: ((1, 540, []) :: (1, 2700, []) :: (1, 20, []) :: (1, 20, []) :: (1, 100, []) :: (1, 20, []) :: (1, 20, []) :: (1, 20, []) :: (1, 20, []) :: (1, 20, []) :: (1, 20, []) :: (1, 20, []) :: [])
theorem n_X10 : ZN0 yX10_init cX10_init 1 1 12 3520 [] 10 hX10 (fun a J => J a 2 = 0 ∧ J a 16 = 0 ∧ J (a + 1) 0 = 0 ∧ J (a + 1) 1 = 0 ∧ J (a + 1) 2 = 30 ∧ J (a + 1) 3 = 0) := by
  intro τ a I ha hz
  refine ZSp.of (own := RX10) (L := [.ref a]) mX10_init rfl (List.all_eq_true.mp rfl) (Nat.le_of_ble_eq_true rfl) rfl (fun X hE hN => ?_)
  refine z_sg (σ' := τ ++ ((0, 10, [1, 1, 0, 0, 1, 1, 1, 1, 0, 1, 1, 1, 0, 1, 1, 1, 0]) :: [])) rfl ?_
  refine z_aload_n dX10_init_0 rfl ?_
  refine z_objInit gRX10_1 j_obj_instanceMethod j_obj_code dX10_init_1 (by decide) (by decide) ?_
  refine z_aload_n dX10_init_4 rfl ?_
  refine z_sipush (v := 540) dX10_init_5 rfl ?_
  refine z_narO (N := 540) (a := a + 1) (z_lenO (n := 0) ha rfl) rfl dX10_init_8 (by decide) (by decide) (Nat.le_of_ble_eq_true rfl) (fun K0 f0 g0 => ?_)
  refine z_sg (σ' := τ ++ ((0, 10, [1, 1, 0, 0, 1, 1, 1, 1, 0, 1, 1, 1, 0, 1, 1, 1, 0]) :: ((1, 540, []) :: []))) (List.append_assoc _ _ _) ?_
  refine z_putO (C := "") (rs' := [a + 3, 1, 0, 0, 1, 1, 1, 1, 0, 1, 1, 1, 0, 1, 1, 1, 0]) ha (Or.inr ⟨_, eRX10_7⟩) hN rfl dX10_init_10 rfl rfl ?_
  refine z_k (kc' := 1) (ks' := 540) rfl rfl ?_
  refine z_aload_n dX10_init_13 rfl ?_
  refine z_sipush (v := 2700) dX10_init_14 rfl ?_
  refine z_narO (N := 2700) (a := a + 2) (z_lenO (n := 1) ha rfl) rfl dX10_init_17 (by decide) (by decide) (Nat.le_of_ble_eq_true rfl) (fun K1 f1 g1 => ?_)
  refine z_sg (σ' := τ ++ ((0, 10, [a + 3, 1, 0, 0, 1, 1, 1, 1, 0, 1, 1, 1, 0, 1, 1, 1, 0]) :: ((1, 540, []) :: (1, 2700, []) :: []))) (List.append_assoc _ _ _) ?_
  refine z_putO (C := "") (rs' := [a + 3, a + 4, 0, 0, 1, 1, 1, 1, 0, 1, 1, 1, 0, 1, 1, 1, 0]) ha (Or.inr ⟨_, eRX10_13⟩) hN rfl dX10_init_19 rfl rfl ?_
  refine z_k (kc' := 2) (ks' := 3240) rfl rfl ?_
  refine z_aload_n dX10_init_22 rfl ?_
  refine z_bipush (v := 20) dX10_init_23 rfl ?_
  refine z_narO (N := 20) (a := a + 3) (z_lenO (n := 2) ha rfl) rfl dX10_init_25 (by decide) (by decide) (Nat.le_of_ble_eq_true rfl) (fun K2 f2 g2 => ?_)
  refine z_sg (σ' := τ ++ ((0, 10, [a + 3, a + 4, 0, 0, 1, 1, 1, 1, 0, 1, 1, 1, 0, 1, 1, 1, 0]) :: ((1, 540, []) :: (1, 2700, []) :: (1, 20, []) :: []))) (List.append_assoc _ _ _) ?_
  refine z_putO (C := "") (rs' := [a + 3, a + 4, 0, 0, a + 5, 1, 1, 1, 0, 1, 1, 1, 0, 1, 1, 1, 0]) ha (Or.inr ⟨_, eRX10_16⟩) hN rfl dX10_init_27 rfl rfl ?_
  refine z_k (kc' := 3) (ks' := 3260) rfl rfl ?_
  refine z_aload_n dX10_init_30 rfl ?_
  refine z_bipush (v := 20) dX10_init_31 rfl ?_
  refine z_narO (N := 20) (a := a + 4) (z_lenO (n := 3) ha rfl) rfl dX10_init_33 (by decide) (by decide) (Nat.le_of_ble_eq_true rfl) (fun K3 f3 g3 => ?_)
  refine z_sg (σ' := τ ++ ((0, 10, [a + 3, a + 4, 0, 0, a + 5, 1, 1, 1, 0, 1, 1, 1, 0, 1, 1, 1, 0]) :: ((1, 540, []) :: (1, 2700, []) :: (1, 20, []) :: (1, 20, []) :: []))) (List.append_assoc _ _ _) ?_
  refine z_putO (C := "") (rs' := [a + 3, a + 4, 0, 0, a + 5, a + 6, 1, 1, 0, 1, 1, 1, 0, 1, 1, 1, 0]) ha (Or.inr ⟨_, eRX10_19⟩) hN rfl dX10_init_35 rfl rfl ?_
  refine z_k (kc' := 4) (ks' := 3280) rfl rfl ?_
  refine z_aload_n dX10_init_38 rfl ?_
  refine z_bipush (v := 100) dX10_init_39 rfl ?_
  refine z_narO (N := 100) (a := a + 5) (z_lenO (n := 4) ha rfl) rfl dX10_init_41 (by decide) (by decide) (Nat.le_of_ble_eq_true rfl) (fun K4 f4 g4 => ?_)
  refine z_sg (σ' := τ ++ ((0, 10, [a + 3, a + 4, 0, 0, a + 5, a + 6, 1, 1, 0, 1, 1, 1, 0, 1, 1, 1, 0]) :: ((1, 540, []) :: (1, 2700, []) :: (1, 20, []) :: (1, 20, []) :: (1, 100, []) :: []))) (List.append_assoc _ _ _) ?_
  refine z_putO (C := "") (rs' := [a + 3, a + 4, 0, 0, a + 5, a + 6, a + 7, 1, 0, 1, 1, 1, 0, 1, 1, 1, 0]) ha (Or.inr ⟨_, eRX10_22⟩) hN rfl dX10_init_43 rfl rfl ?_
  refine z_k (kc' := 5) (ks' := 3380) rfl rfl ?_
  refine z_aload_n dX10_init_46 rfl ?_
  refine z_bipush (v := 20) dX10_init_47 rfl ?_
  refine z_narO (N := 20) (a := a + 6) (z_lenO (n := 5) ha rfl) rfl dX10_init_49 (by decide) (by decide) (Nat.le_of_ble_eq_true rfl) (fun K5 f5 g5 => ?_)
  refine z_sg (σ' := τ ++ ((0, 10, [a + 3, a + 4, 0, 0, a + 5, a + 6, a + 7, 1, 0, 1, 1, 1, 0, 1, 1, 1, 0]) :: ((1, 540, []) :: (1, 2700, []) :: (1, 20, []) :: (1, 20, []) :: (1, 100, []) :: (1, 20, []) :: []))) (List.append_assoc _ _ _) ?_
  refine z_putO (C := "") (rs' := [a + 3, a + 4, 0, 0, a + 5, a + 6, a + 7, a + 8, 0, 1, 1, 1, 0, 1, 1, 1, 0]) ha (Or.inr ⟨_, eRX10_25⟩) hN rfl dX10_init_51 rfl rfl ?_
  refine z_k (kc' := 6) (ks' := 3400) rfl rfl ?_
  refine z_aload_n dX10_init_54 rfl ?_
  refine z_bipush (v := 20) dX10_init_55 rfl ?_
  refine z_narO (N := 20) (a := a + 7) (z_lenO (n := 6) ha rfl) rfl dX10_init_57 (by decide) (by decide) (Nat.le_of_ble_eq_true rfl) (fun K6 f6 g6 => ?_)
  refine z_sg (σ' := τ ++ ((0, 10, [a + 3, a + 4, 0, 0, a + 5, a + 6, a + 7, a + 8, 0, 1, 1, 1, 0, 1, 1, 1, 0]) :: ((1, 540, []) :: (1, 2700, []) :: (1, 20, []) :: (1, 20, []) :: (1, 100, []) :: (1, 20, []) :: (1, 20, []) :: []))) (List.append_assoc _ _ _) ?_
  refine z_putO (C := "") (rs' := [a + 3, a + 4, 0, 0, a + 5, a + 6, a + 7, a + 8, 0, a + 9, 1, 1, 0, 1, 1, 1, 0]) ha (Or.inr ⟨_, eRX10_28⟩) hN rfl dX10_init_59 rfl rfl ?_
  refine z_k (kc' := 7) (ks' := 3420) rfl rfl ?_
  refine z_aload_n dX10_init_62 rfl ?_
  refine z_bipush (v := 20) dX10_init_63 rfl ?_
  refine z_narO (N := 20) (a := a + 8) (z_lenO (n := 7) ha rfl) rfl dX10_init_65 (by decide) (by decide) (Nat.le_of_ble_eq_true rfl) (fun K7 f7 g7 => ?_)
  refine z_sg (σ' := τ ++ ((0, 10, [a + 3, a + 4, 0, 0, a + 5, a + 6, a + 7, a + 8, 0, a + 9, 1, 1, 0, 1, 1, 1, 0]) :: ((1, 540, []) :: (1, 2700, []) :: (1, 20, []) :: (1, 20, []) :: (1, 100, []) :: (1, 20, []) :: (1, 20, []) :: (1, 20, []) :: []))) (List.append_assoc _ _ _) ?_
  refine z_putO (C := "") (rs' := [a + 3, a + 4, 0, 0, a + 5, a + 6, a + 7, a + 8, 0, a + 9, a + 10, 1, 0, 1, 1, 1, 0]) ha (Or.inr ⟨_, eRX10_31⟩) hN rfl dX10_init_67 rfl rfl ?_
  refine z_k (kc' := 8) (ks' := 3440) rfl rfl ?_
  refine z_aload_n dX10_init_70 rfl ?_
  refine z_bipush (v := 20) dX10_init_71 rfl ?_
  refine z_narO (N := 20) (a := a + 9) (z_lenO (n := 8) ha rfl) rfl dX10_init_73 (by decide) (by decide) (Nat.le_of_ble_eq_true rfl) (fun K8 f8 g8 => ?_)
  refine z_sg (σ' := τ ++ ((0, 10, [a + 3, a + 4, 0, 0, a + 5, a + 6, a + 7, a + 8, 0, a + 9, a + 10, 1, 0, 1, 1, 1, 0]) :: ((1, 540, []) :: (1, 2700, []) :: (1, 20, []) :: (1, 20, []) :: (1, 100, []) :: (1, 20, []) :: (1, 20, []) :: (1, 20, []) :: (1, 20, []) :: []))) (List.append_assoc _ _ _) ?_
  refine z_putO (C := "") (rs' := [a + 3, a + 4, 0, 0, a + 5, a + 6, a + 7, a + 8, 0, a + 9, a + 10, a + 11, 0, 1, 1, 1, 0]) ha (Or.inr ⟨_, eRX10_34⟩) hN rfl dX10_init_75 rfl rfl ?_
  refine z_k (kc' := 9) (ks' := 3460) rfl rfl ?_
  refine z_aload_n dX10_init_78 rfl ?_
  refine z_bipush (v := 20) dX10_init_79 rfl ?_
  refine z_narO (N := 20) (a := a + 10) (z_lenO (n := 9) ha rfl) rfl dX10_init_81 (by decide) (by decide) (Nat.le_of_ble_eq_true rfl) (fun K9 f9 g9 => ?_)
  refine z_sg (σ' := τ ++ ((0, 10, [a + 3, a + 4, 0, 0, a + 5, a + 6, a + 7, a + 8, 0, a + 9, a + 10, a + 11, 0, 1, 1, 1, 0]) :: ((1, 540, []) :: (1, 2700, []) :: (1, 20, []) :: (1, 20, []) :: (1, 100, []) :: (1, 20, []) :: (1, 20, []) :: (1, 20, []) :: (1, 20, []) :: (1, 20, []) :: []))) (List.append_assoc _ _ _) ?_
  refine z_putO (C := "") (rs' := [a + 3, a + 4, 0, 0, a + 5, a + 6, a + 7, a + 8, 0, a + 9, a + 10, a + 11, 0, a + 12, 1, 1, 0]) ha (Or.inr ⟨_, eRX10_37⟩) hN rfl dX10_init_83 rfl rfl ?_
  refine z_k (kc' := 10) (ks' := 3480) rfl rfl ?_
  refine z_aload_n dX10_init_86 rfl ?_
  refine z_bipush (v := 20) dX10_init_87 rfl ?_
  refine z_narO (N := 20) (a := a + 11) (z_lenO (n := 10) ha rfl) rfl dX10_init_89 (by decide) (by decide) (Nat.le_of_ble_eq_true rfl) (fun K10 f10 g10 => ?_)
  refine z_sg (σ' := τ ++ ((0, 10, [a + 3, a + 4, 0, 0, a + 5, a + 6, a + 7, a + 8, 0, a + 9, a + 10, a + 11, 0, a + 12, 1, 1, 0]) :: ((1, 540, []) :: (1, 2700, []) :: (1, 20, []) :: (1, 20, []) :: (1, 100, []) :: (1, 20, []) :: (1, 20, []) :: (1, 20, []) :: (1, 20, []) :: (1, 20, []) :: (1, 20, []) :: []))) (List.append_assoc _ _ _) ?_
  refine z_putO (C := "") (rs' := [a + 3, a + 4, 0, 0, a + 5, a + 6, a + 7, a + 8, 0, a + 9, a + 10, a + 11, 0, a + 12, a + 13, 1, 0]) ha (Or.inr ⟨_, eRX10_40⟩) hN rfl dX10_init_91 rfl rfl ?_
  refine z_k (kc' := 11) (ks' := 3500) rfl rfl ?_
  refine z_aload_n dX10_init_94 rfl ?_
  refine z_bipush (v := 20) dX10_init_95 rfl ?_
  refine z_narO (N := 20) (a := a + 12) (z_lenO (n := 11) ha rfl) rfl dX10_init_97 (by decide) (by decide) (Nat.le_of_ble_eq_true rfl) (fun K11 f11 g11 => ?_)
  refine z_sg (σ' := τ ++ ((0, 10, [a + 3, a + 4, 0, 0, a + 5, a + 6, a + 7, a + 8, 0, a + 9, a + 10, a + 11, 0, a + 12, a + 13, 1, 0]) :: ((1, 540, []) :: (1, 2700, []) :: (1, 20, []) :: (1, 20, []) :: (1, 100, []) :: (1, 20, []) :: (1, 20, []) :: (1, 20, []) :: (1, 20, []) :: (1, 20, []) :: (1, 20, []) :: (1, 20, []) :: []))) (List.append_assoc _ _ _) ?_
  refine z_putO (C := "") (rs' := [a + 3, a + 4, 0, 0, a + 5, a + 6, a + 7, a + 8, 0, a + 9, a + 10, a + 11, 0, a + 12, a + 13, a + 14, 0]) ha (Or.inr ⟨_, eRX10_43⟩) hN rfl dX10_init_99 rfl rfl ?_
  refine z_k (kc' := 12) (ks' := 3520) rfl rfl ?_
  refine z_aload_n dX10_init_102 rfl ?_
  have hga : (τ ++ ((0, 10, [a + 3, a + 4, 0, 0, a + 5, a + 6, a + 7, a + 8, 0, a + 9, a + 10, a + 11, 0, a + 12, a + 13, a + 14, 0]) :: ((1, 540, []) :: (1, 2700, []) :: (1, 20, []) :: (1, 20, []) :: (1, 100, []) :: (1, 20, []) :: (1, 20, []) :: (1, 20, []) :: (1, 20, []) :: (1, 20, []) :: (1, 20, []) :: (1, 20, []) :: [])))[a]? = some (0, 10, [a + 3, a + 4, 0, 0, a + 5, a + 6, a + 7, a + 8, 0, a + 9, a + 10, a + 11, 0, a + 12, a + 13, a + 14, 0]) := z_midA ha
  have hgv : (τ ++ ((0, 10, [a + 3, a + 4, 0, 0, a + 5, a + 6, a + 7, a + 8, 0, a + 9, a + 10, a + 11, 0, a + 12, a + 13, a + 14, 0]) :: ((1, 540, []) :: (1, 2700, []) :: (1, 20, []) :: (1, 20, []) :: (1, 100, []) :: (1, 20, []) :: (1, 20, []) :: (1, 20, []) :: (1, 20, []) :: (1, 20, []) :: (1, 20, []) :: (1, 20, []) :: [])))[a + 1]? = some (1, 540, []) := z_mid1 ha
  refine z_getR fRX10_7 dX10_init_103 (by first | assumption | rfl) (by rfl) ?_
  refine z_iconst (v := 2) dX10_init_106 rfl ?_
  refine z_bipush (v := 30) dX10_init_107 rfl ?_
  refine z_iastN (j := 2) dX10_init_109 hgv (rfl) (by decide) (by decide) ?_
  have e0 : ∀ q, q ≤ a → K11 q = I q := fun q hq => by rw [f11 q (by omega), f10 q (by omega), f9 q (by omega), f8 q (by omega), f7 q (by omega), f6 q (by omega), f5 q (by omega), f4 q (by omega), f3 q (by omega), f2 q (by omega), f1 q (by omega), f0 q (by omega)]
  have e1 : K11 (a + 1) = fun _ => 0 := by rw [f11 _ (by omega), f10 _ (by omega), f9 _ (by omega), f8 _ (by omega), f7 _ (by omega), f6 _ (by omega), f5 _ (by omega), f4 _ (by omega), f3 _ (by omega), f2 _ (by omega), f1 _ (by omega)]; exact g0
  exact z_vret hE dX10_init_110 ⟨rfl, rfl, fun q hq => (by rw [zup_ne _ _ _ (by omega), e0 q (by omega)]), (show zup K11 (a + 1) 2 30 a 2 = 0 from by rw [zup_ne _ _ _ (by omega), e0 a (Nat.le_refl a), hz]), (show zup K11 (a + 1) 2 30 a 16 = 0 from by rw [zup_ne _ _ _ (by omega), e0 a (Nat.le_refl a), hz]), (show zup K11 (a + 1) 2 30 (a + 1) 0 = 0 from by rw [zup_at, upd_ne _ _ (by decide), e1]), (show zup K11 (a + 1) 2 30 (a + 1) 1 = 0 from by rw [zup_at, upd_ne _ _ (by decide), e1]), (show zup K11 (a + 1) 2 30 (a + 1) 2 = 30 from by rw [zup_at, upd_at]), (show zup K11 (a + 1) 2 30 (a + 1) 3 = 0 from by rw [zup_at, upd_ne _ _ (by decide), e1])⟩

