/-! ===== the constructor of the class ===== -/
def hX9 (a : Nat) : List ZC := (0, 9, [a + 3, a + 20, a + 107, a + 115, a + 116, a + 136, a + 137, a + 139, 0]) :: ((([] : List ZC) ++ hX8 (a + 1) ++ hX0 (a + 18) ++ hX3 (a + 105)) ++ ((2, 1, [a + 141, a + 161, a + 181, a + 201, a + 221, a + 241]) :: (([] : List ZC) ++ hX4 (a + 114) ++ hX2 (a + 134) ++ hRow (a + 135) 20 ++ hRow (a + 137) 20 ++ hX4 (a + 139 + 20 * 0) ++ hX4 (a + 139 + 20 * 1) ++ hX4 (a + 139 + 20 * 2) ++ hX4 (a + 139 + 20 * 3) ++ hX4 (a + 139 + 20 * 4) ++ hX4 (a + 139 + 20 * 5))))
theorem n_X9 : ZN0 yX9_init cX9_init 2 5 258 8007 [] 9 hX9 (fun a J => J a 8 = 0 ∧ (J (a + 1) 3 = 0 ∧ J (a + 1) 4 = 30 ∧ J (a + 1 + 1) 1 = 0 ∧ J (a + 1 + 6) 5 = 0) ∧ (J (a + 18) 1 = 0 ∧ J (a + 18) 2 = 0) ∧ ∀ v, v < 6 → J (a + 139 + 20 * v) 6 = 0) := by
  intro τ a I ha hz
  refine ZSp.of (own := RX9) (L := [.ref a, zj]) mX9_init rfl (List.all_eq_true.mp rfl) (Nat.le_of_ble_eq_true rfl) rfl (fun X hE hN => ?_)
  refine z_sg (σ' := τ ++ ((0, 9, [1, 1, 1, 1, 1, 1, 1, 1, 0]) :: [])) rfl ?_
  refine z_aload_n dX9_init_0 rfl ?_
  refine z_objInit gRX9_1 j_obj_instanceMethod j_obj_code dX9_init_1 (by decide) (by decide) ?_
  refine z_aload_n dX9_init_4 rfl ?_
  refine z_nob (ci := 8) (N := 5) (a := a + 1) (z_lenO (n := 0) ha rfl) nRX9_7 ⟨_, rfl⟩ dX9_init_5 (by decide) (Nat.le_of_ble_eq_true rfl) ?_
  refine z_dup dX9_init_8 rfl ?_
  refine z_init0 (a := a + 1) mX8_init gRX9_9 dX9_init_9 n_X8 (z_lenO (n := 0) ha rfl) rfl (by decide) (Nat.le_of_ble_eq_true rfl) (by decide) (Nat.le_of_ble_eq_true rfl) (fun K0 f0 p0 => ?_)
  refine z_sg (σ' := τ ++ ((0, 9, [1, 1, 1, 1, 1, 1, 1, 1, 0]) :: (([] : List ZC) ++ hX8 (a + 1)))) (List.append_assoc _ _ _) ?_
  refine z_putO (C := "TestVersions$State") (rs' := [a + 3, 1, 1, 1, 1, 1, 1, 1, 0]) ha (Or.inl eRX9_10) hN rfl dX9_init_12 rfl rfl ?_
  refine z_k (kc' := 17) (ks' := 986) rfl rfl ?_
  refine z_aload_n dX9_init_15 rfl ?_
  refine z_nob (ci := 0) (N := 3) (a := a + 18) (z_lenO (n := 17) ha rfl) nRX9_16 ⟨_, rfl⟩ dX9_init_16 (by decide) (Nat.le_of_ble_eq_true rfl) ?_
  refine z_dup dX9_init_19 rfl ?_
  refine z_init0 (a := a + 18) mX0_init gRX9_18 dX9_init_20 n_X0 (z_lenO (n := 17) ha rfl) rfl (by decide) (Nat.le_of_ble_eq_true rfl) (by decide) (Nat.le_of_ble_eq_true rfl) (fun K1 f1 p1 => ?_)
  refine z_sg (σ' := τ ++ ((0, 9, [a + 3, 1, 1, 1, 1, 1, 1, 1, 0]) :: (([] : List ZC) ++ hX8 (a + 1) ++ hX0 (a + 18)))) (List.append_assoc _ _ _) ?_
  refine z_putO (C := "TestVersions$History") (rs' := [a + 3, a + 20, 1, 1, 1, 1, 1, 1, 0]) ha (Or.inl eRX9_19) hN rfl dX9_init_23 rfl rfl ?_
  refine z_k (kc' := 104) (ks' := 5924) rfl rfl ?_
  refine z_aload_n dX9_init_26 rfl ?_
  refine z_nob (ci := 3) (N := 4) (a := a + 105) (z_lenO (n := 104) ha rfl) nRX9_23 ⟨_, rfl⟩ dX9_init_27 (by decide) (Nat.le_of_ble_eq_true rfl) ?_
  refine z_dup dX9_init_30 rfl ?_
  refine z_init0 (a := a + 105) mX3_init gRX9_25 dX9_init_31 n_X3 (z_lenO (n := 104) ha rfl) rfl (by decide) (Nat.le_of_ble_eq_true rfl) (by decide) (Nat.le_of_ble_eq_true rfl) (fun K2 f2 p2 => ?_)
  refine z_sg (σ' := τ ++ ((0, 9, [a + 3, a + 20, 1, 1, 1, 1, 1, 1, 0]) :: (([] : List ZC) ++ hX8 (a + 1) ++ hX0 (a + 18) ++ hX3 (a + 105)))) (List.append_assoc _ _ _) ?_
  refine z_putO (C := "TestVersions$Mixer") (rs' := [a + 3, a + 20, a + 107, 1, 1, 1, 1, 1, 0]) ha (Or.inl eRX9_26) hN rfl dX9_init_34 rfl rfl ?_
  refine z_k (kc' := 112) (ks' := 5977) rfl rfl ?_
  refine z_aload_n dX9_init_37 rfl ?_
  refine z_bipush (v := 6) dX9_init_38 rfl ?_
  refine z_nqr (N := 6) (t := 0) (a := a + 113) (z_lenO (n := 112) ha rfl) rfl (by decide) rfl nRX9_30 dX9_init_40 (by decide) (by decide) (Nat.le_of_ble_eq_true rfl) ?_
  refine z_sg (σ' := τ ++ ((0, 9, [a + 3, a + 20, a + 107, 1, 1, 1, 1, 1, 0]) :: (([] : List ZC) ++ hX8 (a + 1) ++ hX0 (a + 18) ++ hX3 (a + 105) ++ [((2, 1, [1, 1, 1, 1, 1, 1]) : ZC)]))) (List.append_assoc _ _ _) ?_
  refine z_putO (C := "") (rs' := [a + 3, a + 20, a + 107, a + 115, 1, 1, 1, 1, 0]) ha (Or.inr ⟨_, eRX9_32⟩) hN rfl dX9_init_43 rfl rfl ?_
  refine z_k (kc' := 113) (ks' := 5983) rfl rfl ?_
  refine z_aload_n dX9_init_46 rfl ?_
  refine z_nob (ci := 4) (N := 7) (a := a + 114) (z_lenO (n := 113) ha rfl) nRX9_30 ⟨_, rfl⟩ dX9_init_47 (by decide) (Nat.le_of_ble_eq_true rfl) ?_
  refine z_dup dX9_init_50 rfl ?_
  refine z_init0 (a := a + 114) mX4_init gRX9_36 dX9_init_51 n_X4 (z_lenO (n := 113) ha rfl) rfl (by decide) (Nat.le_of_ble_eq_true rfl) (by decide) (Nat.le_of_ble_eq_true rfl) (fun K3 f3 p3 => ?_)
  refine z_sg (σ' := τ ++ ((0, 9, [a + 3, a + 20, a + 107, a + 115, 1, 1, 1, 1, 0]) :: (([] : List ZC) ++ hX8 (a + 1) ++ hX0 (a + 18) ++ hX3 (a + 105) ++ [((2, 1, [1, 1, 1, 1, 1, 1]) : ZC)] ++ hX4 (a + 114)))) (List.append_assoc _ _ _) ?_
  refine z_putO (C := "TestVersions$Paper") (rs' := [a + 3, a + 20, a + 107, a + 115, a + 116, 1, 1, 1, 0]) ha (Or.inl eRX9_37) hN rfl dX9_init_54 rfl rfl ?_
  refine z_k (kc' := 133) (ks' := 6266) rfl rfl ?_
  refine z_aload_n dX9_init_57 rfl ?_
  refine z_nob (ci := 2) (N := 1) (a := a + 134) (z_lenO (n := 133) ha rfl) nRX9_41 ⟨_, rfl⟩ dX9_init_58 (by decide) (Nat.le_of_ble_eq_true rfl) ?_
  refine z_dup dX9_init_61 rfl ?_
  refine z_init0 (a := a + 134) mX2_init gRX9_43 dX9_init_62 n_X2 (z_lenO (n := 133) ha rfl) rfl (by decide) (Nat.le_of_ble_eq_true rfl) (by decide) (Nat.le_of_ble_eq_true rfl) (fun K4 f4 p4 => ?_)
  refine z_sg (σ' := τ ++ ((0, 9, [a + 3, a + 20, a + 107, a + 115, a + 116, 1, 1, 1, 0]) :: (([] : List ZC) ++ hX8 (a + 1) ++ hX0 (a + 18) ++ hX3 (a + 105) ++ [((2, 1, [1, 1, 1, 1, 1, 1]) : ZC)] ++ hX4 (a + 114) ++ hX2 (a + 134)))) (List.append_assoc _ _ _) ?_
  refine z_putO (C := "TestVersions$Lots") (rs' := [a + 3, a + 20, a + 107, a + 115, a + 116, a + 136, 1, 1, 0]) ha (Or.inl eRX9_44) hN rfl dX9_init_65 rfl rfl ?_
  refine z_k (kc' := 134) (ks' := 6267) rfl rfl ?_
  refine z_aload_n dX9_init_68 rfl ?_
  refine z_nob (ci := 6) (N := 1) (a := a + 135) (z_lenO (n := 134) ha rfl) nRX9_48 ⟨_, rfl⟩ dX9_init_69 (by decide) (Nat.le_of_ble_eq_true rfl) ?_
  refine z_dup dX9_init_72 rfl ?_
  refine z_bipush (v := 20) dX9_init_73 rfl ?_
  refine z_init1 (a := a + 135) mX6_init gRX9_50 dX9_init_75 (n_X6 20 (by decide) (by decide)) (z_lenO (n := 134) ha rfl) rfl (by decide) (Nat.le_of_ble_eq_true rfl) (by decide) (Nat.le_of_ble_eq_true rfl) (fun K5 f5 p5 => ?_)
  refine z_sg (σ' := τ ++ ((0, 9, [a + 3, a + 20, a + 107, a + 115, a + 116, a + 136, 1, 1, 0]) :: (([] : List ZC) ++ hX8 (a + 1) ++ hX0 (a + 18) ++ hX3 (a + 105) ++ [((2, 1, [1, 1, 1, 1, 1, 1]) : ZC)] ++ hX4 (a + 114) ++ hX2 (a + 134) ++ hRow (a + 135) 20))) (List.append_assoc _ _ _) ?_
  refine z_putO (C := "TestVersions$Row") (rs' := [a + 3, a + 20, a + 107, a + 115, a + 116, a + 136, a + 137, 1, 0]) ha (Or.inl eRX9_53) hN rfl dX9_init_78 rfl rfl ?_
  refine z_k (kc' := 136) (ks' := 6288) rfl rfl ?_
  refine z_aload_n dX9_init_81 rfl ?_
  refine z_nob (ci := 6) (N := 1) (a := a + 137) (z_lenO (n := 136) ha rfl) nRX9_48 ⟨_, rfl⟩ dX9_init_82 (by decide) (Nat.le_of_ble_eq_true rfl) ?_
  refine z_dup dX9_init_85 rfl ?_
  refine z_bipush (v := 20) dX9_init_86 rfl ?_
  refine z_init1 (a := a + 137) mX6_init gRX9_50 dX9_init_88 (n_X6 20 (by decide) (by decide)) (z_lenO (n := 136) ha rfl) rfl (by decide) (Nat.le_of_ble_eq_true rfl) (by decide) (Nat.le_of_ble_eq_true rfl) (fun K6 f6 p6 => ?_)
  refine z_sg (σ' := τ ++ ((0, 9, [a + 3, a + 20, a + 107, a + 115, a + 116, a + 136, a + 137, 1, 0]) :: (([] : List ZC) ++ hX8 (a + 1) ++ hX0 (a + 18) ++ hX3 (a + 105) ++ [((2, 1, [1, 1, 1, 1, 1, 1]) : ZC)] ++ hX4 (a + 114) ++ hX2 (a + 134) ++ hRow (a + 135) 20 ++ hRow (a + 137) 20))) (List.append_assoc _ _ _) ?_
  refine z_putO (C := "TestVersions$Row") (rs' := [a + 3, a + 20, a + 107, a + 115, a + 116, a + 136, a + 137, a + 139, 0]) ha (Or.inl eRX9_57) hN rfl dX9_init_91 rfl rfl ?_
  refine z_k (kc' := 138) (ks' := 6309) rfl rfl ?_
  refine z_iconst (v := 0) dX9_init_94 rfl ?_
  refine z_ist1 dX9_init_95 (by decide) rfl ?_
  refine z_sg (σ' := (τ ++ ((0, 9, [a + 3, a + 20, a + 107, a + 115, a + 116, a + 136, a + 137, a + 139, 0]) :: (([] : List ZC) ++ hX8 (a + 1) ++ hX0 (a + 18) ++ hX3 (a + 105)))) ++ ((2, 1, [1, 1, 1, 1, 1, 1]) :: (([] : List ZC) ++ hX4 (a + 114) ++ hX2 (a + 134) ++ hRow (a + 135) 20 ++ hRow (a + 137) 20))) (by simp only [List.append_assoc, List.cons_append, List.nil_append]) ?_
  have hτ : (τ ++ ((0, 9, [a + 3, a + 20, a + 107, a + 115, a + 116, a + 136, a + 137, a + 139, 0]) :: (([] : List ZC) ++ hX8 (a + 1) ++ hX0 (a + 18) ++ hX3 (a + 105)))).length = a + 113 := z_lenO (n := 112) ha rfl
  have hc0 : (τ ++ ((0, 9, [a + 3, a + 20, a + 107, a + 115, a + 116, a + 136, a + 137, a + 139, 0]) :: (([] : List ZC) ++ hX8 (a + 1) ++ hX0 (a + 18) ++ hX3 (a + 105))))[a]? = some (0, 9, [a + 3, a + 20, a + 107, a + 115, a + 116, a + 136, a + 137, a + 139, 0]) := z_midA ha
  have step : ∀ (i kc ks : Nat) (M : List Nat) (ρ : List ZC) (K : ZI), i < 6 → M.length = 6 → ρ.length = 25 + 20 * i → kc + 20 ≤ 258 → ks + 283 ≤ 8007 → (∀ q, q < a + 139 → K q = K6 q) → (∀ v, v < i → K (a + 139 + 20 * v) 6 = 0) → (∀ J, (∀ q, q < a + 139 → J q = K6 q) → (∀ v, v < i + 1 → J (a + 139 + 20 * v) 6 = 0) → (ZG X RX9 cX9_init 2 5 258 8007 (kc + 20) (ks + 283) 96 [.ref a, .int (nI (i + 1))] [] ((τ ++ ((0, 9, [a + 3, a + 20, a + 107, a + 115, a + 116, a + 136, a + 137, a + 139, 0]) :: (([] : List ZC) ++ hX8 (a + 1) ++ hX0 (a + 18) ++ hX3 (a + 105)))) ++ ((2, 1, M.set i (a + 139 + 20 * i + 2)) :: (ρ ++ hX4 (a + 139 + 20 * i)))) J)) → (ZG X RX9 cX9_init 2 5 258 8007 kc ks 96 [.ref a, .int (nI i)] [] ((τ ++ ((0, 9, [a + 3, a + 20, a + 107, a + 115, a + 116, a + 136, a + 137, a + 139, 0]) :: (([] : List ZC) ++ hX8 (a + 1) ++ hX0 (a + 18) ++ hX3 (a + 105)))) ++ ((2, 1, M) :: ρ)) K) := by
    intro i kc ks M ρ K hi hM hr h1 h2 hK hp nxt
    have hal : ((τ ++ ((0, 9, [a + 3, a + 20, a + 107, a + 115, a + 116, a + 136, a + 137, a + 139, 0]) :: (([] : List ZC) ++ hX8 (a + 1) ++ hX0 (a + 18) ++ hX3 (a + 105)))) ++ ((2, 1, M) :: ρ))[a + 113]? = some (2, 1, M) := z_midA hτ
    have hga : ((τ ++ ((0, 9, [a + 3, a + 20, a + 107, a + 115, a + 116, a + 136, a + 137, a + 139, 0]) :: (([] : List ZC) ++ hX8 (a + 1) ++ hX0 (a + 18) ++ hX3 (a + 105)))) ++ ((2, 1, M) :: ρ))[a]? = some (0, 9, [a + 3, a + 20, a + 107, a + 115, a + 116, a + 136, a + 137, a + 139, 0]) := z_getL hc0
    have hlen : ((τ ++ ((0, 9, [a + 3, a + 20, a + 107, a + 115, a + 116, a + 136, a + 137, a + 139, 0]) :: (([] : List ZC) ++ hX8 (a + 1) ++ hX0 (a + 18) ++ hX3 (a + 105)))) ++ ((2, 1, M) :: ρ)).length = a + 139 + 20 * i := by rw [z_lenO hτ hr]; omega
    refine z_iload_n dX9_init_96 rfl ?_
    refine z_aload_n dX9_init_97 rfl ?_
    refine z_getR fRX9_32 dX9_init_98 (by first | assumption | rfl) (by rfl) ?_
    refine z_alenq (t := 0) (by decide) dX9_init_101 hal ?_
    rw [hM]
    refine z_icmp_ge (tgt := 124) dX9_init_102 (by decide) (fun hb => absurd hb (nI_ge (b := 6) hi (by decide))) (fun _ => ?_)
    refine z_aload_n dX9_init_105 rfl ?_
    refine z_getR fRX9_32 dX9_init_106 (by first | assumption | rfl) (by rfl) ?_
    refine z_iload_n dX9_init_109 rfl ?_
    refine z_nob (ci := 4) (N := 7) (a := a + 139 + 20 * i) hlen nRX9_30 ⟨_, rfl⟩ dX9_init_110 (by omega) (by omega) ?_
    refine z_dup dX9_init_113 rfl ?_
    refine z_init0 (a := a + 139 + 20 * i) mX4_init gRX9_36 dX9_init_114 n_X4 hlen rfl (by decide) (Nat.le_of_ble_eq_true rfl) (by omega) (by omega) (fun J f2 p2 => ?_)
    refine z_aast (t := 0) (ci := 4) (by decide) rfl dX9_init_117 (z_getL hal) (z_hd4 hlen) rfl (by omega) (by omega) ?_
    refine z_sg (σ' := (τ ++ ((0, 9, [a + 3, a + 20, a + 107, a + 115, a + 116, a + 136, a + 137, a + 139, 0]) :: (([] : List ZC) ++ hX8 (a + 1) ++ hX0 (a + 18) ++ hX3 (a + 105)))) ++ ((2, 1, M.set i (a + 139 + 20 * i + 2)) :: (ρ ++ hX4 (a + 139 + 20 * i)))) (z_setL hτ) ?_
    refine z_k (kc' := kc + 20) (ks' := ks + 283) (by omega) (by omega) ?_
    refine z_inc1 (w := 1) dX9_init_118 rfl (by decide) rfl ?_
    refine z_goto (tgt := 96) dX9_init_121 (by decide) ?_
    rw [nI_1]
    refine nxt J (fun q hq => by rw [f2 q (by omega)]; exact hK q hq) (fun v hv => ?_)
    by_cases e : v = i
    · rw [e]; exact p2
    · rw [f2 _ (by omega)]; exact hp v (by omega)
  refine step 0 138 6309 [1, 1, 1, 1, 1, 1] _ K6 (by decide) rfl rfl (by decide) (Nat.le_of_ble_eq_true rfl) (fun _ _ => rfl) (fun v hv => absurd hv (Nat.not_lt_zero v)) (fun J1 g1 h1 => ?_)
  refine step 1 _ _ _ _ J1 (by decide) rfl rfl (by decide) (Nat.le_of_ble_eq_true rfl) g1 h1 (fun J2 g2 h2 => ?_)
  refine step 2 _ _ _ _ J2 (by decide) rfl rfl (by decide) (Nat.le_of_ble_eq_true rfl) g2 h2 (fun J3 g3 h3 => ?_)
  refine step 3 _ _ _ _ J3 (by decide) rfl rfl (by decide) (Nat.le_of_ble_eq_true rfl) g3 h3 (fun J4 g4 h4 => ?_)
  refine step 4 _ _ _ _ J4 (by decide) rfl rfl (by decide) (Nat.le_of_ble_eq_true rfl) g4 h4 (fun J5 g5 h5 => ?_)
  refine step 5 _ _ _ _ J5 (by decide) rfl rfl (by decide) (Nat.le_of_ble_eq_true rfl) g5 h5 (fun J6 g6 h6 => ?_)
  have hga : ∀ (M : List Nat) (ρ : List ZC), ((τ ++ ((0, 9, [a + 3, a + 20, a + 107, a + 115, a + 116, a + 136, a + 137, a + 139, 0]) :: (([] : List ZC) ++ hX8 (a + 1) ++ hX0 (a + 18) ++ hX3 (a + 105)))) ++ ((2, 1, M) :: ρ))[a]? = some (0, 9, [a + 3, a + 20, a + 107, a + 115, a + 116, a + 136, a + 137, a + 139, 0]) := fun M ρ => z_getL hc0
  refine z_iload_n dX9_init_96 rfl ?_
  refine z_aload_n dX9_init_97 rfl ?_
  refine z_getR fRX9_32 dX9_init_98 (hga _ _) (by rfl) ?_
  refine z_alenq (t := 0) (by decide) dX9_init_101 (z_midA hτ) ?_
  refine z_icmp_ge (tgt := 124) dX9_init_102 (by decide) (fun _ => ?_) (fun hb => absurd (nI_le (a := 6) (b := 6) (by decide) (by decide)) hb)
  refine z_k (kc' := 258) (ks' := 8007) rfl rfl ?_
  have e0 : ∀ q, q ≤ a → K6 q = I q := fun q hq => by rw [f6 q (by omega), f5 q (by omega), f4 q (by omega)]; rw [f3 q (by omega), zclr_lt (show q < a + 113 by omega)]; rw [f2 q (by omega)]; rw [f1 q (by omega)]; rw [f0 q (by omega)]
  have e1 : ∀ q, q < a + 18 → K6 q = K0 q := fun q hq => by rw [f6 q (by omega), f5 q (by omega), f4 q (by omega)]; rw [f3 q (by omega), zclr_lt (show q < a + 113 by omega)]; rw [f2 q (by omega)]; rw [f1 q (by omega)]
  have e2 : ∀ q, q < a + 105 → K6 q = K1 q := fun q hq => by rw [f6 q (by omega), f5 q (by omega), f4 q (by omega)]; rw [f3 q (by omega), zclr_lt (show q < a + 113 by omega)]; rw [f2 q (by omega)]
  obtain ⟨p01, p02, p03, p04⟩ := p0
  obtain ⟨p11, p12⟩ := p1
  exact z_vret hE dX9_init_124 ⟨rfl, List.append_assoc τ _ _, fun q hq => (by rw [g6 q (by omega), e0 q (by omega)]), (show J6 a 8 = 0 from by rw [g6 a (by omega), e0 a (Nat.le_refl a), hz]), ⟨(show J6 (a + 1) 3 = 0 from by rw [g6 _ (by omega), e1 _ (by omega)]; exact p01), (show J6 (a + 1) 4 = 30 from by rw [g6 _ (by omega), e1 _ (by omega)]; exact p02), (show J6 (a + 1 + 1) 1 = 0 from by rw [g6 _ (by omega), e1 _ (by omega)]; exact p03), (show J6 (a + 1 + 6) 5 = 0 from by rw [g6 _ (by omega), e1 _ (by omega)]; exact p04)⟩, ⟨(show J6 (a + 18) 1 = 0 from by rw [g6 _ (by omega), e2 _ (by omega)]; exact p11), (show J6 (a + 18) 2 = 0 from by rw [g6 _ (by omega), e2 _ (by omega)]; exact p12)⟩, h6⟩

