/-! ===== the constructors of the history, of the class and of the model ===== -/
theorem z_setA {a : Nat} {c c' : ZC} {τ ρ : List ZC} (ha : τ.length = a) : (τ ++ (c :: ρ)).set a c' = τ ++ (c' :: ρ) := by
  subst ha
  exact z_midset τ
theorem z_setL {a : Nat} {c c' : ZC} {τ ρ θ : List ZC} (ha : τ.length = a) : ((τ ++ (c :: ρ)) ++ θ).set a c' = τ ++ (c' :: (ρ ++ θ)) := by
  rw [show (τ ++ (c :: ρ)) ++ θ = τ ++ (c :: (ρ ++ θ)) from List.append_assoc τ (c :: ρ) θ]
  exact z_setA ha
theorem z_mid1 {a : Nat} {c x : ZC} {τ ρ : List ZC} (ha : τ.length = a) : (τ ++ (c :: x :: ρ))[a + 1]? = some x := by
  rw [show τ ++ (c :: x :: ρ) = (τ ++ [c]) ++ (x :: ρ) from (List.append_assoc τ [c] (x :: ρ)).symm]
  exact z_midA (by rw [List.length_append, ha]; rfl)
theorem z_hd8 {b : Nat} {σ : List ZC} (h : σ.length = b) : (σ ++ hX8 b)[b]? = some (0, 8, [b + 3, b + 6, b + 8, 0, 0]) := z_midA h
theorem z_hd4 {b : Nat} {σ : List ZC} (h : σ.length = b) : (σ ++ hX4 b)[b]? = some (0, 4, [b + 3, b + 5, b + 7, b + 9, b + 11, 0, 0]) := z_midA h
section ZNW2
variable {X : ZX} {own : String} {cc : ByteArray} {nL d mc ms kc ks pc : Nat} {L st : List Value} {σ : List ZC} {I : ZI}
theorem z_narO {N a : Nat} {n : Int32} (ha : σ.length = a) (hn : n = nI N) (hd : decode cc pc = .ok (.newarray .int, 2)) (hN2 : N ≤ 100000) (h1 : kc + 1 ≤ mc) (h2 : ks + N ≤ ms)
    (k : ∀ J, (∀ q, q < a → J q = I q) → (J a = fun _ => 0) → ZG X own cc nL d mc ms (kc + 1) (ks + N) (pc + 2) L (.ref a :: st) (σ ++ [(1, N, [])]) J) : ZG X own cc nL d mc ms kc ks pc L (.int n :: st) σ I :=
  z_narN ha hn hd hN2 h1 h2 (k _ (fun q hq => zclr_lt hq) zclr_at)
end ZNW2
def hX0 (a : Nat) : List ZC := (0, 0, [a + 3, 0, 0]) :: (2, 2, [a + 4, a + 21, a + 38, a + 55, a + 72]) :: (([] : List ZC) ++ hX8 (a + 2) ++ hX8 (a + 19) ++ hX8 (a + 36) ++ hX8 (a + 53) ++ hX8 (a + 70))
theorem n_X0 : ZN0 yX0_init cX0_init 2 4 86 4935 [] 0 hX0 (fun a J => J a 1 = 0 ∧ J a 2 = 0) := by
  intro τ a I ha hz
  refine ZSp.of (own := RX0) (L := [.ref a, zj]) mX0_init rfl (List.all_eq_true.mp rfl) (Nat.le_of_ble_eq_true rfl) rfl (fun X hE hN => ?_)
  refine z_sg (σ' := τ ++ ((0, 0, [1, 0, 0]) :: [])) rfl ?_
  refine z_aload_n dX0_init_0 rfl ?_
  refine z_objInit gRX0_3 j_obj_instanceMethod j_obj_code dX0_init_1 (by decide) (by decide) ?_
  refine z_aload_n dX0_init_4 rfl ?_
  refine z_iconst (v := 5) dX0_init_5 rfl ?_
  refine z_nqr (N := 5) (t := 1) (a := a + 1) (z_lenO (n := 0) ha rfl) rfl (by decide) rfl nRX0_9 dX0_init_6 (by decide) (by decide) (Nat.le_of_ble_eq_true rfl) ?_
  refine z_sg (σ' := τ ++ ((0, 0, [1, 0, 0]) :: [(2, 2, [1, 1, 1, 1, 1])])) (List.append_assoc _ _ _) ?_
  refine z_putO (C := "") (rs' := [a + 3, 0, 0]) ha (Or.inr ⟨_, eRX0_11⟩) hN rfl dX0_init_9 rfl rfl ?_
  refine z_k (kc' := 1) (ks' := 5) rfl rfl ?_
  refine z_iconst (v := 0) dX0_init_12 rfl ?_
  refine z_ist1 dX0_init_13 (by decide) rfl ?_
  have hτ : (τ ++ [((0, 0, [a + 3, 0, 0]) : ZC)]).length = a + 1 := by rw [List.length_append, ha]; rfl
  have hc0 : (τ ++ [((0, 0, [a + 3, 0, 0]) : ZC)])[a]? = some (0, 0, [a + 3, 0, 0]) := z_midA ha
  have step : ∀ (i N kc ks : Nat) (M : List Nat) (ρ : List ZC) (K : ZI), i < 5 → M.length = 5 → ρ.length = N → kc + 17 ≤ 86 → ks + 986 ≤ 4935 → (∀ q, q ≤ a → K q = I q) → (∀ J, (∀ q, q ≤ a → J q = I q) → (ZG X RX0 cX0_init 2 4 86 4935 (kc + 17) (ks + 986) 14 [.ref a, .int (nI (i + 1))] [] ((τ ++ [((0, 0, [a + 3, 0, 0]) : ZC)]) ++ ((2, 2, M.set i (a + 2 + N + 2)) :: (ρ ++ hX8 (a + 2 + N)))) J)) → (ZG X RX0 cX0_init 2 4 86 4935 kc ks 14 [.ref a, .int (nI i)] [] ((τ ++ [((0, 0, [a + 3, 0, 0]) : ZC)]) ++ ((2, 2, M) :: ρ)) K) := by
    intro i N kc ks M ρ K hi hM hr h1 h2 hK nxt
    have hal : ((τ ++ [((0, 0, [a + 3, 0, 0]) : ZC)]) ++ ((2, 2, M) :: ρ))[a + 1]? = some (2, 2, M) := z_midA hτ
    have hga : ((τ ++ [((0, 0, [a + 3, 0, 0]) : ZC)]) ++ ((2, 2, M) :: ρ))[a]? = some (0, 0, [a + 3, 0, 0]) := z_getL hc0
    have hlen : ((τ ++ [((0, 0, [a + 3, 0, 0]) : ZC)]) ++ ((2, 2, M) :: ρ)).length = a + 2 + N := z_lenO hτ hr
    refine z_iload_n dX0_init_14 rfl ?_
    refine z_aload_n dX0_init_15 rfl ?_
    refine z_getR fRX0_11 dX0_init_16 (by first | assumption | rfl) (by rfl) ?_
    refine z_alenq (t := 1) (by decide) dX0_init_19 hal ?_
    rw [hM]
    refine z_icmp_ge (tgt := 42) dX0_init_20 (by decide) (fun hb => absurd hb (nI_ge (b := 5) hi (by decide))) (fun _ => ?_)
    refine z_aload_n dX0_init_23 rfl ?_
    refine z_getR fRX0_11 dX0_init_24 (by first | assumption | rfl) (by rfl) ?_
    refine z_iload_n dX0_init_27 rfl ?_
    refine z_nob (ci := 8) (N := 5) (a := a + 2 + N) hlen nRX0_9 ⟨_, rfl⟩ dX0_init_28 (by omega) (by omega) ?_
    refine z_dup dX0_init_31 rfl ?_
    refine z_init0 (a := a + 2 + N) mX8_init gRX0_17 dX0_init_32 n_X8 hlen rfl (by decide) (Nat.le_of_ble_eq_true rfl) (by omega) (by omega) (fun K2 f2 p2 => ?_)
    refine z_aast (t := 1) (ci := 8) (by decide) rfl dX0_init_35 (z_getL hal) (z_hd8 hlen) rfl (by omega) (by omega) ?_
    refine z_sg (σ' := (τ ++ [((0, 0, [a + 3, 0, 0]) : ZC)]) ++ ((2, 2, M.set i (a + 2 + N + 2)) :: (ρ ++ hX8 (a + 2 + N)))) (z_setL hτ) ?_
    refine z_k (kc' := kc + 17) (ks' := ks + 986) (by omega) (by omega) ?_
    refine z_inc1 (w := 1) dX0_init_36 rfl (by decide) rfl ?_
    refine z_goto (tgt := 14) dX0_init_39 (by decide) ?_
    rw [nI_1]
    exact nxt K2 (fun q hq => by rw [f2 q (by omega)]; exact hK q hq)
  refine z_sg (σ' := (τ ++ [((0, 0, [a + 3, 0, 0]) : ZC)]) ++ ((2, 2, [1, 1, 1, 1, 1]) :: [])) (List.append_assoc τ [((0, 0, [a + 3, 0, 0]) : ZC)] [((2, 2, [1, 1, 1, 1, 1]) : ZC)]).symm ?_
  refine step 0 0 1 5 [1, 1, 1, 1, 1] [] _ (by decide) rfl rfl (by decide) (Nat.le_of_ble_eq_true rfl) (fun q hq => zclr_lt (by omega)) (fun J1 f1 => ?_)
  refine step 1 17 _ _ _ _ J1 (by decide) rfl rfl (by decide) (Nat.le_of_ble_eq_true rfl) f1 (fun J2 f2 => ?_)
  refine step 2 34 _ _ _ _ J2 (by decide) rfl rfl (by decide) (Nat.le_of_ble_eq_true rfl) f2 (fun J3 f3 => ?_)
  refine step 3 51 _ _ _ _ J3 (by decide) rfl rfl (by decide) (Nat.le_of_ble_eq_true rfl) f3 (fun J4 f4 => ?_)
  refine step 4 68 _ _ _ _ J4 (by decide) rfl rfl (by decide) (Nat.le_of_ble_eq_true rfl) f4 (fun J5 f5 => ?_)
  have hga : ∀ (M : List Nat) (ρ : List ZC), ((τ ++ [((0, 0, [a + 3, 0, 0]) : ZC)]) ++ ((2, 2, M) :: ρ))[a]? = some (0, 0, [a + 3, 0, 0]) := fun M ρ => z_getL hc0
  refine z_iload_n dX0_init_14 rfl ?_
  refine z_aload_n dX0_init_15 rfl ?_
  refine z_getR fRX0_11 dX0_init_16 (hga _ _) (by rfl) ?_
  refine z_alenq (t := 1) (by decide) dX0_init_19 (z_midA hτ) ?_
  refine z_icmp_ge (tgt := 42) dX0_init_20 (by decide) (fun _ => ?_) (fun hb => absurd (nI_le (a := 5) (b := 5) (by decide) (by decide)) hb)
  refine z_k (kc' := 86) (ks' := 4935) rfl rfl ?_
  exact z_vret hE dX0_init_42 ⟨rfl, List.append_assoc τ _ _, fun q hq => f5 q (by omega), (show J5 a 1 = 0 from by rw [f5 a (Nat.le_refl a), hz]), (show J5 a 2 = 0 from by rw [f5 a (Nat.le_refl a), hz])⟩

