/-! ===== making objects: rules, the row's constructor ===== -/
section ZNW
variable {X : ZX} {own : String} {cc : ByteArray} {nL d mc ms kc ks pc : Nat} {L st : List Value} {σ : List ZC} {I : ZI}
theorem z_k {kc' ks' : Nat} (h1 : kc = kc') (h2 : ks = ks') (k : ZG X own cc nL d mc ms kc' ks' pc L st σ I) : ZG X own cc nL d mc ms kc ks pc L st σ I := by
  subst h1
  subst h2
  exact k
theorem z_sg {σ' : List ZC} (h : σ = σ') (k : ZG X own cc nL d mc ms kc ks pc L st σ' I) : ZG X own cc nL d mc ms kc ks pc L st σ I := by
  subst h
  exact k
theorem z_midget {c : ZC} {ρ : List ZC} : ∀ (τ : List ZC), (τ ++ (c :: ρ))[τ.length]? = some c
  | [] => rfl
  | x :: τ => by
    rw [List.cons_append, List.length_cons, List.getElem?_cons_succ]
    exact z_midget τ
theorem z_midset {c c' : ZC} {ρ : List ZC} : ∀ (τ : List ZC), (τ ++ (c :: ρ)).set τ.length c' = τ ++ (c' :: ρ)
  | [] => rfl
  | x :: τ => by
    show x :: ((τ ++ (c :: ρ)).set τ.length c') = x :: (τ ++ (c' :: ρ))
    rw [z_midset τ]
theorem z_midA {a : Nat} {c : ZC} {τ ρ : List ZC} (ha : τ.length = a) : (τ ++ (c :: ρ))[a]? = some c := by
  subst ha
  exact z_midget τ
theorem z_getL {a : Nat} {c : ZC} {τ θ : List ZC} (h : τ[a]? = some c) : (τ ++ θ)[a]? = some c := by
  rw [List.getElem?_append_left (List.getElem?_eq_some_iff.mp h).1]
  exact h
theorem z_lenO {a n : Nat} {c : ZC} {τ ρ : List ZC} (ha : τ.length = a) (hr : ρ.length = n) : (τ ++ (c :: ρ)).length = a + 1 + n := by
  rw [List.length_append, List.length_cons, ha, hr]
  omega
theorem zclr_lt {a q : Nat} (h : q < a) : zclr I a q = I q := if_neg (by omega)
theorem zclr_at {a : Nat} : zclr I a a = fun _ => 0 := if_pos rfl
theorem z_nob {idx ci N a : Nat} {C : String} (ha : σ.length = a) (hcl : Cond.classLink own idx C ∈ lw_tbl) (hc : ∃ T, vwCl[ci]? = some (C, T, N)) (hd : decode cc pc = .ok (.new idx, 3)) (h1 : kc + 1 ≤ mc) (h2 : ks + N ≤ ms)
    (k : ZG X own cc nL d mc ms (kc + 1) (ks + N) (pc + 3) L (.ref a :: st) (σ ++ [(0, ci, zini ci)]) (zclr I a)) : ZG X own cc nL d mc ms kc ks pc L st σ I := by
  subst ha
  exact z_new hcl hc hd h1 h2 k
theorem z_nar {n : Int32} {N a : Nat} (ha : σ.length = a) (hd : decode cc pc = .ok (.newarray .int, 2)) (hn : ¬ n < 0) (hN : n.toNatClampNeg = N) (hN2 : N ≤ 100000) (h1 : kc + 1 ≤ mc) (h2 : ks + N ≤ ms)
    (k : ZG X own cc nL d mc ms (kc + 1) (ks + N) (pc + 2) L (.ref a :: st) (σ ++ [(1, N, [])]) (zclr I a)) : ZG X own cc nL d mc ms kc ks pc L (.int n :: st) σ I := by
  subst ha
  exact z_newa zac hd hn hN hN2 h1 h2 k
theorem z_narN {N a : Nat} {n : Int32} (ha : σ.length = a) (hn : n = nI N) (hd : decode cc pc = .ok (.newarray .int, 2)) (hN2 : N ≤ 100000) (h1 : kc + 1 ≤ mc) (h2 : ks + N ≤ ms)
    (k : ZG X own cc nL d mc ms (kc + 1) (ks + N) (pc + 2) L (.ref a :: st) (σ ++ [(1, N, [])]) (zclr I a)) : ZG X own cc nL d mc ms kc ks pc L (.int n :: st) σ I := by
  subst hn
  exact z_nar ha hd (nI_pos (by omega)) (nI_clamp (by omega)) hN2 h1 h2 k
theorem z_nqr {idx N t a : Nat} {n : Int32} {C : String} (ha : σ.length = a) (hx : n = nI N) (ht : t < 2) (hC : C = if t = 0 then RX4 else RX8) (hcl : Cond.classLink own idx C ∈ lw_tbl) (hd : decode cc pc = .ok (.anewarray idx, 3)) (hN2 : N ≤ 100000) (h1 : kc + 1 ≤ mc) (h2 : ks + N ≤ ms)
    (k : ZG X own cc nL d mc ms (kc + 1) (ks + N) (pc + 3) L (.ref a :: st) (σ ++ [(2, t + 1, List.replicate N 1)]) (zclr I a)) : ZG X own cc nL d mc ms kc ks pc L (.int n :: st) σ I := by
  subst ha
  subst hx
  exact z_newq ht hC hcl hd (nI_pos (by omega)) (nI_clamp (by omega)) hN2 h1 h2 k
theorem z_putO {idx ci kf a r r0 : Nat} {rs rs' : List Nat} {τ ρ : List ZC} {C : String} (ha : τ.length = a) (hF : ZFF own idx ci kf (.object C) ∨ ∃ t, ZFF own idx ci kf (.array t)) (hN : ZNm X "<init>") (hci : vwCl[ci]?.map (fun q => q.1) = some own) (hd : decode cc pc = .ok (.putfield idx, 3)) (hk : rs[kf]? = some r0) (hrs : rs.set kf (r + 2) = rs')
    (k : ZG X own cc nL d mc ms kc ks (pc + 3) L st (τ ++ ((0, ci, rs') :: ρ)) I) : ZG X own cc nL d mc ms kc ks pc L (.ref r :: .ref a :: st) (τ ++ ((0, ci, rs) :: ρ)) I := by
  subst ha
  subst hrs
  refine z_putR hF hN hci hd (z_midget τ) hk ?_
  rw [z_midset]
  exact k
/-- a constructor's contract: its cell is the last one; it makes the rest of its shape behind it -/
def ZN0 (y : MethodName) (cc : ByteArray) (nL d mc ms : Nat) (As : List Value) (ci : Nat) (ρf : Nat → List ZC) (P : Nat → ZI → Prop) : Prop :=
  ∀ (τ : List ZC) (a : Nat) (I : ZI), τ.length = a → (I a = fun _ => 0) → ZSp y cc nL none d mc ms (.ref a :: As) (τ ++ [(0, ci, zini ci)]) I (fun r σ' J => r = none ∧ σ' = τ ++ ρf a ∧ (∀ q, q < a → J q = I q) ∧ P a J)
theorem z_init0 {idx a d2 mc2 ms2 nz ci : Nat} {y : MethodName} {cz : ByteArray} {ρf : Nat → List ZC} {P : Nat → ZI → Prop} (hM : ZM y cz nz none 0) (hV : ZN own idx y) (hd : decode cc pc = .ok (.invokespecial idx, 3)) (h : ZN0 y cz nz d2 mc2 ms2 [] ci ρf P) (ha : σ.length = a) (hf : (ρf a).length = mc2 + 1) (hd2 : d2 + 1 ≤ d) (hst : (st.map fun v => v.category).sum ≤ 8) (h1 : kc + mc2 ≤ mc) (h2 : ks + ms2 ≤ ms)
    (k : ∀ J, (∀ q, q < a → J q = I q) → P a J → ZG X own cc nL d mc ms (kc + mc2) (ks + ms2) (pc + 3) L st (σ ++ ρf a) J) : ZG X own cc nL d mc ms kc ks pc L (.ref a :: st) (σ ++ [(0, ci, zini ci)]) (zclr I a) :=
  z_runI (As := []) hM hV hd (h σ a (zclr I a) ha zclr_at) rfl hd2 hst h1 h2 (fun r σ' J q => by
    rw [q.2.1, List.length_append, List.length_append, hf, List.length_cons, List.length_nil]
    omega) (fun r σ' J q => by
    obtain ⟨rfl, rfl, q3, q4⟩ := q
    exact k J (fun q hq => by rw [q3 q hq, zclr_lt hq]) q4)
theorem z_init1 {idx a d2 mc2 ms2 nz ci : Nat} {x1 : Value} {y : MethodName} {cz : ByteArray} {ρf : Nat → List ZC} {P : Nat → ZI → Prop} (hM : ZM y cz nz none 1) (hV : ZN own idx y) (hd : decode cc pc = .ok (.invokespecial idx, 3)) (h : ZN0 y cz nz d2 mc2 ms2 [x1] ci ρf P) (ha : σ.length = a) (hf : (ρf a).length = mc2 + 1) (hd2 : d2 + 1 ≤ d) (hst : (st.map fun v => v.category).sum ≤ 8) (h1 : kc + mc2 ≤ mc) (h2 : ks + ms2 ≤ ms)
    (k : ∀ J, (∀ q, q < a → J q = I q) → P a J → ZG X own cc nL d mc ms (kc + mc2) (ks + ms2) (pc + 3) L st (σ ++ ρf a) J) : ZG X own cc nL d mc ms kc ks pc L (x1 :: .ref a :: st) (σ ++ [(0, ci, zini ci)]) (zclr I a) :=
  z_runI (As := [x1]) hM hV hd (h σ a (zclr I a) ha zclr_at) rfl hd2 hst h1 h2 (fun r σ' J q => by
    rw [q.2.1, List.length_append, List.length_append, hf, List.length_cons, List.length_nil]
    omega) (fun r σ' J q => by
    obtain ⟨rfl, rfl, q3, q4⟩ := q
    exact k J (fun q hq => by rw [q3 q hq, zclr_lt hq]) q4)
end ZNW
def hRow (a n : Nat) : List ZC := [(0, 6, [a + 3]), (1, n, [])]
theorem n_X6 (n : Nat) (h0 : 0 < n) (hn : n ≤ 3000) : ZN0 yX6_init cX6_init 2 1 1 n [.int (nI n)] 6 (fun a => hRow a n) (fun _ _ => True) := by
  intro τ a I ha hz
  refine ZSp.of (own := RX6) (L := [.ref a, .int (nI n)]) mX6_init rfl (List.all_eq_true.mp rfl) (Nat.le_of_ble_eq_true rfl) rfl (fun X hE hN => ?_)
  refine z_sg (σ' := τ ++ ((0, 6, [1]) :: [])) rfl ?_
  refine z_aload_n dX6_init_0 rfl ?_
  refine z_objInit gRX6_1 j_obj_instanceMethod j_obj_code dX6_init_1 (by decide) (by decide) ?_
  refine z_aload_n dX6_init_4 rfl ?_
  refine z_iload_n dX6_init_5 rfl ?_
  refine z_if_le (tgt := 13) dX6_init_6 (by decide) (fun hb => absurd hb (nI_nle h0 (by omega))) (fun _ => ?_)
  refine z_iload_n dX6_init_9 rfl ?_
  refine z_goto (tgt := 14) dX6_init_10 (by decide) ?_
  refine z_narN (a := a + 1) (z_lenO ha rfl) rfl dX6_init_14 (by omega) (by decide) (by omega) ?_
  refine z_sg (List.append_assoc _ _ _) ?_
  refine z_putO (C := "") (rs' := [a + 3]) ha (Or.inr ⟨_, eRX6_7⟩) hN rfl dX6_init_16 rfl rfl ?_
  refine z_k (kc' := 1) (ks' := n) rfl (Nat.zero_add n) ?_
  exact z_vret hE dX6_init_19 ⟨rfl, rfl, fun q hq => zclr_lt (by omega), trivial⟩

