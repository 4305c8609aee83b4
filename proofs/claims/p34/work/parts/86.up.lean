/-! ===== more places to forget; up ===== -/
section ZO2
variable {X : ZX} {own : String} {cc : ByteArray} {nL d mc ms kc ks pc : Nat} {L st : List Value} {σ : List ZC} {I : ZI}
theorem z_fg11 {l0 l1 l2 l3 l4 l5 l6 l7 l8 l9 l10 l11 : Value} (k : ZG X own cc nL d mc ms kc ks pc (l0 :: l1 :: l2 :: l3 :: l4 :: l5 :: l6 :: l7 :: l8 :: l9 :: l10 :: zj :: L) st σ I) : ZG X own cc nL d mc ms kc ks pc (l0 :: l1 :: l2 :: l3 :: l4 :: l5 :: l6 :: l7 :: l8 :: l9 :: l10 :: l11 :: L) st σ I :=
  z_forget (fun i u hu hv => by
    by_cases e : i = 11
    · subst e; cases hu; cases hv
    · have e2 : (l0 :: l1 :: l2 :: l3 :: l4 :: l5 :: l6 :: l7 :: l8 :: l9 :: l10 :: zj :: L).set 11 l11 = l0 :: l1 :: l2 :: l3 :: l4 :: l5 :: l6 :: l7 :: l8 :: l9 :: l10 :: l11 :: L := rfl
      rw [← e2, List.getElem?_set_ne (Ne.symm e)]; exact hu) k
theorem z_fg12 {l0 l1 l2 l3 l4 l5 l6 l7 l8 l9 l10 l11 l12 : Value} (k : ZG X own cc nL d mc ms kc ks pc (l0 :: l1 :: l2 :: l3 :: l4 :: l5 :: l6 :: l7 :: l8 :: l9 :: l10 :: l11 :: zj :: L) st σ I) : ZG X own cc nL d mc ms kc ks pc (l0 :: l1 :: l2 :: l3 :: l4 :: l5 :: l6 :: l7 :: l8 :: l9 :: l10 :: l11 :: l12 :: L) st σ I :=
  z_forget (fun i u hu hv => by
    by_cases e : i = 12
    · subst e; cases hu; cases hv
    · have e2 : (l0 :: l1 :: l2 :: l3 :: l4 :: l5 :: l6 :: l7 :: l8 :: l9 :: l10 :: l11 :: zj :: L).set 12 l12 = l0 :: l1 :: l2 :: l3 :: l4 :: l5 :: l6 :: l7 :: l8 :: l9 :: l10 :: l11 :: l12 :: L := rfl
      rw [← e2, List.getElem?_set_ne (Ne.symm e)]; exact hu) k
theorem z_cS2p {idx d2 nz : Nat} {y : MethodName} {cz : ByteArray} {rz : Option FieldType} {x1 x2 : Value} {Q2 : Option Value → ZI → Prop} (hM : ZM y cz nz rz 2) (hV : ZS own idx y) (hd : decode cc pc = .ok (.invokestatic idx, 3)) (hsp : ZP y cz nz rz d2 [x1, x2] σ I Q2) (hd2 : d2 + 1 ≤ d) (hst : (st.map fun v => v.category).sum ≤ 8) (h1 : kc ≤ mc) (h2 : ks ≤ ms)
    (k : ∀ r J, Q2 r J → ZG X own cc nL d mc ms kc ks (pc + 3) L (r.toList ++ st) σ J) : ZG X own cc nL d mc ms kc ks pc L (x2 :: x1 :: st) σ I :=
  z_runS (As := [x1, x2]) hM hV hd hsp rfl hd2 hst h1 h2 (fun _ _ _ q => by rw [q.1]; rfl) (fun r σ' J q => by obtain ⟨rfl, q⟩ := q; exact k r J q)
theorem z_cS3p {idx d2 nz : Nat} {y : MethodName} {cz : ByteArray} {rz : Option FieldType} {x1 x2 x3 : Value} {Q2 : Option Value → ZI → Prop} (hM : ZM y cz nz rz 3) (hV : ZS own idx y) (hd : decode cc pc = .ok (.invokestatic idx, 3)) (hsp : ZP y cz nz rz d2 [x1, x2, x3] σ I Q2) (hd2 : d2 + 1 ≤ d) (hst : (st.map fun v => v.category).sum ≤ 8) (h1 : kc ≤ mc) (h2 : ks ≤ ms)
    (k : ∀ r J, Q2 r J → ZG X own cc nL d mc ms kc ks (pc + 3) L (r.toList ++ st) σ J) : ZG X own cc nL d mc ms kc ks pc L (x3 :: x2 :: x1 :: st) σ I :=
  z_runS (As := [x1, x2, x3]) hM hV hd hsp rfl hd2 hst h1 h2 (fun _ _ _ q => by rw [q.1]; rfl) (fun r σ' J q => by obtain ⟨rfl, q⟩ := q; exact k r J q)
theorem z_cS4p {idx d2 nz : Nat} {y : MethodName} {cz : ByteArray} {rz : Option FieldType} {x1 x2 x3 x4 : Value} {Q2 : Option Value → ZI → Prop} (hM : ZM y cz nz rz 4) (hV : ZS own idx y) (hd : decode cc pc = .ok (.invokestatic idx, 3)) (hsp : ZP y cz nz rz d2 [x1, x2, x3, x4] σ I Q2) (hd2 : d2 + 1 ≤ d) (hst : (st.map fun v => v.category).sum ≤ 8) (h1 : kc ≤ mc) (h2 : ks ≤ ms)
    (k : ∀ r J, Q2 r J → ZG X own cc nL d mc ms kc ks (pc + 3) L (r.toList ++ st) σ J) : ZG X own cc nL d mc ms kc ks pc L (x4 :: x3 :: x2 :: x1 :: st) σ I :=
  z_runS (As := [x1, x2, x3, x4]) hM hV hd hsp rfl hd2 hst h1 h2 (fun _ _ _ q => by rw [q.1]; rfl) (fun r σ' J q => by obtain ⟨rfl, q⟩ := q; exact k r J q)
end ZO2
theorem l_up {I : ZI} {x : Int32} {m : Nat} (h0 : 0 < m) (hm : m < 1000) : ZP yL_up cL_up 2 (some FieldType.int) 0 [.int x, .int (nI m)] Sg I (fun r J => (∃ k, k < m ∧ r = some (.int (nI k))) ∧ J = I) := by
  refine ZSp.of (own := RL) (L := [.int x, .int (nI m)]) mL_up rfl (List.all_eq_true.mp rfl) (Nat.le_of_ble_eq_true rfl) rfl (fun X hE hN => ?_)
  refine z_iload_n dL_up_0 rfl ?_
  refine z_ldc kRL_8 dL_up_1 ?_
  refine z_iand dL_up_3 ?_
  refine z_iload_n dL_up_4 rfl ?_
  rw [pk_and x (m := 2147483647) 31 rfl]
  refine z_irem dL_up_5 (nI_ne0 h0 (by omega)) ?_
  rw [pk_rem (Nat.mod_lt _ (by decide)) h0 (by omega)]
  exact z_iret hE dL_up_6 ⟨rfl, ⟨_, Nat.mod_lt _ h0, rfl⟩, rfl⟩
theorem at0 (A : AS) (v p : Nat) : atF A v p 0 = nI (vO A v p) := if_pos rfl
theorem at1 (A : AS) (v p : Nat) : atF A v p 1 = nI (vK A v p) := (if_neg (by decide)).trans (if_pos rfl)
theorem at2 (A : AS) (v p : Nat) : atF A v p 2 = nI (pgo (vP A v) p (vN A v)) := (if_neg (by decide)).trans ((if_neg (by decide)).trans (if_pos rfl))
theorem al0 (A : AS) (v : Nat) : alF A v v 0 = anq A := (al_self A v).trans (if_pos rfl)
theorem al1 (A : AS) (v : Nat) : alF A v v 1 = anq A := (al_self A v).trans ((if_neg (by decide)).trans (if_pos rfl))
theorem al2 (A : AS) (v : Nat) : alF A v v 2 = anq A - 1 := (al_self A v).trans ((if_neg (by decide)).trans (if_neg (by decide)))
theorem k_page0 {T : CT} {I : ZI} {x y : Int32} {v i : Nat} (h : KI T I) (hx : x = nI v) (hv : v < anv T.1) (hy : y = nI i) (hi : i < vN T.1 v) : ZK yX9_page cX9_page 5 (some FieldType.int) 6 [.ref 0, .int x, .int y, .int 0] T I (.int (nI (vP T.1 v (i + 1) - vP T.1 v i))) := by
  have := k_page (w := 0) h hx hv hy hi (Or.inl rfl)
  rw [if_pos rfl] at this
  exact this
theorem k_page1 {T : CT} {I : ZI} {x y : Int32} {v i : Nat} (h : KI T I) (hx : x = nI v) (hv : v < anv T.1) (hy : y = nI i) (hi : i < vN T.1 v) : ZK yX9_page cX9_page 5 (some FieldType.int) 6 [.ref 0, .int x, .int y, .int 1] T I (.int (nI (pgh T.1 v i))) := by
  have := k_page (w := 1) h hx hv hy hi (Or.inr rfl)
  rw [if_neg (by decide)] at this
  exact this
theorem vP_mono {A : AS} {v : Nat} (hV : AV A) : ∀ d i, i + d ≤ vN A v → vP A v i + d ≤ vP A v (i + d)
  | 0, i, _ => Nat.le_refl _
  | d + 1, i, h => by
    have h1 := vP_mono (v := v) hV d i (by omega)
    have h2 := (vP_in (v := v) hV (i := i + d) (by omega)).1
    rw [show i + (d + 1) = i + d + 1 by omega]
    omega
theorem vP_lt {A : AS} {v i j : Nat} (hV : AV A) (hij : i < j) (hj : j ≤ vN A v) : vP A v i < vP A v j := by
  have := vP_mono (v := v) hV (j - i) i (by omega)
  rw [show i + (j - i) = j by omega] at this
  omega

