/-! ===== contracts that make nothing; calls by the number of arguments; stores by their places ===== -/
/-- answers r, leaves I' (the shape stays) -/
def ZE (y : MethodName) (cc : ByteArray) (nL : Nat) (ret : Option FieldType) (d : Nat) (args : List Value) (σ : List ZC) (I : ZI) (r : Option Value) (I' : ZI) : Prop :=
  ZSp y cc nL ret d 0 0 args σ I (fun r0 σ0 I0 => r0 = r ∧ σ0 = σ ∧ I0 = I')
/-- answers and leaves what Q says (the shape stays) -/
def ZP (y : MethodName) (cc : ByteArray) (nL : Nat) (ret : Option FieldType) (d : Nat) (args : List Value) (σ : List ZC) (I : ZI) (Q : Option Value → ZI → Prop) : Prop :=
  ZSp y cc nL ret d 0 0 args σ I (fun r0 σ0 I0 => σ0 = σ ∧ Q r0 I0)
theorem ZE.of_eq {y : MethodName} {cc : ByteArray} {nL : Nat} {ret : Option FieldType} {d : Nat} {args : List Value} {σ : List ZC} {I I' I'' : ZI} {r r' : Option Value} (h : ZE y cc nL ret d args σ I r I') (hr : r = r') (hI : I' = I'') : ZE y cc nL ret d args σ I r' I'' := by
  subst hr; subst hI; exact h
theorem ZE.toP {y : MethodName} {cc : ByteArray} {nL : Nat} {ret : Option FieldType} {d : Nat} {args : List Value} {σ : List ZC} {I I' : ZI} {r : Option Value} {Q : Option Value → ZI → Prop} (h : ZE y cc nL ret d args σ I r I') (hQ : Q r I') : ZP y cc nL ret d args σ I Q := by
  intro l cy D b p e a1 a2 a3 s m ar below b1 b2 b3 b4
  obtain ⟨k, oc, c1, c2, c3, ⟨⟨⟨r0, σ0, I0, d1, ⟨d2, d3, d4⟩, d5⟩, d6⟩, d7⟩⟩ := h l cy D b p e a1 a2 a3 s m ar below b1 b2 b3 b4
  exact ⟨k, oc, c1, c2, c3, ⟨⟨⟨r0, σ0, I0, d1, ⟨d3, by rw [d2, d4]; exact hQ⟩, d5⟩, d6⟩, d7⟩⟩
theorem ZSp.mono {y : MethodName} {cc : ByteArray} {nL : Nat} {ret : Option FieldType} {d mc ms : Nat} {args : List Value} {σ : List ZC} {I : ZI} {Q Q' : Option Value → List ZC → ZI → Prop} (h : ZSp y cc nL ret d mc ms args σ I Q) (hQ : ∀ r σ' I', Q r σ' I' → Q' r σ' I') : ZSp y cc nL ret d mc ms args σ I Q' := by
  intro l cy D b p e a1 a2 a3 s m ar below b1 b2 b3 b4
  obtain ⟨k, oc, c1, c2, c3, ⟨⟨⟨r0, σ0, I0, d1, d2, d5⟩, d6⟩, d7⟩⟩ := h l cy D b p e a1 a2 a3 s m ar below b1 b2 b3 b4
  exact ⟨k, oc, c1, c2, c3, ⟨⟨⟨r0, σ0, I0, d1, hQ _ _ _ d2, d5⟩, d6⟩, d7⟩⟩
theorem ZP.mono {y : MethodName} {cc : ByteArray} {nL : Nat} {ret : Option FieldType} {d : Nat} {args : List Value} {σ : List ZC} {I : ZI} {Q Q' : Option Value → ZI → Prop} (h : ZP y cc nL ret d args σ I Q) (hQ : ∀ r I', Q r I' → Q' r I') : ZP y cc nL ret d args σ I Q' :=
  ZSp.mono h (fun _ _ _ q => ⟨q.1, hQ _ _ q.2⟩)
theorem zgd {L : List Value} {j : Nat} {l : Value} (h : L[j]? = some l) (hg : l.category = 1) : ∀ (i : Nat) (u : Value), L[i]? = some u → i + 1 = j + 1 → u.category = 1 := by
  intro i u hu hi
  have e : i = j := by omega
  subst e
  rw [h] at hu
  cases hu
  exact hg
section ZC1
variable {X : ZX} {own : String} {cc : ByteArray} {nL d mc ms kc ks pc : Nat} {L st : List Value} {σ : List ZC} {I : ZI}

theorem z_cV0s {idx a d2 nz ci : Nat} {y : MethodName} {cz : ByteArray} {rz : Option FieldType}  {rs : List Nat} {w : Value} {I' : ZI} (hM : ZM y cz nz rz 0) (hV : ZV own idx y) (hd : decode cc pc = .ok (.invokevirtual idx, 3)) (hsp : ZE y cz nz rz d2 (.ref a :: []) σ I (some w) I') (hd2 : d2 + 1 ≤ d) (hc : σ[a]? = some (0, ci, rs)) (hcl : vwCl[ci]?.map (fun q => q.1) = some y.cls) (hst : (st.map fun v => v.category).sum ≤ 8) (h1 : kc ≤ mc) (h2 : ks ≤ ms)
    (k : ZG X own cc nL d mc ms kc ks (pc + 3) L (w :: st) σ I') : ZG X own cc nL d mc ms kc ks pc L (.ref a :: st) σ I :=
  z_runV (As := []) hM hV hd hsp rfl hd2 hc hcl hst h1 h2 (fun _ _ _ q => by rw [q.2.1]; rfl) (fun r σ' J q => by obtain ⟨rfl, rfl, rfl⟩ := q; exact k)
theorem z_cV0n {idx a d2 nz ci : Nat} {y : MethodName} {cz : ByteArray} {rz : Option FieldType}  {rs : List Nat}  {I' : ZI} (hM : ZM y cz nz rz 0) (hV : ZV own idx y) (hd : decode cc pc = .ok (.invokevirtual idx, 3)) (hsp : ZE y cz nz rz d2 (.ref a :: []) σ I none I') (hd2 : d2 + 1 ≤ d) (hc : σ[a]? = some (0, ci, rs)) (hcl : vwCl[ci]?.map (fun q => q.1) = some y.cls) (hst : (st.map fun v => v.category).sum ≤ 8) (h1 : kc ≤ mc) (h2 : ks ≤ ms)
    (k : ZG X own cc nL d mc ms kc ks (pc + 3) L (st) σ I') : ZG X own cc nL d mc ms kc ks pc L (.ref a :: st) σ I :=
  z_runV (As := []) hM hV hd hsp rfl hd2 hc hcl hst h1 h2 (fun _ _ _ q => by rw [q.2.1]; rfl) (fun r σ' J q => by obtain ⟨rfl, rfl, rfl⟩ := q; exact k)
theorem z_cV0p {idx a d2 nz ci : Nat} {y : MethodName} {cz : ByteArray} {rz : Option FieldType}  {rs : List Nat} {Q2 : Option Value → ZI → Prop} (hM : ZM y cz nz rz 0) (hV : ZV own idx y) (hd : decode cc pc = .ok (.invokevirtual idx, 3)) (hsp : ZP y cz nz rz d2 (.ref a :: []) σ I Q2) (hd2 : d2 + 1 ≤ d) (hc : σ[a]? = some (0, ci, rs)) (hcl : vwCl[ci]?.map (fun q => q.1) = some y.cls) (hst : (st.map fun v => v.category).sum ≤ 8) (h1 : kc ≤ mc) (h2 : ks ≤ ms)
    (k : ∀ r J, Q2 r J → ZG X own cc nL d mc ms kc ks (pc + 3) L (r.toList ++ st) σ J) : ZG X own cc nL d mc ms kc ks pc L (.ref a :: st) σ I :=
  z_runV (As := []) hM hV hd hsp rfl hd2 hc hcl hst h1 h2 (fun _ _ _ q => by rw [q.1]; rfl) (fun r σ' J q => by obtain ⟨rfl, q⟩ := q; exact k r J q)
theorem z_cV1s {idx a d2 nz ci : Nat} {y : MethodName} {cz : ByteArray} {rz : Option FieldType} {x1 : Value} {rs : List Nat} {w : Value} {I' : ZI} (hM : ZM y cz nz rz 1) (hV : ZV own idx y) (hd : decode cc pc = .ok (.invokevirtual idx, 3)) (hsp : ZE y cz nz rz d2 (.ref a :: [x1]) σ I (some w) I') (hd2 : d2 + 1 ≤ d) (hc : σ[a]? = some (0, ci, rs)) (hcl : vwCl[ci]?.map (fun q => q.1) = some y.cls) (hst : (st.map fun v => v.category).sum ≤ 8) (h1 : kc ≤ mc) (h2 : ks ≤ ms)
    (k : ZG X own cc nL d mc ms kc ks (pc + 3) L (w :: st) σ I') : ZG X own cc nL d mc ms kc ks pc L (x1 :: .ref a :: st) σ I :=
  z_runV (As := [x1]) hM hV hd hsp rfl hd2 hc hcl hst h1 h2 (fun _ _ _ q => by rw [q.2.1]; rfl) (fun r σ' J q => by obtain ⟨rfl, rfl, rfl⟩ := q; exact k)
theorem z_cV1n {idx a d2 nz ci : Nat} {y : MethodName} {cz : ByteArray} {rz : Option FieldType} {x1 : Value} {rs : List Nat}  {I' : ZI} (hM : ZM y cz nz rz 1) (hV : ZV own idx y) (hd : decode cc pc = .ok (.invokevirtual idx, 3)) (hsp : ZE y cz nz rz d2 (.ref a :: [x1]) σ I none I') (hd2 : d2 + 1 ≤ d) (hc : σ[a]? = some (0, ci, rs)) (hcl : vwCl[ci]?.map (fun q => q.1) = some y.cls) (hst : (st.map fun v => v.category).sum ≤ 8) (h1 : kc ≤ mc) (h2 : ks ≤ ms)
    (k : ZG X own cc nL d mc ms kc ks (pc + 3) L (st) σ I') : ZG X own cc nL d mc ms kc ks pc L (x1 :: .ref a :: st) σ I :=
  z_runV (As := [x1]) hM hV hd hsp rfl hd2 hc hcl hst h1 h2 (fun _ _ _ q => by rw [q.2.1]; rfl) (fun r σ' J q => by obtain ⟨rfl, rfl, rfl⟩ := q; exact k)
theorem z_cV1p {idx a d2 nz ci : Nat} {y : MethodName} {cz : ByteArray} {rz : Option FieldType} {x1 : Value} {rs : List Nat} {Q2 : Option Value → ZI → Prop} (hM : ZM y cz nz rz 1) (hV : ZV own idx y) (hd : decode cc pc = .ok (.invokevirtual idx, 3)) (hsp : ZP y cz nz rz d2 (.ref a :: [x1]) σ I Q2) (hd2 : d2 + 1 ≤ d) (hc : σ[a]? = some (0, ci, rs)) (hcl : vwCl[ci]?.map (fun q => q.1) = some y.cls) (hst : (st.map fun v => v.category).sum ≤ 8) (h1 : kc ≤ mc) (h2 : ks ≤ ms)
    (k : ∀ r J, Q2 r J → ZG X own cc nL d mc ms kc ks (pc + 3) L (r.toList ++ st) σ J) : ZG X own cc nL d mc ms kc ks pc L (x1 :: .ref a :: st) σ I :=
  z_runV (As := [x1]) hM hV hd hsp rfl hd2 hc hcl hst h1 h2 (fun _ _ _ q => by rw [q.1]; rfl) (fun r σ' J q => by obtain ⟨rfl, q⟩ := q; exact k r J q)
theorem z_cS1s {idx d2 nz : Nat} {y : MethodName} {cz : ByteArray} {rz : Option FieldType} {x1 : Value} {w : Value} {I' : ZI} (hM : ZM y cz nz rz 1) (hV : ZS own idx y) (hd : decode cc pc = .ok (.invokestatic idx, 3)) (hsp : ZE y cz nz rz d2 [x1] σ I (some w) I') (hd2 : d2 + 1 ≤ d) (hst : (st.map fun v => v.category).sum ≤ 8) (h1 : kc ≤ mc) (h2 : ks ≤ ms)
    (k : ZG X own cc nL d mc ms kc ks (pc + 3) L (w :: st) σ I') : ZG X own cc nL d mc ms kc ks pc L (x1 :: st) σ I :=
  z_runS (As := [x1]) hM hV hd hsp rfl hd2 hst h1 h2 (fun _ _ _ q => by rw [q.2.1]; rfl) (fun r σ' J q => by obtain ⟨rfl, rfl, rfl⟩ := q; exact k)
theorem z_cS1n {idx d2 nz : Nat} {y : MethodName} {cz : ByteArray} {rz : Option FieldType} {x1 : Value}  {I' : ZI} (hM : ZM y cz nz rz 1) (hV : ZS own idx y) (hd : decode cc pc = .ok (.invokestatic idx, 3)) (hsp : ZE y cz nz rz d2 [x1] σ I none I') (hd2 : d2 + 1 ≤ d) (hst : (st.map fun v => v.category).sum ≤ 8) (h1 : kc ≤ mc) (h2 : ks ≤ ms)
    (k : ZG X own cc nL d mc ms kc ks (pc + 3) L (st) σ I') : ZG X own cc nL d mc ms kc ks pc L (x1 :: st) σ I :=
  z_runS (As := [x1]) hM hV hd hsp rfl hd2 hst h1 h2 (fun _ _ _ q => by rw [q.2.1]; rfl) (fun r σ' J q => by obtain ⟨rfl, rfl, rfl⟩ := q; exact k)
theorem z_cV2s {idx a d2 nz ci : Nat} {y : MethodName} {cz : ByteArray} {rz : Option FieldType} {x1 x2 : Value} {rs : List Nat} {w : Value} {I' : ZI} (hM : ZM y cz nz rz 2) (hV : ZV own idx y) (hd : decode cc pc = .ok (.invokevirtual idx, 3)) (hsp : ZE y cz nz rz d2 (.ref a :: [x1, x2]) σ I (some w) I') (hd2 : d2 + 1 ≤ d) (hc : σ[a]? = some (0, ci, rs)) (hcl : vwCl[ci]?.map (fun q => q.1) = some y.cls) (hst : (st.map fun v => v.category).sum ≤ 8) (h1 : kc ≤ mc) (h2 : ks ≤ ms)
    (k : ZG X own cc nL d mc ms kc ks (pc + 3) L (w :: st) σ I') : ZG X own cc nL d mc ms kc ks pc L (x2 :: x1 :: .ref a :: st) σ I :=
  z_runV (As := [x1, x2]) hM hV hd hsp rfl hd2 hc hcl hst h1 h2 (fun _ _ _ q => by rw [q.2.1]; rfl) (fun r σ' J q => by obtain ⟨rfl, rfl, rfl⟩ := q; exact k)
theorem z_cV2n {idx a d2 nz ci : Nat} {y : MethodName} {cz : ByteArray} {rz : Option FieldType} {x1 x2 : Value} {rs : List Nat}  {I' : ZI} (hM : ZM y cz nz rz 2) (hV : ZV own idx y) (hd : decode cc pc = .ok (.invokevirtual idx, 3)) (hsp : ZE y cz nz rz d2 (.ref a :: [x1, x2]) σ I none I') (hd2 : d2 + 1 ≤ d) (hc : σ[a]? = some (0, ci, rs)) (hcl : vwCl[ci]?.map (fun q => q.1) = some y.cls) (hst : (st.map fun v => v.category).sum ≤ 8) (h1 : kc ≤ mc) (h2 : ks ≤ ms)
    (k : ZG X own cc nL d mc ms kc ks (pc + 3) L (st) σ I') : ZG X own cc nL d mc ms kc ks pc L (x2 :: x1 :: .ref a :: st) σ I :=
  z_runV (As := [x1, x2]) hM hV hd hsp rfl hd2 hc hcl hst h1 h2 (fun _ _ _ q => by rw [q.2.1]; rfl) (fun r σ' J q => by obtain ⟨rfl, rfl, rfl⟩ := q; exact k)
theorem z_cV2p {idx a d2 nz ci : Nat} {y : MethodName} {cz : ByteArray} {rz : Option FieldType} {x1 x2 : Value} {rs : List Nat} {Q2 : Option Value → ZI → Prop} (hM : ZM y cz nz rz 2) (hV : ZV own idx y) (hd : decode cc pc = .ok (.invokevirtual idx, 3)) (hsp : ZP y cz nz rz d2 (.ref a :: [x1, x2]) σ I Q2) (hd2 : d2 + 1 ≤ d) (hc : σ[a]? = some (0, ci, rs)) (hcl : vwCl[ci]?.map (fun q => q.1) = some y.cls) (hst : (st.map fun v => v.category).sum ≤ 8) (h1 : kc ≤ mc) (h2 : ks ≤ ms)
    (k : ∀ r J, Q2 r J → ZG X own cc nL d mc ms kc ks (pc + 3) L (r.toList ++ st) σ J) : ZG X own cc nL d mc ms kc ks pc L (x2 :: x1 :: .ref a :: st) σ I :=
  z_runV (As := [x1, x2]) hM hV hd hsp rfl hd2 hc hcl hst h1 h2 (fun _ _ _ q => by rw [q.1]; rfl) (fun r σ' J q => by obtain ⟨rfl, q⟩ := q; exact k r J q)
theorem z_cS2s {idx d2 nz : Nat} {y : MethodName} {cz : ByteArray} {rz : Option FieldType} {x1 x2 : Value} {w : Value} {I' : ZI} (hM : ZM y cz nz rz 2) (hV : ZS own idx y) (hd : decode cc pc = .ok (.invokestatic idx, 3)) (hsp : ZE y cz nz rz d2 [x1, x2] σ I (some w) I') (hd2 : d2 + 1 ≤ d) (hst : (st.map fun v => v.category).sum ≤ 8) (h1 : kc ≤ mc) (h2 : ks ≤ ms)
    (k : ZG X own cc nL d mc ms kc ks (pc + 3) L (w :: st) σ I') : ZG X own cc nL d mc ms kc ks pc L (x2 :: x1 :: st) σ I :=
  z_runS (As := [x1, x2]) hM hV hd hsp rfl hd2 hst h1 h2 (fun _ _ _ q => by rw [q.2.1]; rfl) (fun r σ' J q => by obtain ⟨rfl, rfl, rfl⟩ := q; exact k)
theorem z_cS2n {idx d2 nz : Nat} {y : MethodName} {cz : ByteArray} {rz : Option FieldType} {x1 x2 : Value}  {I' : ZI} (hM : ZM y cz nz rz 2) (hV : ZS own idx y) (hd : decode cc pc = .ok (.invokestatic idx, 3)) (hsp : ZE y cz nz rz d2 [x1, x2] σ I none I') (hd2 : d2 + 1 ≤ d) (hst : (st.map fun v => v.category).sum ≤ 8) (h1 : kc ≤ mc) (h2 : ks ≤ ms)
    (k : ZG X own cc nL d mc ms kc ks (pc + 3) L (st) σ I') : ZG X own cc nL d mc ms kc ks pc L (x2 :: x1 :: st) σ I :=
  z_runS (As := [x1, x2]) hM hV hd hsp rfl hd2 hst h1 h2 (fun _ _ _ q => by rw [q.2.1]; rfl) (fun r σ' J q => by obtain ⟨rfl, rfl, rfl⟩ := q; exact k)
theorem z_cV3s {idx a d2 nz ci : Nat} {y : MethodName} {cz : ByteArray} {rz : Option FieldType} {x1 x2 x3 : Value} {rs : List Nat} {w : Value} {I' : ZI} (hM : ZM y cz nz rz 3) (hV : ZV own idx y) (hd : decode cc pc = .ok (.invokevirtual idx, 3)) (hsp : ZE y cz nz rz d2 (.ref a :: [x1, x2, x3]) σ I (some w) I') (hd2 : d2 + 1 ≤ d) (hc : σ[a]? = some (0, ci, rs)) (hcl : vwCl[ci]?.map (fun q => q.1) = some y.cls) (hst : (st.map fun v => v.category).sum ≤ 8) (h1 : kc ≤ mc) (h2 : ks ≤ ms)
    (k : ZG X own cc nL d mc ms kc ks (pc + 3) L (w :: st) σ I') : ZG X own cc nL d mc ms kc ks pc L (x3 :: x2 :: x1 :: .ref a :: st) σ I :=
  z_runV (As := [x1, x2, x3]) hM hV hd hsp rfl hd2 hc hcl hst h1 h2 (fun _ _ _ q => by rw [q.2.1]; rfl) (fun r σ' J q => by obtain ⟨rfl, rfl, rfl⟩ := q; exact k)
theorem z_cV3n {idx a d2 nz ci : Nat} {y : MethodName} {cz : ByteArray} {rz : Option FieldType} {x1 x2 x3 : Value} {rs : List Nat}  {I' : ZI} (hM : ZM y cz nz rz 3) (hV : ZV own idx y) (hd : decode cc pc = .ok (.invokevirtual idx, 3)) (hsp : ZE y cz nz rz d2 (.ref a :: [x1, x2, x3]) σ I none I') (hd2 : d2 + 1 ≤ d) (hc : σ[a]? = some (0, ci, rs)) (hcl : vwCl[ci]?.map (fun q => q.1) = some y.cls) (hst : (st.map fun v => v.category).sum ≤ 8) (h1 : kc ≤ mc) (h2 : ks ≤ ms)
    (k : ZG X own cc nL d mc ms kc ks (pc + 3) L (st) σ I') : ZG X own cc nL d mc ms kc ks pc L (x3 :: x2 :: x1 :: .ref a :: st) σ I :=
  z_runV (As := [x1, x2, x3]) hM hV hd hsp rfl hd2 hc hcl hst h1 h2 (fun _ _ _ q => by rw [q.2.1]; rfl) (fun r σ' J q => by obtain ⟨rfl, rfl, rfl⟩ := q; exact k)
theorem z_cV3p {idx a d2 nz ci : Nat} {y : MethodName} {cz : ByteArray} {rz : Option FieldType} {x1 x2 x3 : Value} {rs : List Nat} {Q2 : Option Value → ZI → Prop} (hM : ZM y cz nz rz 3) (hV : ZV own idx y) (hd : decode cc pc = .ok (.invokevirtual idx, 3)) (hsp : ZP y cz nz rz d2 (.ref a :: [x1, x2, x3]) σ I Q2) (hd2 : d2 + 1 ≤ d) (hc : σ[a]? = some (0, ci, rs)) (hcl : vwCl[ci]?.map (fun q => q.1) = some y.cls) (hst : (st.map fun v => v.category).sum ≤ 8) (h1 : kc ≤ mc) (h2 : ks ≤ ms)
    (k : ∀ r J, Q2 r J → ZG X own cc nL d mc ms kc ks (pc + 3) L (r.toList ++ st) σ J) : ZG X own cc nL d mc ms kc ks pc L (x3 :: x2 :: x1 :: .ref a :: st) σ I :=
  z_runV (As := [x1, x2, x3]) hM hV hd hsp rfl hd2 hc hcl hst h1 h2 (fun _ _ _ q => by rw [q.1]; rfl) (fun r σ' J q => by obtain ⟨rfl, q⟩ := q; exact k r J q)
theorem z_cS3s {idx d2 nz : Nat} {y : MethodName} {cz : ByteArray} {rz : Option FieldType} {x1 x2 x3 : Value} {w : Value} {I' : ZI} (hM : ZM y cz nz rz 3) (hV : ZS own idx y) (hd : decode cc pc = .ok (.invokestatic idx, 3)) (hsp : ZE y cz nz rz d2 [x1, x2, x3] σ I (some w) I') (hd2 : d2 + 1 ≤ d) (hst : (st.map fun v => v.category).sum ≤ 8) (h1 : kc ≤ mc) (h2 : ks ≤ ms)
    (k : ZG X own cc nL d mc ms kc ks (pc + 3) L (w :: st) σ I') : ZG X own cc nL d mc ms kc ks pc L (x3 :: x2 :: x1 :: st) σ I :=
  z_runS (As := [x1, x2, x3]) hM hV hd hsp rfl hd2 hst h1 h2 (fun _ _ _ q => by rw [q.2.1]; rfl) (fun r σ' J q => by obtain ⟨rfl, rfl, rfl⟩ := q; exact k)
theorem z_cS3n {idx d2 nz : Nat} {y : MethodName} {cz : ByteArray} {rz : Option FieldType} {x1 x2 x3 : Value}  {I' : ZI} (hM : ZM y cz nz rz 3) (hV : ZS own idx y) (hd : decode cc pc = .ok (.invokestatic idx, 3)) (hsp : ZE y cz nz rz d2 [x1, x2, x3] σ I none I') (hd2 : d2 + 1 ≤ d) (hst : (st.map fun v => v.category).sum ≤ 8) (h1 : kc ≤ mc) (h2 : ks ≤ ms)
    (k : ZG X own cc nL d mc ms kc ks (pc + 3) L (st) σ I') : ZG X own cc nL d mc ms kc ks pc L (x3 :: x2 :: x1 :: st) σ I :=
  z_runS (As := [x1, x2, x3]) hM hV hd hsp rfl hd2 hst h1 h2 (fun _ _ _ q => by rw [q.2.1]; rfl) (fun r σ' J q => by obtain ⟨rfl, rfl, rfl⟩ := q; exact k)
theorem z_cV4s {idx a d2 nz ci : Nat} {y : MethodName} {cz : ByteArray} {rz : Option FieldType} {x1 x2 x3 x4 : Value} {rs : List Nat} {w : Value} {I' : ZI} (hM : ZM y cz nz rz 4) (hV : ZV own idx y) (hd : decode cc pc = .ok (.invokevirtual idx, 3)) (hsp : ZE y cz nz rz d2 (.ref a :: [x1, x2, x3, x4]) σ I (some w) I') (hd2 : d2 + 1 ≤ d) (hc : σ[a]? = some (0, ci, rs)) (hcl : vwCl[ci]?.map (fun q => q.1) = some y.cls) (hst : (st.map fun v => v.category).sum ≤ 8) (h1 : kc ≤ mc) (h2 : ks ≤ ms)
    (k : ZG X own cc nL d mc ms kc ks (pc + 3) L (w :: st) σ I') : ZG X own cc nL d mc ms kc ks pc L (x4 :: x3 :: x2 :: x1 :: .ref a :: st) σ I :=
  z_runV (As := [x1, x2, x3, x4]) hM hV hd hsp rfl hd2 hc hcl hst h1 h2 (fun _ _ _ q => by rw [q.2.1]; rfl) (fun r σ' J q => by obtain ⟨rfl, rfl, rfl⟩ := q; exact k)
theorem z_cV4n {idx a d2 nz ci : Nat} {y : MethodName} {cz : ByteArray} {rz : Option FieldType} {x1 x2 x3 x4 : Value} {rs : List Nat}  {I' : ZI} (hM : ZM y cz nz rz 4) (hV : ZV own idx y) (hd : decode cc pc = .ok (.invokevirtual idx, 3)) (hsp : ZE y cz nz rz d2 (.ref a :: [x1, x2, x3, x4]) σ I none I') (hd2 : d2 + 1 ≤ d) (hc : σ[a]? = some (0, ci, rs)) (hcl : vwCl[ci]?.map (fun q => q.1) = some y.cls) (hst : (st.map fun v => v.category).sum ≤ 8) (h1 : kc ≤ mc) (h2 : ks ≤ ms)
    (k : ZG X own cc nL d mc ms kc ks (pc + 3) L (st) σ I') : ZG X own cc nL d mc ms kc ks pc L (x4 :: x3 :: x2 :: x1 :: .ref a :: st) σ I :=
  z_runV (As := [x1, x2, x3, x4]) hM hV hd hsp rfl hd2 hc hcl hst h1 h2 (fun _ _ _ q => by rw [q.2.1]; rfl) (fun r σ' J q => by obtain ⟨rfl, rfl, rfl⟩ := q; exact k)
theorem z_cV4p {idx a d2 nz ci : Nat} {y : MethodName} {cz : ByteArray} {rz : Option FieldType} {x1 x2 x3 x4 : Value} {rs : List Nat} {Q2 : Option Value → ZI → Prop} (hM : ZM y cz nz rz 4) (hV : ZV own idx y) (hd : decode cc pc = .ok (.invokevirtual idx, 3)) (hsp : ZP y cz nz rz d2 (.ref a :: [x1, x2, x3, x4]) σ I Q2) (hd2 : d2 + 1 ≤ d) (hc : σ[a]? = some (0, ci, rs)) (hcl : vwCl[ci]?.map (fun q => q.1) = some y.cls) (hst : (st.map fun v => v.category).sum ≤ 8) (h1 : kc ≤ mc) (h2 : ks ≤ ms)
    (k : ∀ r J, Q2 r J → ZG X own cc nL d mc ms kc ks (pc + 3) L (r.toList ++ st) σ J) : ZG X own cc nL d mc ms kc ks pc L (x4 :: x3 :: x2 :: x1 :: .ref a :: st) σ I :=
  z_runV (As := [x1, x2, x3, x4]) hM hV hd hsp rfl hd2 hc hcl hst h1 h2 (fun _ _ _ q => by rw [q.1]; rfl) (fun r σ' J q => by obtain ⟨rfl, q⟩ := q; exact k r J q)
theorem z_cS4s {idx d2 nz : Nat} {y : MethodName} {cz : ByteArray} {rz : Option FieldType} {x1 x2 x3 x4 : Value} {w : Value} {I' : ZI} (hM : ZM y cz nz rz 4) (hV : ZS own idx y) (hd : decode cc pc = .ok (.invokestatic idx, 3)) (hsp : ZE y cz nz rz d2 [x1, x2, x3, x4] σ I (some w) I') (hd2 : d2 + 1 ≤ d) (hst : (st.map fun v => v.category).sum ≤ 8) (h1 : kc ≤ mc) (h2 : ks ≤ ms)
    (k : ZG X own cc nL d mc ms kc ks (pc + 3) L (w :: st) σ I') : ZG X own cc nL d mc ms kc ks pc L (x4 :: x3 :: x2 :: x1 :: st) σ I :=
  z_runS (As := [x1, x2, x3, x4]) hM hV hd hsp rfl hd2 hst h1 h2 (fun _ _ _ q => by rw [q.2.1]; rfl) (fun r σ' J q => by obtain ⟨rfl, rfl, rfl⟩ := q; exact k)
theorem z_cS4n {idx d2 nz : Nat} {y : MethodName} {cz : ByteArray} {rz : Option FieldType} {x1 x2 x3 x4 : Value}  {I' : ZI} (hM : ZM y cz nz rz 4) (hV : ZS own idx y) (hd : decode cc pc = .ok (.invokestatic idx, 3)) (hsp : ZE y cz nz rz d2 [x1, x2, x3, x4] σ I none I') (hd2 : d2 + 1 ≤ d) (hst : (st.map fun v => v.category).sum ≤ 8) (h1 : kc ≤ mc) (h2 : ks ≤ ms)
    (k : ZG X own cc nL d mc ms kc ks (pc + 3) L (st) σ I') : ZG X own cc nL d mc ms kc ks pc L (x4 :: x3 :: x2 :: x1 :: st) σ I :=
  z_runS (As := [x1, x2, x3, x4]) hM hV hd hsp rfl hd2 hst h1 h2 (fun _ _ _ q => by rw [q.2.1]; rfl) (fun r σ' J q => by obtain ⟨rfl, rfl, rfl⟩ := q; exact k)
theorem z_cV5s {idx a d2 nz ci : Nat} {y : MethodName} {cz : ByteArray} {rz : Option FieldType} {x1 x2 x3 x4 x5 : Value} {rs : List Nat} {w : Value} {I' : ZI} (hM : ZM y cz nz rz 5) (hV : ZV own idx y) (hd : decode cc pc = .ok (.invokevirtual idx, 3)) (hsp : ZE y cz nz rz d2 (.ref a :: [x1, x2, x3, x4, x5]) σ I (some w) I') (hd2 : d2 + 1 ≤ d) (hc : σ[a]? = some (0, ci, rs)) (hcl : vwCl[ci]?.map (fun q => q.1) = some y.cls) (hst : (st.map fun v => v.category).sum ≤ 8) (h1 : kc ≤ mc) (h2 : ks ≤ ms)
    (k : ZG X own cc nL d mc ms kc ks (pc + 3) L (w :: st) σ I') : ZG X own cc nL d mc ms kc ks pc L (x5 :: x4 :: x3 :: x2 :: x1 :: .ref a :: st) σ I :=
  z_runV (As := [x1, x2, x3, x4, x5]) hM hV hd hsp rfl hd2 hc hcl hst h1 h2 (fun _ _ _ q => by rw [q.2.1]; rfl) (fun r σ' J q => by obtain ⟨rfl, rfl, rfl⟩ := q; exact k)
theorem z_cV5n {idx a d2 nz ci : Nat} {y : MethodName} {cz : ByteArray} {rz : Option FieldType} {x1 x2 x3 x4 x5 : Value} {rs : List Nat}  {I' : ZI} (hM : ZM y cz nz rz 5) (hV : ZV own idx y) (hd : decode cc pc = .ok (.invokevirtual idx, 3)) (hsp : ZE y cz nz rz d2 (.ref a :: [x1, x2, x3, x4, x5]) σ I none I') (hd2 : d2 + 1 ≤ d) (hc : σ[a]? = some (0, ci, rs)) (hcl : vwCl[ci]?.map (fun q => q.1) = some y.cls) (hst : (st.map fun v => v.category).sum ≤ 8) (h1 : kc ≤ mc) (h2 : ks ≤ ms)
    (k : ZG X own cc nL d mc ms kc ks (pc + 3) L (st) σ I') : ZG X own cc nL d mc ms kc ks pc L (x5 :: x4 :: x3 :: x2 :: x1 :: .ref a :: st) σ I :=
  z_runV (As := [x1, x2, x3, x4, x5]) hM hV hd hsp rfl hd2 hc hcl hst h1 h2 (fun _ _ _ q => by rw [q.2.1]; rfl) (fun r σ' J q => by obtain ⟨rfl, rfl, rfl⟩ := q; exact k)
theorem z_cV5p {idx a d2 nz ci : Nat} {y : MethodName} {cz : ByteArray} {rz : Option FieldType} {x1 x2 x3 x4 x5 : Value} {rs : List Nat} {Q2 : Option Value → ZI → Prop} (hM : ZM y cz nz rz 5) (hV : ZV own idx y) (hd : decode cc pc = .ok (.invokevirtual idx, 3)) (hsp : ZP y cz nz rz d2 (.ref a :: [x1, x2, x3, x4, x5]) σ I Q2) (hd2 : d2 + 1 ≤ d) (hc : σ[a]? = some (0, ci, rs)) (hcl : vwCl[ci]?.map (fun q => q.1) = some y.cls) (hst : (st.map fun v => v.category).sum ≤ 8) (h1 : kc ≤ mc) (h2 : ks ≤ ms)
    (k : ∀ r J, Q2 r J → ZG X own cc nL d mc ms kc ks (pc + 3) L (r.toList ++ st) σ J) : ZG X own cc nL d mc ms kc ks pc L (x5 :: x4 :: x3 :: x2 :: x1 :: .ref a :: st) σ I :=
  z_runV (As := [x1, x2, x3, x4, x5]) hM hV hd hsp rfl hd2 hc hcl hst h1 h2 (fun _ _ _ q => by rw [q.1]; rfl) (fun r σ' J q => by obtain ⟨rfl, q⟩ := q; exact k r J q)
theorem z_cS5s {idx d2 nz : Nat} {y : MethodName} {cz : ByteArray} {rz : Option FieldType} {x1 x2 x3 x4 x5 : Value} {w : Value} {I' : ZI} (hM : ZM y cz nz rz 5) (hV : ZS own idx y) (hd : decode cc pc = .ok (.invokestatic idx, 3)) (hsp : ZE y cz nz rz d2 [x1, x2, x3, x4, x5] σ I (some w) I') (hd2 : d2 + 1 ≤ d) (hst : (st.map fun v => v.category).sum ≤ 8) (h1 : kc ≤ mc) (h2 : ks ≤ ms)
    (k : ZG X own cc nL d mc ms kc ks (pc + 3) L (w :: st) σ I') : ZG X own cc nL d mc ms kc ks pc L (x5 :: x4 :: x3 :: x2 :: x1 :: st) σ I :=
  z_runS (As := [x1, x2, x3, x4, x5]) hM hV hd hsp rfl hd2 hst h1 h2 (fun _ _ _ q => by rw [q.2.1]; rfl) (fun r σ' J q => by obtain ⟨rfl, rfl, rfl⟩ := q; exact k)
theorem z_cS5n {idx d2 nz : Nat} {y : MethodName} {cz : ByteArray} {rz : Option FieldType} {x1 x2 x3 x4 x5 : Value}  {I' : ZI} (hM : ZM y cz nz rz 5) (hV : ZS own idx y) (hd : decode cc pc = .ok (.invokestatic idx, 3)) (hsp : ZE y cz nz rz d2 [x1, x2, x3, x4, x5] σ I none I') (hd2 : d2 + 1 ≤ d) (hst : (st.map fun v => v.category).sum ≤ 8) (h1 : kc ≤ mc) (h2 : ks ≤ ms)
    (k : ZG X own cc nL d mc ms kc ks (pc + 3) L (st) σ I') : ZG X own cc nL d mc ms kc ks pc L (x5 :: x4 :: x3 :: x2 :: x1 :: st) σ I :=
  z_runS (As := [x1, x2, x3, x4, x5]) hM hV hd hsp rfl hd2 hst h1 h2 (fun _ _ _ q => by rw [q.2.1]; rfl) (fun r σ' J q => by obtain ⟨rfl, rfl, rfl⟩ := q; exact k)
theorem z_ist0 {l0 : Value} {x : Int32} (hd : decode cc pc = .ok (.istore_n 0, 1)) (hn : 0 < nL)  (k : ZG X own cc nL d mc ms kc ks (pc + 1) (.int x :: L) st σ I) : ZG X own cc nL d mc ms kc ks pc (l0 :: L) (.int x :: st) σ I :=
  z_istore_n hd hn (fun i u hu hi => absurd hi (by omega)) k
theorem z_ast0 {l0 : Value} {x : Nat} (hd : decode cc pc = .ok (.astore_n 0, 1)) (hn : 0 < nL)  (k : ZG X own cc nL d mc ms kc ks (pc + 1) (.ref x :: L) st σ I) : ZG X own cc nL d mc ms kc ks pc (l0 :: L) (.ref x :: st) σ I :=
  z_astore_n hd hn (fun i u hu hi => absurd hi (by omega)) k
theorem z_asn0 {l0 : Value} (hd : decode cc pc = .ok (.astore_n 0, 1)) (hn : 0 < nL)  (k : ZG X own cc nL d mc ms kc ks (pc + 1) (.null :: L) st σ I) : ZG X own cc nL d mc ms kc ks pc (l0 :: L) (.null :: st) σ I :=
  z_astore_nN hd hn (fun i u hu hi => absurd hi (by omega)) k
theorem z_lst0 {l0 l1 : Value} {x : Int64} (hd : decode cc pc = .ok (.lstore_n 0, 1)) (hn : 0 + 1 < nL)  (k : ZG X own cc nL d mc ms kc ks (pc + 1) (.long x :: zj :: L) st σ I) : ZG X own cc nL d mc ms kc ks pc (l0 :: l1 :: L) (.long x :: st) σ I :=
  z_lstore_n hd hn (fun i u hu hi => absurd hi (by omega)) k
theorem z_dst0 {l0 l1 : Value} {x : UInt64} (hd : decode cc pc = .ok (.dstore_n 0, 1)) (hn : 0 + 1 < nL)  (k : ZG X own cc nL d mc ms kc ks (pc + 1) (.double x :: zj :: L) st σ I) : ZG X own cc nL d mc ms kc ks pc (l0 :: l1 :: L) (.double x :: st) σ I :=
  z_dstore_n hd hn (fun i u hu hi => absurd hi (by omega)) k
theorem z_inc0 {x w : Int32} {n : Int} (hd : decode cc pc = .ok (.iinc 0 n, 3)) (hw : Int32.ofInt n = w) (hn : 0 < nL)  (k : ZG X own cc nL d mc ms kc ks (pc + 3) (.int (x + w) :: L) st σ I) : ZG X own cc nL d mc ms kc ks pc (.int x :: L) st σ I :=
  z_iinc (v := x + w) hd rfl (by rw [hw]) hn (fun i u hu hi => absurd hi (by omega)) k
theorem z_fg0 {l0 : Value} (k : ZG X own cc nL d mc ms kc ks pc (zj :: L) st σ I) : ZG X own cc nL d mc ms kc ks pc (l0 :: L) st σ I :=
  z_forget (fun i u hu hv => by
    by_cases e : i = 0
    · subst e; cases hu; cases hv
    · have e2 : (zj :: L).set 0 l0 = l0 :: L := rfl
      rw [← e2, List.getElem?_set_ne (Ne.symm e)]; exact hu) k
theorem z_ist1 {l0 l1 : Value} {x : Int32} (hd : decode cc pc = .ok (.istore_n 1, 1)) (hn : 1 < nL) (hg : l0.category = 1) (k : ZG X own cc nL d mc ms kc ks (pc + 1) (l0 :: .int x :: L) st σ I) : ZG X own cc nL d mc ms kc ks pc (l0 :: l1 :: L) (.int x :: st) σ I :=
  z_istore_n hd hn (zgd (j := 0) rfl hg) k
theorem z_ast1 {l0 l1 : Value} {x : Nat} (hd : decode cc pc = .ok (.astore_n 1, 1)) (hn : 1 < nL) (hg : l0.category = 1) (k : ZG X own cc nL d mc ms kc ks (pc + 1) (l0 :: .ref x :: L) st σ I) : ZG X own cc nL d mc ms kc ks pc (l0 :: l1 :: L) (.ref x :: st) σ I :=
  z_astore_n hd hn (zgd (j := 0) rfl hg) k
theorem z_asn1 {l0 l1 : Value} (hd : decode cc pc = .ok (.astore_n 1, 1)) (hn : 1 < nL) (hg : l0.category = 1) (k : ZG X own cc nL d mc ms kc ks (pc + 1) (l0 :: .null :: L) st σ I) : ZG X own cc nL d mc ms kc ks pc (l0 :: l1 :: L) (.null :: st) σ I :=
  z_astore_nN hd hn (zgd (j := 0) rfl hg) k
theorem z_lst1 {l0 l1 l2 : Value} {x : Int64} (hd : decode cc pc = .ok (.lstore_n 1, 1)) (hn : 1 + 1 < nL) (hg : l0.category = 1) (k : ZG X own cc nL d mc ms kc ks (pc + 1) (l0 :: .long x :: zj :: L) st σ I) : ZG X own cc nL d mc ms kc ks pc (l0 :: l1 :: l2 :: L) (.long x :: st) σ I :=
  z_lstore_n hd hn (zgd (j := 0) rfl hg) k
theorem z_dst1 {l0 l1 l2 : Value} {x : UInt64} (hd : decode cc pc = .ok (.dstore_n 1, 1)) (hn : 1 + 1 < nL) (hg : l0.category = 1) (k : ZG X own cc nL d mc ms kc ks (pc + 1) (l0 :: .double x :: zj :: L) st σ I) : ZG X own cc nL d mc ms kc ks pc (l0 :: l1 :: l2 :: L) (.double x :: st) σ I :=
  z_dstore_n hd hn (zgd (j := 0) rfl hg) k
theorem z_inc1 {l0 : Value} {x w : Int32} {n : Int} (hd : decode cc pc = .ok (.iinc 1 n, 3)) (hw : Int32.ofInt n = w) (hn : 1 < nL) (hg : l0.category = 1) (k : ZG X own cc nL d mc ms kc ks (pc + 3) (l0 :: .int (x + w) :: L) st σ I) : ZG X own cc nL d mc ms kc ks pc (l0 :: .int x :: L) st σ I :=
  z_iinc (v := x + w) hd rfl (by rw [hw]) hn (zgd (j := 0) rfl hg) k
theorem z_fg1 {l0 l1 : Value} (k : ZG X own cc nL d mc ms kc ks pc (l0 :: zj :: L) st σ I) : ZG X own cc nL d mc ms kc ks pc (l0 :: l1 :: L) st σ I :=
  z_forget (fun i u hu hv => by
    by_cases e : i = 1
    · subst e; cases hu; cases hv
    · have e2 : (l0 :: zj :: L).set 1 l1 = l0 :: l1 :: L := rfl
      rw [← e2, List.getElem?_set_ne (Ne.symm e)]; exact hu) k
theorem z_ist2 {l0 l1 l2 : Value} {x : Int32} (hd : decode cc pc = .ok (.istore_n 2, 1)) (hn : 2 < nL) (hg : l1.category = 1) (k : ZG X own cc nL d mc ms kc ks (pc + 1) (l0 :: l1 :: .int x :: L) st σ I) : ZG X own cc nL d mc ms kc ks pc (l0 :: l1 :: l2 :: L) (.int x :: st) σ I :=
  z_istore_n hd hn (zgd (j := 1) rfl hg) k
theorem z_ast2 {l0 l1 l2 : Value} {x : Nat} (hd : decode cc pc = .ok (.astore_n 2, 1)) (hn : 2 < nL) (hg : l1.category = 1) (k : ZG X own cc nL d mc ms kc ks (pc + 1) (l0 :: l1 :: .ref x :: L) st σ I) : ZG X own cc nL d mc ms kc ks pc (l0 :: l1 :: l2 :: L) (.ref x :: st) σ I :=
  z_astore_n hd hn (zgd (j := 1) rfl hg) k
theorem z_asn2 {l0 l1 l2 : Value} (hd : decode cc pc = .ok (.astore_n 2, 1)) (hn : 2 < nL) (hg : l1.category = 1) (k : ZG X own cc nL d mc ms kc ks (pc + 1) (l0 :: l1 :: .null :: L) st σ I) : ZG X own cc nL d mc ms kc ks pc (l0 :: l1 :: l2 :: L) (.null :: st) σ I :=
  z_astore_nN hd hn (zgd (j := 1) rfl hg) k
theorem z_lst2 {l0 l1 l2 l3 : Value} {x : Int64} (hd : decode cc pc = .ok (.lstore_n 2, 1)) (hn : 2 + 1 < nL) (hg : l1.category = 1) (k : ZG X own cc nL d mc ms kc ks (pc + 1) (l0 :: l1 :: .long x :: zj :: L) st σ I) : ZG X own cc nL d mc ms kc ks pc (l0 :: l1 :: l2 :: l3 :: L) (.long x :: st) σ I :=
  z_lstore_n hd hn (zgd (j := 1) rfl hg) k
theorem z_dst2 {l0 l1 l2 l3 : Value} {x : UInt64} (hd : decode cc pc = .ok (.dstore_n 2, 1)) (hn : 2 + 1 < nL) (hg : l1.category = 1) (k : ZG X own cc nL d mc ms kc ks (pc + 1) (l0 :: l1 :: .double x :: zj :: L) st σ I) : ZG X own cc nL d mc ms kc ks pc (l0 :: l1 :: l2 :: l3 :: L) (.double x :: st) σ I :=
  z_dstore_n hd hn (zgd (j := 1) rfl hg) k
theorem z_inc2 {l0 l1 : Value} {x w : Int32} {n : Int} (hd : decode cc pc = .ok (.iinc 2 n, 3)) (hw : Int32.ofInt n = w) (hn : 2 < nL) (hg : l1.category = 1) (k : ZG X own cc nL d mc ms kc ks (pc + 3) (l0 :: l1 :: .int (x + w) :: L) st σ I) : ZG X own cc nL d mc ms kc ks pc (l0 :: l1 :: .int x :: L) st σ I :=
  z_iinc (v := x + w) hd rfl (by rw [hw]) hn (zgd (j := 1) rfl hg) k
theorem z_fg2 {l0 l1 l2 : Value} (k : ZG X own cc nL d mc ms kc ks pc (l0 :: l1 :: zj :: L) st σ I) : ZG X own cc nL d mc ms kc ks pc (l0 :: l1 :: l2 :: L) st σ I :=
  z_forget (fun i u hu hv => by
    by_cases e : i = 2
    · subst e; cases hu; cases hv
    · have e2 : (l0 :: l1 :: zj :: L).set 2 l2 = l0 :: l1 :: l2 :: L := rfl
      rw [← e2, List.getElem?_set_ne (Ne.symm e)]; exact hu) k
theorem z_ist3 {l0 l1 l2 l3 : Value} {x : Int32} (hd : decode cc pc = .ok (.istore_n 3, 1)) (hn : 3 < nL) (hg : l2.category = 1) (k : ZG X own cc nL d mc ms kc ks (pc + 1) (l0 :: l1 :: l2 :: .int x :: L) st σ I) : ZG X own cc nL d mc ms kc ks pc (l0 :: l1 :: l2 :: l3 :: L) (.int x :: st) σ I :=
  z_istore_n hd hn (zgd (j := 2) rfl hg) k
theorem z_ast3 {l0 l1 l2 l3 : Value} {x : Nat} (hd : decode cc pc = .ok (.astore_n 3, 1)) (hn : 3 < nL) (hg : l2.category = 1) (k : ZG X own cc nL d mc ms kc ks (pc + 1) (l0 :: l1 :: l2 :: .ref x :: L) st σ I) : ZG X own cc nL d mc ms kc ks pc (l0 :: l1 :: l2 :: l3 :: L) (.ref x :: st) σ I :=
  z_astore_n hd hn (zgd (j := 2) rfl hg) k
theorem z_asn3 {l0 l1 l2 l3 : Value} (hd : decode cc pc = .ok (.astore_n 3, 1)) (hn : 3 < nL) (hg : l2.category = 1) (k : ZG X own cc nL d mc ms kc ks (pc + 1) (l0 :: l1 :: l2 :: .null :: L) st σ I) : ZG X own cc nL d mc ms kc ks pc (l0 :: l1 :: l2 :: l3 :: L) (.null :: st) σ I :=
  z_astore_nN hd hn (zgd (j := 2) rfl hg) k
theorem z_lst3 {l0 l1 l2 l3 l4 : Value} {x : Int64} (hd : decode cc pc = .ok (.lstore_n 3, 1)) (hn : 3 + 1 < nL) (hg : l2.category = 1) (k : ZG X own cc nL d mc ms kc ks (pc + 1) (l0 :: l1 :: l2 :: .long x :: zj :: L) st σ I) : ZG X own cc nL d mc ms kc ks pc (l0 :: l1 :: l2 :: l3 :: l4 :: L) (.long x :: st) σ I :=
  z_lstore_n hd hn (zgd (j := 2) rfl hg) k
theorem z_dst3 {l0 l1 l2 l3 l4 : Value} {x : UInt64} (hd : decode cc pc = .ok (.dstore_n 3, 1)) (hn : 3 + 1 < nL) (hg : l2.category = 1) (k : ZG X own cc nL d mc ms kc ks (pc + 1) (l0 :: l1 :: l2 :: .double x :: zj :: L) st σ I) : ZG X own cc nL d mc ms kc ks pc (l0 :: l1 :: l2 :: l3 :: l4 :: L) (.double x :: st) σ I :=
  z_dstore_n hd hn (zgd (j := 2) rfl hg) k
theorem z_inc3 {l0 l1 l2 : Value} {x w : Int32} {n : Int} (hd : decode cc pc = .ok (.iinc 3 n, 3)) (hw : Int32.ofInt n = w) (hn : 3 < nL) (hg : l2.category = 1) (k : ZG X own cc nL d mc ms kc ks (pc + 3) (l0 :: l1 :: l2 :: .int (x + w) :: L) st σ I) : ZG X own cc nL d mc ms kc ks pc (l0 :: l1 :: l2 :: .int x :: L) st σ I :=
  z_iinc (v := x + w) hd rfl (by rw [hw]) hn (zgd (j := 2) rfl hg) k
theorem z_fg3 {l0 l1 l2 l3 : Value} (k : ZG X own cc nL d mc ms kc ks pc (l0 :: l1 :: l2 :: zj :: L) st σ I) : ZG X own cc nL d mc ms kc ks pc (l0 :: l1 :: l2 :: l3 :: L) st σ I :=
  z_forget (fun i u hu hv => by
    by_cases e : i = 3
    · subst e; cases hu; cases hv
    · have e2 : (l0 :: l1 :: l2 :: zj :: L).set 3 l3 = l0 :: l1 :: l2 :: l3 :: L := rfl
      rw [← e2, List.getElem?_set_ne (Ne.symm e)]; exact hu) k
theorem z_ist4 {l0 l1 l2 l3 l4 : Value} {x : Int32} (hd : decode cc pc = .ok (.istore 4, 2)) (hn : 4 < nL) (hg : l3.category = 1) (k : ZG X own cc nL d mc ms kc ks (pc + 2) (l0 :: l1 :: l2 :: l3 :: .int x :: L) st σ I) : ZG X own cc nL d mc ms kc ks pc (l0 :: l1 :: l2 :: l3 :: l4 :: L) (.int x :: st) σ I :=
  z_istore hd hn (zgd (j := 3) rfl hg) k
theorem z_ast4 {l0 l1 l2 l3 l4 : Value} {x : Nat} (hd : decode cc pc = .ok (.astore 4, 2)) (hn : 4 < nL) (hg : l3.category = 1) (k : ZG X own cc nL d mc ms kc ks (pc + 2) (l0 :: l1 :: l2 :: l3 :: .ref x :: L) st σ I) : ZG X own cc nL d mc ms kc ks pc (l0 :: l1 :: l2 :: l3 :: l4 :: L) (.ref x :: st) σ I :=
  z_astore hd hn (zgd (j := 3) rfl hg) k
theorem z_asn4 {l0 l1 l2 l3 l4 : Value} (hd : decode cc pc = .ok (.astore 4, 2)) (hn : 4 < nL) (hg : l3.category = 1) (k : ZG X own cc nL d mc ms kc ks (pc + 2) (l0 :: l1 :: l2 :: l3 :: .null :: L) st σ I) : ZG X own cc nL d mc ms kc ks pc (l0 :: l1 :: l2 :: l3 :: l4 :: L) (.null :: st) σ I :=
  z_astoreN hd hn (zgd (j := 3) rfl hg) k
theorem z_lst4 {l0 l1 l2 l3 l4 l5 : Value} {x : Int64} (hd : decode cc pc = .ok (.lstore 4, 2)) (hn : 4 + 1 < nL) (hg : l3.category = 1) (k : ZG X own cc nL d mc ms kc ks (pc + 2) (l0 :: l1 :: l2 :: l3 :: .long x :: zj :: L) st σ I) : ZG X own cc nL d mc ms kc ks pc (l0 :: l1 :: l2 :: l3 :: l4 :: l5 :: L) (.long x :: st) σ I :=
  z_lstore hd hn (zgd (j := 3) rfl hg) k
theorem z_dst4 {l0 l1 l2 l3 l4 l5 : Value} {x : UInt64} (hd : decode cc pc = .ok (.dstore 4, 2)) (hn : 4 + 1 < nL) (hg : l3.category = 1) (k : ZG X own cc nL d mc ms kc ks (pc + 2) (l0 :: l1 :: l2 :: l3 :: .double x :: zj :: L) st σ I) : ZG X own cc nL d mc ms kc ks pc (l0 :: l1 :: l2 :: l3 :: l4 :: l5 :: L) (.double x :: st) σ I :=
  z_dstore hd hn (zgd (j := 3) rfl hg) k
theorem z_inc4 {l0 l1 l2 l3 : Value} {x w : Int32} {n : Int} (hd : decode cc pc = .ok (.iinc 4 n, 3)) (hw : Int32.ofInt n = w) (hn : 4 < nL) (hg : l3.category = 1) (k : ZG X own cc nL d mc ms kc ks (pc + 3) (l0 :: l1 :: l2 :: l3 :: .int (x + w) :: L) st σ I) : ZG X own cc nL d mc ms kc ks pc (l0 :: l1 :: l2 :: l3 :: .int x :: L) st σ I :=
  z_iinc (v := x + w) hd rfl (by rw [hw]) hn (zgd (j := 3) rfl hg) k
theorem z_fg4 {l0 l1 l2 l3 l4 : Value} (k : ZG X own cc nL d mc ms kc ks pc (l0 :: l1 :: l2 :: l3 :: zj :: L) st σ I) : ZG X own cc nL d mc ms kc ks pc (l0 :: l1 :: l2 :: l3 :: l4 :: L) st σ I :=
  z_forget (fun i u hu hv => by
    by_cases e : i = 4
    · subst e; cases hu; cases hv
    · have e2 : (l0 :: l1 :: l2 :: l3 :: zj :: L).set 4 l4 = l0 :: l1 :: l2 :: l3 :: l4 :: L := rfl
      rw [← e2, List.getElem?_set_ne (Ne.symm e)]; exact hu) k
theorem z_ist5 {l0 l1 l2 l3 l4 l5 : Value} {x : Int32} (hd : decode cc pc = .ok (.istore 5, 2)) (hn : 5 < nL) (hg : l4.category = 1) (k : ZG X own cc nL d mc ms kc ks (pc + 2) (l0 :: l1 :: l2 :: l3 :: l4 :: .int x :: L) st σ I) : ZG X own cc nL d mc ms kc ks pc (l0 :: l1 :: l2 :: l3 :: l4 :: l5 :: L) (.int x :: st) σ I :=
  z_istore hd hn (zgd (j := 4) rfl hg) k
theorem z_ast5 {l0 l1 l2 l3 l4 l5 : Value} {x : Nat} (hd : decode cc pc = .ok (.astore 5, 2)) (hn : 5 < nL) (hg : l4.category = 1) (k : ZG X own cc nL d mc ms kc ks (pc + 2) (l0 :: l1 :: l2 :: l3 :: l4 :: .ref x :: L) st σ I) : ZG X own cc nL d mc ms kc ks pc (l0 :: l1 :: l2 :: l3 :: l4 :: l5 :: L) (.ref x :: st) σ I :=
  z_astore hd hn (zgd (j := 4) rfl hg) k
theorem z_asn5 {l0 l1 l2 l3 l4 l5 : Value} (hd : decode cc pc = .ok (.astore 5, 2)) (hn : 5 < nL) (hg : l4.category = 1) (k : ZG X own cc nL d mc ms kc ks (pc + 2) (l0 :: l1 :: l2 :: l3 :: l4 :: .null :: L) st σ I) : ZG X own cc nL d mc ms kc ks pc (l0 :: l1 :: l2 :: l3 :: l4 :: l5 :: L) (.null :: st) σ I :=
  z_astoreN hd hn (zgd (j := 4) rfl hg) k
theorem z_lst5 {l0 l1 l2 l3 l4 l5 l6 : Value} {x : Int64} (hd : decode cc pc = .ok (.lstore 5, 2)) (hn : 5 + 1 < nL) (hg : l4.category = 1) (k : ZG X own cc nL d mc ms kc ks (pc + 2) (l0 :: l1 :: l2 :: l3 :: l4 :: .long x :: zj :: L) st σ I) : ZG X own cc nL d mc ms kc ks pc (l0 :: l1 :: l2 :: l3 :: l4 :: l5 :: l6 :: L) (.long x :: st) σ I :=
  z_lstore hd hn (zgd (j := 4) rfl hg) k
theorem z_dst5 {l0 l1 l2 l3 l4 l5 l6 : Value} {x : UInt64} (hd : decode cc pc = .ok (.dstore 5, 2)) (hn : 5 + 1 < nL) (hg : l4.category = 1) (k : ZG X own cc nL d mc ms kc ks (pc + 2) (l0 :: l1 :: l2 :: l3 :: l4 :: .double x :: zj :: L) st σ I) : ZG X own cc nL d mc ms kc ks pc (l0 :: l1 :: l2 :: l3 :: l4 :: l5 :: l6 :: L) (.double x :: st) σ I :=
  z_dstore hd hn (zgd (j := 4) rfl hg) k
theorem z_inc5 {l0 l1 l2 l3 l4 : Value} {x w : Int32} {n : Int} (hd : decode cc pc = .ok (.iinc 5 n, 3)) (hw : Int32.ofInt n = w) (hn : 5 < nL) (hg : l4.category = 1) (k : ZG X own cc nL d mc ms kc ks (pc + 3) (l0 :: l1 :: l2 :: l3 :: l4 :: .int (x + w) :: L) st σ I) : ZG X own cc nL d mc ms kc ks pc (l0 :: l1 :: l2 :: l3 :: l4 :: .int x :: L) st σ I :=
  z_iinc (v := x + w) hd rfl (by rw [hw]) hn (zgd (j := 4) rfl hg) k
theorem z_fg5 {l0 l1 l2 l3 l4 l5 : Value} (k : ZG X own cc nL d mc ms kc ks pc (l0 :: l1 :: l2 :: l3 :: l4 :: zj :: L) st σ I) : ZG X own cc nL d mc ms kc ks pc (l0 :: l1 :: l2 :: l3 :: l4 :: l5 :: L) st σ I :=
  z_forget (fun i u hu hv => by
    by_cases e : i = 5
    · subst e; cases hu; cases hv
    · have e2 : (l0 :: l1 :: l2 :: l3 :: l4 :: zj :: L).set 5 l5 = l0 :: l1 :: l2 :: l3 :: l4 :: l5 :: L := rfl
      rw [← e2, List.getElem?_set_ne (Ne.symm e)]; exact hu) k
theorem z_ist6 {l0 l1 l2 l3 l4 l5 l6 : Value} {x : Int32} (hd : decode cc pc = .ok (.istore 6, 2)) (hn : 6 < nL) (hg : l5.category = 1) (k : ZG X own cc nL d mc ms kc ks (pc + 2) (l0 :: l1 :: l2 :: l3 :: l4 :: l5 :: .int x :: L) st σ I) : ZG X own cc nL d mc ms kc ks pc (l0 :: l1 :: l2 :: l3 :: l4 :: l5 :: l6 :: L) (.int x :: st) σ I :=
  z_istore hd hn (zgd (j := 5) rfl hg) k
theorem z_ast6 {l0 l1 l2 l3 l4 l5 l6 : Value} {x : Nat} (hd : decode cc pc = .ok (.astore 6, 2)) (hn : 6 < nL) (hg : l5.category = 1) (k : ZG X own cc nL d mc ms kc ks (pc + 2) (l0 :: l1 :: l2 :: l3 :: l4 :: l5 :: .ref x :: L) st σ I) : ZG X own cc nL d mc ms kc ks pc (l0 :: l1 :: l2 :: l3 :: l4 :: l5 :: l6 :: L) (.ref x :: st) σ I :=
  z_astore hd hn (zgd (j := 5) rfl hg) k
theorem z_asn6 {l0 l1 l2 l3 l4 l5 l6 : Value} (hd : decode cc pc = .ok (.astore 6, 2)) (hn : 6 < nL) (hg : l5.category = 1) (k : ZG X own cc nL d mc ms kc ks (pc + 2) (l0 :: l1 :: l2 :: l3 :: l4 :: l5 :: .null :: L) st σ I) : ZG X own cc nL d mc ms kc ks pc (l0 :: l1 :: l2 :: l3 :: l4 :: l5 :: l6 :: L) (.null :: st) σ I :=
  z_astoreN hd hn (zgd (j := 5) rfl hg) k
theorem z_lst6 {l0 l1 l2 l3 l4 l5 l6 l7 : Value} {x : Int64} (hd : decode cc pc = .ok (.lstore 6, 2)) (hn : 6 + 1 < nL) (hg : l5.category = 1) (k : ZG X own cc nL d mc ms kc ks (pc + 2) (l0 :: l1 :: l2 :: l3 :: l4 :: l5 :: .long x :: zj :: L) st σ I) : ZG X own cc nL d mc ms kc ks pc (l0 :: l1 :: l2 :: l3 :: l4 :: l5 :: l6 :: l7 :: L) (.long x :: st) σ I :=
  z_lstore hd hn (zgd (j := 5) rfl hg) k
theorem z_dst6 {l0 l1 l2 l3 l4 l5 l6 l7 : Value} {x : UInt64} (hd : decode cc pc = .ok (.dstore 6, 2)) (hn : 6 + 1 < nL) (hg : l5.category = 1) (k : ZG X own cc nL d mc ms kc ks (pc + 2) (l0 :: l1 :: l2 :: l3 :: l4 :: l5 :: .double x :: zj :: L) st σ I) : ZG X own cc nL d mc ms kc ks pc (l0 :: l1 :: l2 :: l3 :: l4 :: l5 :: l6 :: l7 :: L) (.double x :: st) σ I :=
  z_dstore hd hn (zgd (j := 5) rfl hg) k
theorem z_inc6 {l0 l1 l2 l3 l4 l5 : Value} {x w : Int32} {n : Int} (hd : decode cc pc = .ok (.iinc 6 n, 3)) (hw : Int32.ofInt n = w) (hn : 6 < nL) (hg : l5.category = 1) (k : ZG X own cc nL d mc ms kc ks (pc + 3) (l0 :: l1 :: l2 :: l3 :: l4 :: l5 :: .int (x + w) :: L) st σ I) : ZG X own cc nL d mc ms kc ks pc (l0 :: l1 :: l2 :: l3 :: l4 :: l5 :: .int x :: L) st σ I :=
  z_iinc (v := x + w) hd rfl (by rw [hw]) hn (zgd (j := 5) rfl hg) k
theorem z_fg6 {l0 l1 l2 l3 l4 l5 l6 : Value} (k : ZG X own cc nL d mc ms kc ks pc (l0 :: l1 :: l2 :: l3 :: l4 :: l5 :: zj :: L) st σ I) : ZG X own cc nL d mc ms kc ks pc (l0 :: l1 :: l2 :: l3 :: l4 :: l5 :: l6 :: L) st σ I :=
  z_forget (fun i u hu hv => by
    by_cases e : i = 6
    · subst e; cases hu; cases hv
    · have e2 : (l0 :: l1 :: l2 :: l3 :: l4 :: l5 :: zj :: L).set 6 l6 = l0 :: l1 :: l2 :: l3 :: l4 :: l5 :: l6 :: L := rfl
      rw [← e2, List.getElem?_set_ne (Ne.symm e)]; exact hu) k
theorem z_ist7 {l0 l1 l2 l3 l4 l5 l6 l7 : Value} {x : Int32} (hd : decode cc pc = .ok (.istore 7, 2)) (hn : 7 < nL) (hg : l6.category = 1) (k : ZG X own cc nL d mc ms kc ks (pc + 2) (l0 :: l1 :: l2 :: l3 :: l4 :: l5 :: l6 :: .int x :: L) st σ I) : ZG X own cc nL d mc ms kc ks pc (l0 :: l1 :: l2 :: l3 :: l4 :: l5 :: l6 :: l7 :: L) (.int x :: st) σ I :=
  z_istore hd hn (zgd (j := 6) rfl hg) k
theorem z_ast7 {l0 l1 l2 l3 l4 l5 l6 l7 : Value} {x : Nat} (hd : decode cc pc = .ok (.astore 7, 2)) (hn : 7 < nL) (hg : l6.category = 1) (k : ZG X own cc nL d mc ms kc ks (pc + 2) (l0 :: l1 :: l2 :: l3 :: l4 :: l5 :: l6 :: .ref x :: L) st σ I) : ZG X own cc nL d mc ms kc ks pc (l0 :: l1 :: l2 :: l3 :: l4 :: l5 :: l6 :: l7 :: L) (.ref x :: st) σ I :=
  z_astore hd hn (zgd (j := 6) rfl hg) k
theorem z_asn7 {l0 l1 l2 l3 l4 l5 l6 l7 : Value} (hd : decode cc pc = .ok (.astore 7, 2)) (hn : 7 < nL) (hg : l6.category = 1) (k : ZG X own cc nL d mc ms kc ks (pc + 2) (l0 :: l1 :: l2 :: l3 :: l4 :: l5 :: l6 :: .null :: L) st σ I) : ZG X own cc nL d mc ms kc ks pc (l0 :: l1 :: l2 :: l3 :: l4 :: l5 :: l6 :: l7 :: L) (.null :: st) σ I :=
  z_astoreN hd hn (zgd (j := 6) rfl hg) k
theorem z_lst7 {l0 l1 l2 l3 l4 l5 l6 l7 l8 : Value} {x : Int64} (hd : decode cc pc = .ok (.lstore 7, 2)) (hn : 7 + 1 < nL) (hg : l6.category = 1) (k : ZG X own cc nL d mc ms kc ks (pc + 2) (l0 :: l1 :: l2 :: l3 :: l4 :: l5 :: l6 :: .long x :: zj :: L) st σ I) : ZG X own cc nL d mc ms kc ks pc (l0 :: l1 :: l2 :: l3 :: l4 :: l5 :: l6 :: l7 :: l8 :: L) (.long x :: st) σ I :=
  z_lstore hd hn (zgd (j := 6) rfl hg) k
theorem z_dst7 {l0 l1 l2 l3 l4 l5 l6 l7 l8 : Value} {x : UInt64} (hd : decode cc pc = .ok (.dstore 7, 2)) (hn : 7 + 1 < nL) (hg : l6.category = 1) (k : ZG X own cc nL d mc ms kc ks (pc + 2) (l0 :: l1 :: l2 :: l3 :: l4 :: l5 :: l6 :: .double x :: zj :: L) st σ I) : ZG X own cc nL d mc ms kc ks pc (l0 :: l1 :: l2 :: l3 :: l4 :: l5 :: l6 :: l7 :: l8 :: L) (.double x :: st) σ I :=
  z_dstore hd hn (zgd (j := 6) rfl hg) k
theorem z_inc7 {l0 l1 l2 l3 l4 l5 l6 : Value} {x w : Int32} {n : Int} (hd : decode cc pc = .ok (.iinc 7 n, 3)) (hw : Int32.ofInt n = w) (hn : 7 < nL) (hg : l6.category = 1) (k : ZG X own cc nL d mc ms kc ks (pc + 3) (l0 :: l1 :: l2 :: l3 :: l4 :: l5 :: l6 :: .int (x + w) :: L) st σ I) : ZG X own cc nL d mc ms kc ks pc (l0 :: l1 :: l2 :: l3 :: l4 :: l5 :: l6 :: .int x :: L) st σ I :=
  z_iinc (v := x + w) hd rfl (by rw [hw]) hn (zgd (j := 6) rfl hg) k
theorem z_fg7 {l0 l1 l2 l3 l4 l5 l6 l7 : Value} (k : ZG X own cc nL d mc ms kc ks pc (l0 :: l1 :: l2 :: l3 :: l4 :: l5 :: l6 :: zj :: L) st σ I) : ZG X own cc nL d mc ms kc ks pc (l0 :: l1 :: l2 :: l3 :: l4 :: l5 :: l6 :: l7 :: L) st σ I :=
  z_forget (fun i u hu hv => by
    by_cases e : i = 7
    · subst e; cases hu; cases hv
    · have e2 : (l0 :: l1 :: l2 :: l3 :: l4 :: l5 :: l6 :: zj :: L).set 7 l7 = l0 :: l1 :: l2 :: l3 :: l4 :: l5 :: l6 :: l7 :: L := rfl
      rw [← e2, List.getElem?_set_ne (Ne.symm e)]; exact hu) k
theorem z_ist8 {l0 l1 l2 l3 l4 l5 l6 l7 l8 : Value} {x : Int32} (hd : decode cc pc = .ok (.istore 8, 2)) (hn : 8 < nL) (hg : l7.category = 1) (k : ZG X own cc nL d mc ms kc ks (pc + 2) (l0 :: l1 :: l2 :: l3 :: l4 :: l5 :: l6 :: l7 :: .int x :: L) st σ I) : ZG X own cc nL d mc ms kc ks pc (l0 :: l1 :: l2 :: l3 :: l4 :: l5 :: l6 :: l7 :: l8 :: L) (.int x :: st) σ I :=
  z_istore hd hn (zgd (j := 7) rfl hg) k
theorem z_ast8 {l0 l1 l2 l3 l4 l5 l6 l7 l8 : Value} {x : Nat} (hd : decode cc pc = .ok (.astore 8, 2)) (hn : 8 < nL) (hg : l7.category = 1) (k : ZG X own cc nL d mc ms kc ks (pc + 2) (l0 :: l1 :: l2 :: l3 :: l4 :: l5 :: l6 :: l7 :: .ref x :: L) st σ I) : ZG X own cc nL d mc ms kc ks pc (l0 :: l1 :: l2 :: l3 :: l4 :: l5 :: l6 :: l7 :: l8 :: L) (.ref x :: st) σ I :=
  z_astore hd hn (zgd (j := 7) rfl hg) k
theorem z_asn8 {l0 l1 l2 l3 l4 l5 l6 l7 l8 : Value} (hd : decode cc pc = .ok (.astore 8, 2)) (hn : 8 < nL) (hg : l7.category = 1) (k : ZG X own cc nL d mc ms kc ks (pc + 2) (l0 :: l1 :: l2 :: l3 :: l4 :: l5 :: l6 :: l7 :: .null :: L) st σ I) : ZG X own cc nL d mc ms kc ks pc (l0 :: l1 :: l2 :: l3 :: l4 :: l5 :: l6 :: l7 :: l8 :: L) (.null :: st) σ I :=
  z_astoreN hd hn (zgd (j := 7) rfl hg) k
theorem z_lst8 {l0 l1 l2 l3 l4 l5 l6 l7 l8 l9 : Value} {x : Int64} (hd : decode cc pc = .ok (.lstore 8, 2)) (hn : 8 + 1 < nL) (hg : l7.category = 1) (k : ZG X own cc nL d mc ms kc ks (pc + 2) (l0 :: l1 :: l2 :: l3 :: l4 :: l5 :: l6 :: l7 :: .long x :: zj :: L) st σ I) : ZG X own cc nL d mc ms kc ks pc (l0 :: l1 :: l2 :: l3 :: l4 :: l5 :: l6 :: l7 :: l8 :: l9 :: L) (.long x :: st) σ I :=
  z_lstore hd hn (zgd (j := 7) rfl hg) k
theorem z_dst8 {l0 l1 l2 l3 l4 l5 l6 l7 l8 l9 : Value} {x : UInt64} (hd : decode cc pc = .ok (.dstore 8, 2)) (hn : 8 + 1 < nL) (hg : l7.category = 1) (k : ZG X own cc nL d mc ms kc ks (pc + 2) (l0 :: l1 :: l2 :: l3 :: l4 :: l5 :: l6 :: l7 :: .double x :: zj :: L) st σ I) : ZG X own cc nL d mc ms kc ks pc (l0 :: l1 :: l2 :: l3 :: l4 :: l5 :: l6 :: l7 :: l8 :: l9 :: L) (.double x :: st) σ I :=
  z_dstore hd hn (zgd (j := 7) rfl hg) k
theorem z_inc8 {l0 l1 l2 l3 l4 l5 l6 l7 : Value} {x w : Int32} {n : Int} (hd : decode cc pc = .ok (.iinc 8 n, 3)) (hw : Int32.ofInt n = w) (hn : 8 < nL) (hg : l7.category = 1) (k : ZG X own cc nL d mc ms kc ks (pc + 3) (l0 :: l1 :: l2 :: l3 :: l4 :: l5 :: l6 :: l7 :: .int (x + w) :: L) st σ I) : ZG X own cc nL d mc ms kc ks pc (l0 :: l1 :: l2 :: l3 :: l4 :: l5 :: l6 :: l7 :: .int x :: L) st σ I :=
  z_iinc (v := x + w) hd rfl (by rw [hw]) hn (zgd (j := 7) rfl hg) k
theorem z_fg8 {l0 l1 l2 l3 l4 l5 l6 l7 l8 : Value} (k : ZG X own cc nL d mc ms kc ks pc (l0 :: l1 :: l2 :: l3 :: l4 :: l5 :: l6 :: l7 :: zj :: L) st σ I) : ZG X own cc nL d mc ms kc ks pc (l0 :: l1 :: l2 :: l3 :: l4 :: l5 :: l6 :: l7 :: l8 :: L) st σ I :=
  z_forget (fun i u hu hv => by
    by_cases e : i = 8
    · subst e; cases hu; cases hv
    · have e2 : (l0 :: l1 :: l2 :: l3 :: l4 :: l5 :: l6 :: l7 :: zj :: L).set 8 l8 = l0 :: l1 :: l2 :: l3 :: l4 :: l5 :: l6 :: l7 :: l8 :: L := rfl
      rw [← e2, List.getElem?_set_ne (Ne.symm e)]; exact hu) k
theorem z_ist9 {l0 l1 l2 l3 l4 l5 l6 l7 l8 l9 : Value} {x : Int32} (hd : decode cc pc = .ok (.istore 9, 2)) (hn : 9 < nL) (hg : l8.category = 1) (k : ZG X own cc nL d mc ms kc ks (pc + 2) (l0 :: l1 :: l2 :: l3 :: l4 :: l5 :: l6 :: l7 :: l8 :: .int x :: L) st σ I) : ZG X own cc nL d mc ms kc ks pc (l0 :: l1 :: l2 :: l3 :: l4 :: l5 :: l6 :: l7 :: l8 :: l9 :: L) (.int x :: st) σ I :=
  z_istore hd hn (zgd (j := 8) rfl hg) k
theorem z_ast9 {l0 l1 l2 l3 l4 l5 l6 l7 l8 l9 : Value} {x : Nat} (hd : decode cc pc = .ok (.astore 9, 2)) (hn : 9 < nL) (hg : l8.category = 1) (k : ZG X own cc nL d mc ms kc ks (pc + 2) (l0 :: l1 :: l2 :: l3 :: l4 :: l5 :: l6 :: l7 :: l8 :: .ref x :: L) st σ I) : ZG X own cc nL d mc ms kc ks pc (l0 :: l1 :: l2 :: l3 :: l4 :: l5 :: l6 :: l7 :: l8 :: l9 :: L) (.ref x :: st) σ I :=
  z_astore hd hn (zgd (j := 8) rfl hg) k
theorem z_asn9 {l0 l1 l2 l3 l4 l5 l6 l7 l8 l9 : Value} (hd : decode cc pc = .ok (.astore 9, 2)) (hn : 9 < nL) (hg : l8.category = 1) (k : ZG X own cc nL d mc ms kc ks (pc + 2) (l0 :: l1 :: l2 :: l3 :: l4 :: l5 :: l6 :: l7 :: l8 :: .null :: L) st σ I) : ZG X own cc nL d mc ms kc ks pc (l0 :: l1 :: l2 :: l3 :: l4 :: l5 :: l6 :: l7 :: l8 :: l9 :: L) (.null :: st) σ I :=
  z_astoreN hd hn (zgd (j := 8) rfl hg) k
theorem z_lst9 {l0 l1 l2 l3 l4 l5 l6 l7 l8 l9 l10 : Value} {x : Int64} (hd : decode cc pc = .ok (.lstore 9, 2)) (hn : 9 + 1 < nL) (hg : l8.category = 1) (k : ZG X own cc nL d mc ms kc ks (pc + 2) (l0 :: l1 :: l2 :: l3 :: l4 :: l5 :: l6 :: l7 :: l8 :: .long x :: zj :: L) st σ I) : ZG X own cc nL d mc ms kc ks pc (l0 :: l1 :: l2 :: l3 :: l4 :: l5 :: l6 :: l7 :: l8 :: l9 :: l10 :: L) (.long x :: st) σ I :=
  z_lstore hd hn (zgd (j := 8) rfl hg) k
theorem z_dst9 {l0 l1 l2 l3 l4 l5 l6 l7 l8 l9 l10 : Value} {x : UInt64} (hd : decode cc pc = .ok (.dstore 9, 2)) (hn : 9 + 1 < nL) (hg : l8.category = 1) (k : ZG X own cc nL d mc ms kc ks (pc + 2) (l0 :: l1 :: l2 :: l3 :: l4 :: l5 :: l6 :: l7 :: l8 :: .double x :: zj :: L) st σ I) : ZG X own cc nL d mc ms kc ks pc (l0 :: l1 :: l2 :: l3 :: l4 :: l5 :: l6 :: l7 :: l8 :: l9 :: l10 :: L) (.double x :: st) σ I :=
  z_dstore hd hn (zgd (j := 8) rfl hg) k
theorem z_inc9 {l0 l1 l2 l3 l4 l5 l6 l7 l8 : Value} {x w : Int32} {n : Int} (hd : decode cc pc = .ok (.iinc 9 n, 3)) (hw : Int32.ofInt n = w) (hn : 9 < nL) (hg : l8.category = 1) (k : ZG X own cc nL d mc ms kc ks (pc + 3) (l0 :: l1 :: l2 :: l3 :: l4 :: l5 :: l6 :: l7 :: l8 :: .int (x + w) :: L) st σ I) : ZG X own cc nL d mc ms kc ks pc (l0 :: l1 :: l2 :: l3 :: l4 :: l5 :: l6 :: l7 :: l8 :: .int x :: L) st σ I :=
  z_iinc (v := x + w) hd rfl (by rw [hw]) hn (zgd (j := 8) rfl hg) k
theorem z_fg9 {l0 l1 l2 l3 l4 l5 l6 l7 l8 l9 : Value} (k : ZG X own cc nL d mc ms kc ks pc (l0 :: l1 :: l2 :: l3 :: l4 :: l5 :: l6 :: l7 :: l8 :: zj :: L) st σ I) : ZG X own cc nL d mc ms kc ks pc (l0 :: l1 :: l2 :: l3 :: l4 :: l5 :: l6 :: l7 :: l8 :: l9 :: L) st σ I :=
  z_forget (fun i u hu hv => by
    by_cases e : i = 9
    · subst e; cases hu; cases hv
    · have e2 : (l0 :: l1 :: l2 :: l3 :: l4 :: l5 :: l6 :: l7 :: l8 :: zj :: L).set 9 l9 = l0 :: l1 :: l2 :: l3 :: l4 :: l5 :: l6 :: l7 :: l8 :: l9 :: L := rfl
      rw [← e2, List.getElem?_set_ne (Ne.symm e)]; exact hu) k
theorem z_ist10 {l0 l1 l2 l3 l4 l5 l6 l7 l8 l9 l10 : Value} {x : Int32} (hd : decode cc pc = .ok (.istore 10, 2)) (hn : 10 < nL) (hg : l9.category = 1) (k : ZG X own cc nL d mc ms kc ks (pc + 2) (l0 :: l1 :: l2 :: l3 :: l4 :: l5 :: l6 :: l7 :: l8 :: l9 :: .int x :: L) st σ I) : ZG X own cc nL d mc ms kc ks pc (l0 :: l1 :: l2 :: l3 :: l4 :: l5 :: l6 :: l7 :: l8 :: l9 :: l10 :: L) (.int x :: st) σ I :=
  z_istore hd hn (zgd (j := 9) rfl hg) k
theorem z_ast10 {l0 l1 l2 l3 l4 l5 l6 l7 l8 l9 l10 : Value} {x : Nat} (hd : decode cc pc = .ok (.astore 10, 2)) (hn : 10 < nL) (hg : l9.category = 1) (k : ZG X own cc nL d mc ms kc ks (pc + 2) (l0 :: l1 :: l2 :: l3 :: l4 :: l5 :: l6 :: l7 :: l8 :: l9 :: .ref x :: L) st σ I) : ZG X own cc nL d mc ms kc ks pc (l0 :: l1 :: l2 :: l3 :: l4 :: l5 :: l6 :: l7 :: l8 :: l9 :: l10 :: L) (.ref x :: st) σ I :=
  z_astore hd hn (zgd (j := 9) rfl hg) k
theorem z_asn10 {l0 l1 l2 l3 l4 l5 l6 l7 l8 l9 l10 : Value} (hd : decode cc pc = .ok (.astore 10, 2)) (hn : 10 < nL) (hg : l9.category = 1) (k : ZG X own cc nL d mc ms kc ks (pc + 2) (l0 :: l1 :: l2 :: l3 :: l4 :: l5 :: l6 :: l7 :: l8 :: l9 :: .null :: L) st σ I) : ZG X own cc nL d mc ms kc ks pc (l0 :: l1 :: l2 :: l3 :: l4 :: l5 :: l6 :: l7 :: l8 :: l9 :: l10 :: L) (.null :: st) σ I :=
  z_astoreN hd hn (zgd (j := 9) rfl hg) k
theorem z_lst10 {l0 l1 l2 l3 l4 l5 l6 l7 l8 l9 l10 l11 : Value} {x : Int64} (hd : decode cc pc = .ok (.lstore 10, 2)) (hn : 10 + 1 < nL) (hg : l9.category = 1) (k : ZG X own cc nL d mc ms kc ks (pc + 2) (l0 :: l1 :: l2 :: l3 :: l4 :: l5 :: l6 :: l7 :: l8 :: l9 :: .long x :: zj :: L) st σ I) : ZG X own cc nL d mc ms kc ks pc (l0 :: l1 :: l2 :: l3 :: l4 :: l5 :: l6 :: l7 :: l8 :: l9 :: l10 :: l11 :: L) (.long x :: st) σ I :=
  z_lstore hd hn (zgd (j := 9) rfl hg) k
theorem z_dst10 {l0 l1 l2 l3 l4 l5 l6 l7 l8 l9 l10 l11 : Value} {x : UInt64} (hd : decode cc pc = .ok (.dstore 10, 2)) (hn : 10 + 1 < nL) (hg : l9.category = 1) (k : ZG X own cc nL d mc ms kc ks (pc + 2) (l0 :: l1 :: l2 :: l3 :: l4 :: l5 :: l6 :: l7 :: l8 :: l9 :: .double x :: zj :: L) st σ I) : ZG X own cc nL d mc ms kc ks pc (l0 :: l1 :: l2 :: l3 :: l4 :: l5 :: l6 :: l7 :: l8 :: l9 :: l10 :: l11 :: L) (.double x :: st) σ I :=
  z_dstore hd hn (zgd (j := 9) rfl hg) k
theorem z_inc10 {l0 l1 l2 l3 l4 l5 l6 l7 l8 l9 : Value} {x w : Int32} {n : Int} (hd : decode cc pc = .ok (.iinc 10 n, 3)) (hw : Int32.ofInt n = w) (hn : 10 < nL) (hg : l9.category = 1) (k : ZG X own cc nL d mc ms kc ks (pc + 3) (l0 :: l1 :: l2 :: l3 :: l4 :: l5 :: l6 :: l7 :: l8 :: l9 :: .int (x + w) :: L) st σ I) : ZG X own cc nL d mc ms kc ks pc (l0 :: l1 :: l2 :: l3 :: l4 :: l5 :: l6 :: l7 :: l8 :: l9 :: .int x :: L) st σ I :=
  z_iinc (v := x + w) hd rfl (by rw [hw]) hn (zgd (j := 9) rfl hg) k
theorem z_fg10 {l0 l1 l2 l3 l4 l5 l6 l7 l8 l9 l10 : Value} (k : ZG X own cc nL d mc ms kc ks pc (l0 :: l1 :: l2 :: l3 :: l4 :: l5 :: l6 :: l7 :: l8 :: l9 :: zj :: L) st σ I) : ZG X own cc nL d mc ms kc ks pc (l0 :: l1 :: l2 :: l3 :: l4 :: l5 :: l6 :: l7 :: l8 :: l9 :: l10 :: L) st σ I :=
  z_forget (fun i u hu hv => by
    by_cases e : i = 10
    · subst e; cases hu; cases hv
    · have e2 : (l0 :: l1 :: l2 :: l3 :: l4 :: l5 :: l6 :: l7 :: l8 :: l9 :: zj :: L).set 10 l10 = l0 :: l1 :: l2 :: l3 :: l4 :: l5 :: l6 :: l7 :: l8 :: l9 :: l10 :: L := rfl
      rw [← e2, List.getElem?_set_ne (Ne.symm e)]; exact hu) k
theorem z_eireturn {v v' : Int32} {I' : ZI} (hE : ZEnd X (some .int) mc ms (fun r0 σ0 I0 => r0 = some (.int v') ∧ σ0 = σ ∧ I0 = I')) (hd : decode cc pc = .ok (.ireturn, 1)) (hv : v = v') (hI : I = I') : ZG X own cc nL d mc ms mc ms pc L [.int v] σ I :=
  z_iret hE hd ⟨by rw [hv], rfl, hI⟩
theorem z_elreturn {v v' : Int64} {I' : ZI} (hE : ZEnd X (some .long) mc ms (fun r0 σ0 I0 => r0 = some (.long v') ∧ σ0 = σ ∧ I0 = I')) (hd : decode cc pc = .ok (.lreturn, 1)) (hv : v = v') (hI : I = I') : ZG X own cc nL d mc ms mc ms pc L [.long v] σ I :=
  z_lret hE hd ⟨by rw [hv], rfl, hI⟩
theorem z_efreturn {v v' : UInt32} {I' : ZI} (hE : ZEnd X (some .float) mc ms (fun r0 σ0 I0 => r0 = some (.float v') ∧ σ0 = σ ∧ I0 = I')) (hd : decode cc pc = .ok (.freturn, 1)) (hv : v = v') (hI : I = I') : ZG X own cc nL d mc ms mc ms pc L [.float v] σ I :=
  z_fret hE hd ⟨by rw [hv], rfl, hI⟩
theorem z_ezreturn {v v' : Int32} {I' : ZI} (hE : ZEnd X (some .boolean) mc ms (fun r0 σ0 I0 => r0 = some (.int v') ∧ σ0 = σ ∧ I0 = I')) (hd : decode cc pc = .ok (.ireturn, 1)) (h01 : v = 0 ∨ v = 1) (hv : v = v') (hI : I = I') : ZG X own cc nL d mc ms mc ms pc L [.int v] σ I :=
  z_zret hE hd (by rcases h01 with rfl | rfl <;> rfl) ⟨by rw [hv], rfl, hI⟩
theorem z_evreturn {I' : ZI} (hE : ZEnd X none mc ms (fun r0 σ0 I0 => r0 = none ∧ σ0 = σ ∧ I0 = I')) (hd : decode cc pc = .ok (.return_, 1)) (hI : I = I') : ZG X own cc nL d mc ms mc ms pc L [] σ I :=
  z_vret hE hd ⟨rfl, rfl, hI⟩
theorem zup_z (I : ZI) (a k : Nat) (x : Int32) (q : Nat) : zup I a k x q = if q = a then upd (I a) k x else I q := rfl
theorem zcp_z (I : ZI) (a : Nat) (f : Nat → Int32) (q : Nat) : zcp I a f q = if q = a then f else I q := rfl
theorem zup_zcp (I : ZI) (a k : Nat) (x : Int32) : zup I a k x = zcp I a (upd (I a) k x) := rfl
theorem zcp_same (I : ZI) (a : Nat) : zcp I a (I a) = I := by
  funext q
  by_cases h : q = a
  · subst h; exact if_pos rfl
  · exact if_neg h
theorem zcp_at (I : ZI) (a : Nat) (f : Nat → Int32) : zcp I a f a = f := if_pos rfl
theorem zcp_ne (I : ZI) {a q : Nat} (f : Nat → Int32) (h : q ≠ a) : zcp I a f q = I q := if_neg h
theorem zcp_zcp (I : ZI) (a : Nat) (f g : Nat → Int32) : zcp (zcp I a f) a g = zcp I a g := by
  funext q
  by_cases h : q = a
  · subst h; rw [zcp_at, zcp_at]
  · rw [zcp_ne _ _ h, zcp_ne _ _ h, zcp_ne _ _ h]
theorem upd_at (f : Nat → Int32) (k : Nat) (x : Int32) : upd f k x k = x := if_pos rfl
theorem upd_ne (f : Nat → Int32) {k j : Nat} (x : Int32) (h : j ≠ k) : upd f k x j = f j := if_neg h
end ZC1

