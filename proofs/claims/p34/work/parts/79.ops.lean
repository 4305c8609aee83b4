/-! ===== more rules of the small machine ===== -/
section ZO
variable {X : ZX} {own : String} {cc : ByteArray} {nL d mc ms kc ks pc : Nat} {L st : List Value} {σ : List ZC} {I : ZI}

theorem z_ior {x y : Int32} (hd : decode cc pc = .ok (.ior, 1))
    (k : ZG X own cc nL d mc ms kc ks (pc + 1) L (.int (x ||| y) :: st) σ I) : ZG X own cc nL d mc ms kc ks pc L (.int y :: .int x :: st) σ I := by
  obtain ⟨p, l, e, R, s, m, args, below, meth, c, Q, cy, D, b⟩ := X
  intro hX H locs ls hH hz hS hl
  exact lv_ior hX.1 hX.2.1 hd (k hX H locs ls hH hz hS hl)
theorem z_ineg {x : Int32} (hd : decode cc pc = .ok (.ineg, 1))
    (k : ZG X own cc nL d mc ms kc ks (pc + 1) L (.int (-x) :: st) σ I) : ZG X own cc nL d mc ms kc ks pc L (.int x :: st) σ I := by
  obtain ⟨p, l, e, R, s, m, args, below, meth, c, Q, cy, D, b⟩ := X
  intro hX H locs ls hH hz hS hl
  exact lv_ineg hX.1 hX.2.1 hd (k hX H locs ls hH hz hS hl)
theorem z_fcmp {x y : UInt32} {op : CmpOp} (hd : decode cc pc = .ok (.fcmp op, 1))
    (k : ZG X own cc nL d mc ms kc ks (pc + 1) L (.int (Op.cmpValue (FP.fcmp x y) op) :: st) σ I) : ZG X own cc nL d mc ms kc ks pc L (.float y :: .float x :: st) σ I := by
  obtain ⟨p, l, e, R, s, m, args, below, meth, c, Q, cy, D, b⟩ := X
  intro hX H locs ls hH hz hS hl
  exact lv_fcmp hX.1 hX.2.1 hd (k hX H locs ls hH hz hS hl)
theorem z_fconst1  (hd : decode cc pc = .ok (.fconst 1, 1))
    (k : ZG X own cc nL d mc ms kc ks (pc + 1) L (.float FP.fconst1 :: st) σ I) : ZG X own cc nL d mc ms kc ks pc L (st) σ I := by
  obtain ⟨p, l, e, R, s, m, args, below, meth, c, Q, cy, D, b⟩ := X
  intro hX H locs ls hH hz hS hl
  exact lv_fconst1 hX.1 hX.2.1 hd (k hX H locs ls hH hz hS hl)
theorem z_fload {j : Nat} {x : UInt32} (hd : decode cc pc = .ok (.fload j, 2)) (hk : L[j]? = some (.float x)) (k : ZG X own cc nL d mc ms kc ks (pc + 2) L (.float x :: st) σ I) : ZG X own cc nL d mc ms kc ks pc L st σ I := by
  obtain ⟨p, l, e, R, s, m, args, below, meth, c, Q, cy, D, b⟩ := X
  intro hX H locs ls hH hz hS hl
  exact lv_fload hX.1 hX.2.1 hd (zlv_at hl hk rfl) (k hX H locs ls hH hz hS hl)
theorem z_fstore {j : Nat} {x : UInt32} (hd : decode cc pc = .ok (.fstore j, 2)) (hj : j < nL) (hg : ∀ i u, L[i]? = some u → i + 1 = j → u.category = 1) (k : ZG X own cc nL d mc ms kc ks (pc + 2) (L.set j (.float x)) st σ I) : ZG X own cc nL d mc ms kc ks pc L (.float x :: st) σ I := by
  obtain ⟨p, l, e, R, s, m, args, below, meth, c, Q, cy, D, b⟩ := X
  intro hX H locs ls hH hz hS hl
  exact lv_fstore hX.1 hX.2.1 hd hl hj rfl (fun ls' hl' => k hX H locs ls' hH hz hS (zlv_st1 (v := .float x) hg hl'))
theorem z_ist11 {l0 l1 l2 l3 l4 l5 l6 l7 l8 l9 l10 l11 : Value} {x : Int32} (hd : decode cc pc = .ok (.istore 11, 2)) (hn : 11 < nL) (hg : l10.category = 1) (k : ZG X own cc nL d mc ms kc ks (pc + 2) (l0 :: l1 :: l2 :: l3 :: l4 :: l5 :: l6 :: l7 :: l8 :: l9 :: l10 :: .int x :: L) st σ I) : ZG X own cc nL d mc ms kc ks pc (l0 :: l1 :: l2 :: l3 :: l4 :: l5 :: l6 :: l7 :: l8 :: l9 :: l10 :: l11 :: L) (.int x :: st) σ I :=
  z_istore hd hn (zgd (j := 10) rfl hg) k
theorem z_inc11 {l0 l1 l2 l3 l4 l5 l6 l7 l8 l9 l10 : Value} {x w : Int32} {n : Int} (hd : decode cc pc = .ok (.iinc 11 n, 3)) (hw : Int32.ofInt n = w) (hn : 11 < nL) (hg : l10.category = 1) (k : ZG X own cc nL d mc ms kc ks (pc + 3) (l0 :: l1 :: l2 :: l3 :: l4 :: l5 :: l6 :: l7 :: l8 :: l9 :: l10 :: .int (x + w) :: L) st σ I) : ZG X own cc nL d mc ms kc ks pc (l0 :: l1 :: l2 :: l3 :: l4 :: l5 :: l6 :: l7 :: l8 :: l9 :: l10 :: .int x :: L) st σ I :=
  z_iinc (v := x + w) hd rfl (by rw [hw]) hn (zgd (j := 10) rfl hg) k
theorem z_ist12 {l0 l1 l2 l3 l4 l5 l6 l7 l8 l9 l10 l11 l12 : Value} {x : Int32} (hd : decode cc pc = .ok (.istore 12, 2)) (hn : 12 < nL) (hg : l11.category = 1) (k : ZG X own cc nL d mc ms kc ks (pc + 2) (l0 :: l1 :: l2 :: l3 :: l4 :: l5 :: l6 :: l7 :: l8 :: l9 :: l10 :: l11 :: .int x :: L) st σ I) : ZG X own cc nL d mc ms kc ks pc (l0 :: l1 :: l2 :: l3 :: l4 :: l5 :: l6 :: l7 :: l8 :: l9 :: l10 :: l11 :: l12 :: L) (.int x :: st) σ I :=
  z_istore hd hn (zgd (j := 11) rfl hg) k
theorem z_inc12 {l0 l1 l2 l3 l4 l5 l6 l7 l8 l9 l10 l11 : Value} {x w : Int32} {n : Int} (hd : decode cc pc = .ok (.iinc 12 n, 3)) (hw : Int32.ofInt n = w) (hn : 12 < nL) (hg : l11.category = 1) (k : ZG X own cc nL d mc ms kc ks (pc + 3) (l0 :: l1 :: l2 :: l3 :: l4 :: l5 :: l6 :: l7 :: l8 :: l9 :: l10 :: l11 :: .int (x + w) :: L) st σ I) : ZG X own cc nL d mc ms kc ks pc (l0 :: l1 :: l2 :: l3 :: l4 :: l5 :: l6 :: l7 :: l8 :: l9 :: l10 :: l11 :: .int x :: L) st σ I :=
  z_iinc (v := x + w) hd rfl (by rw [hw]) hn (zgd (j := 11) rfl hg) k
theorem z_ist13 {l0 l1 l2 l3 l4 l5 l6 l7 l8 l9 l10 l11 l12 l13 : Value} {x : Int32} (hd : decode cc pc = .ok (.istore 13, 2)) (hn : 13 < nL) (hg : l12.category = 1) (k : ZG X own cc nL d mc ms kc ks (pc + 2) (l0 :: l1 :: l2 :: l3 :: l4 :: l5 :: l6 :: l7 :: l8 :: l9 :: l10 :: l11 :: l12 :: .int x :: L) st σ I) : ZG X own cc nL d mc ms kc ks pc (l0 :: l1 :: l2 :: l3 :: l4 :: l5 :: l6 :: l7 :: l8 :: l9 :: l10 :: l11 :: l12 :: l13 :: L) (.int x :: st) σ I :=
  z_istore hd hn (zgd (j := 12) rfl hg) k
theorem z_inc13 {l0 l1 l2 l3 l4 l5 l6 l7 l8 l9 l10 l11 l12 : Value} {x w : Int32} {n : Int} (hd : decode cc pc = .ok (.iinc 13 n, 3)) (hw : Int32.ofInt n = w) (hn : 13 < nL) (hg : l12.category = 1) (k : ZG X own cc nL d mc ms kc ks (pc + 3) (l0 :: l1 :: l2 :: l3 :: l4 :: l5 :: l6 :: l7 :: l8 :: l9 :: l10 :: l11 :: l12 :: .int (x + w) :: L) st σ I) : ZG X own cc nL d mc ms kc ks pc (l0 :: l1 :: l2 :: l3 :: l4 :: l5 :: l6 :: l7 :: l8 :: l9 :: l10 :: l11 :: l12 :: .int x :: L) st σ I :=
  z_iinc (v := x + w) hd rfl (by rw [hw]) hn (zgd (j := 12) rfl hg) k
theorem z_fst5 {l0 l1 l2 l3 l4 l5 : Value} {x : UInt32} (hd : decode cc pc = .ok (.fstore 5, 2)) (hn : 5 < nL) (hg : l4.category = 1) (k : ZG X own cc nL d mc ms kc ks (pc + 2) (l0 :: l1 :: l2 :: l3 :: l4 :: .float x :: L) st σ I) : ZG X own cc nL d mc ms kc ks pc (l0 :: l1 :: l2 :: l3 :: l4 :: l5 :: L) (.float x :: st) σ I :=
  z_fstore hd hn (zgd (j := 4) rfl hg) k
end ZO
