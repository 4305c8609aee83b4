/-! ===== the law's rules: as the small machine's, with the script in the first local ===== -/
def YG (bs : Nat) (X : ZX) (own : String) (cc : ByteArray) (nL d mc ms kc ks pc : Nat) (L st : List Value) (σ : List ZC) (I : ZI) : Prop := match X with
  | (p, l, e, R, s, m, args, below, meth, c, Q, cy, D, b) =>
    ZOK (p, l, e, R, s, m, args, below, meth, c, Q, cy, D, b) own cc nL d mc ms → ∀ (H : Heap) (locs : List Loc) (ls : Array Slot), ZH cy D b σ I H → b + σ.length = s.heap.size + kc → va_S (ZA b) s.heap H locs → lv_has ls nL (zlv b 0 L) → ls[0]? = some (.val (.ref bs)) →
      W p l e R s m args below meth c H locs kc ks Q (F0 m pc ls (st.map (zren b)))
/-- the script of Ls ints xs lies at bs, ahead of all cells of ours -/
def YS (bs Ls : Nat) (xs : Nat → Int32) (X : ZX) : Prop := match X with
  | (_, _, _, _, s, _, _, _, _, _, _, _, _, b) => va_X bs Ls xs s s.heap ∧ bs < s.heap.size ∧ ¬ ZA b bs
theorem y_has {b nL bs : Nat} {ls : Array Slot} {L : List Value} (hl : lv_has ls nL (zlv b 0 L)) (h0 : ls[0]? = some (.val (.ref bs))) : lv_has ls nL ((0, Value.ref bs) :: zlv b 0 L) :=
  ⟨hl.1, hl.2.1, fun q hq => by
    rcases List.mem_cons.mp hq with rfl | hq
    · exact h0
    · exact hl.2.2 q hq⟩
theorem y_less {nL bs : Nat} {ls : Array Slot} {k : Nat} {v : Value} {l : List (Nat × Value)} {f : Nat × Value → Bool} (hf : f (0, Value.ref bs) = true) (h : lv_has ls nL ((k, v) :: ((0, Value.ref bs) :: l).filter f)) : lv_has ls nL ((k, v) :: l.filter f) ∧ ls[0]? = some (.val (.ref bs)) := by
  rw [List.filter_cons_of_pos hf] at h
  refine ⟨⟨h.1, h.2.1, fun q hq => h.2.2 q ?_⟩, h.2.2 (0, .ref bs) (List.mem_cons_of_mem _ List.mem_cons_self)⟩
  rcases List.mem_cons.mp hq with rfl | hq
  · exact List.mem_cons_self
  · exact List.mem_cons_of_mem _ (List.mem_cons_of_mem _ hq)
section YR
variable {bs : Nat} {X : ZX} {own : String} {cc : ByteArray} {nL d mc ms kc ks pc : Nat} {L st : List Value} {σ : List ZC} {I : ZI}
theorem y_k {kc' ks' : Nat} (h1 : kc = kc') (h2 : ks = ks') (k : YG bs X own cc nL d mc ms kc' ks' pc L st σ I) : YG bs X own cc nL d mc ms kc ks pc L st σ I := by
  subst h1
  subst h2
  exact k
theorem y_sg {σ' : List ZC} (h : σ = σ') (k : YG bs X own cc nL d mc ms kc ks pc L st σ' I) : YG bs X own cc nL d mc ms kc ks pc L st σ I := by
  subst h
  exact k
theorem y_eq {I' : ZI} (h : I = I') (k : YG bs X own cc nL d mc ms kc ks pc L st σ I') : YG bs X own cc nL d mc ms kc ks pc L st σ I := h ▸ k
theorem y_iconst {n : Int} {v : Int32} (hd : decode cc pc = .ok (.iconst n, 1)) (hv : Int32.ofInt n = v)
    (k : YG bs X own cc nL d mc ms kc ks (pc + 1) L (.int v :: st) σ I) : YG bs X own cc nL d mc ms kc ks pc L (st) σ I := by
  obtain ⟨p, l, e, R, s, m, args, below, meth, c, Q, cy, D, b⟩ := X
  intro hX H locs ls hH hz hS hl h0
  exact lv_iconst hX.1 hX.2.1 hd hv (k hX H locs ls hH hz hS hl h0)
theorem y_bipush {n : Int} {v : Int32} (hd : decode cc pc = .ok (.bipush n, 2)) (hv : (Int8.ofInt n).toInt32 = v)
    (k : YG bs X own cc nL d mc ms kc ks (pc + 2) L (.int v :: st) σ I) : YG bs X own cc nL d mc ms kc ks pc L (st) σ I := by
  obtain ⟨p, l, e, R, s, m, args, below, meth, c, Q, cy, D, b⟩ := X
  intro hX H locs ls hH hz hS hl h0
  exact lv_bipush hX.1 hX.2.1 hd hv (k hX H locs ls hH hz hS hl h0)
theorem y_sipush {n : Int} {v : Int32} (hd : decode cc pc = .ok (.sipush n, 3)) (hv : (Int16.ofInt n).toInt32 = v)
    (k : YG bs X own cc nL d mc ms kc ks (pc + 3) L (.int v :: st) σ I) : YG bs X own cc nL d mc ms kc ks pc L (st) σ I := by
  obtain ⟨p, l, e, R, s, m, args, below, meth, c, Q, cy, D, b⟩ := X
  intro hX H locs ls hH hz hS hl h0
  exact lv_sipush hX.1 hX.2.1 hd hv (k hX H locs ls hH hz hS hl h0)
theorem y_iadd {x y : Int32} (hd : decode cc pc = .ok (.iadd, 1)) 
    (k : YG bs X own cc nL d mc ms kc ks (pc + 1) L (.int (x + y) :: st) σ I) : YG bs X own cc nL d mc ms kc ks pc L (.int y :: .int x :: st) σ I := by
  obtain ⟨p, l, e, R, s, m, args, below, meth, c, Q, cy, D, b⟩ := X
  intro hX H locs ls hH hz hS hl h0
  exact lv_iadd hX.1 hX.2.1 hd  (k hX H locs ls hH hz hS hl h0)
theorem y_isub {x y : Int32} (hd : decode cc pc = .ok (.isub, 1)) 
    (k : YG bs X own cc nL d mc ms kc ks (pc + 1) L (.int (x - y) :: st) σ I) : YG bs X own cc nL d mc ms kc ks pc L (.int y :: .int x :: st) σ I := by
  obtain ⟨p, l, e, R, s, m, args, below, meth, c, Q, cy, D, b⟩ := X
  intro hX H locs ls hH hz hS hl h0
  exact lv_isub hX.1 hX.2.1 hd  (k hX H locs ls hH hz hS hl h0)
theorem y_imul {x y : Int32} (hd : decode cc pc = .ok (.imul, 1)) 
    (k : YG bs X own cc nL d mc ms kc ks (pc + 1) L (.int (x * y) :: st) σ I) : YG bs X own cc nL d mc ms kc ks pc L (.int y :: .int x :: st) σ I := by
  obtain ⟨p, l, e, R, s, m, args, below, meth, c, Q, cy, D, b⟩ := X
  intro hX H locs ls hH hz hS hl h0
  exact lv_imul hX.1 hX.2.1 hd  (k hX H locs ls hH hz hS hl h0)
theorem y_iand {x y : Int32} (hd : decode cc pc = .ok (.iand, 1)) 
    (k : YG bs X own cc nL d mc ms kc ks (pc + 1) L (.int (x &&& y) :: st) σ I) : YG bs X own cc nL d mc ms kc ks pc L (.int y :: .int x :: st) σ I := by
  obtain ⟨p, l, e, R, s, m, args, below, meth, c, Q, cy, D, b⟩ := X
  intro hX H locs ls hH hz hS hl h0
  exact lv_iand hX.1 hX.2.1 hd  (k hX H locs ls hH hz hS hl h0)
theorem y_ishl {x y : Int32} (hd : decode cc pc = .ok (.ishl, 1)) 
    (k : YG bs X own cc nL d mc ms kc ks (pc + 1) L (.int (x <<< (y &&& 31)) :: st) σ I) : YG bs X own cc nL d mc ms kc ks pc L (.int y :: .int x :: st) σ I := by
  obtain ⟨p, l, e, R, s, m, args, below, meth, c, Q, cy, D, b⟩ := X
  intro hX H locs ls hH hz hS hl h0
  exact lv_ishl hX.1 hX.2.1 hd  (k hX H locs ls hH hz hS hl h0)
theorem y_ishr {x y : Int32} (hd : decode cc pc = .ok (.ishr, 1)) 
    (k : YG bs X own cc nL d mc ms kc ks (pc + 1) L (.int (x >>> (y &&& 31)) :: st) σ I) : YG bs X own cc nL d mc ms kc ks pc L (.int y :: .int x :: st) σ I := by
  obtain ⟨p, l, e, R, s, m, args, below, meth, c, Q, cy, D, b⟩ := X
  intro hX H locs ls hH hz hS hl h0
  exact lv_ishr hX.1 hX.2.1 hd  (k hX H locs ls hH hz hS hl h0)
theorem y_i2l {x : Int32} (hd : decode cc pc = .ok (.i2l, 1)) 
    (k : YG bs X own cc nL d mc ms kc ks (pc + 1) L (.long x.toInt64 :: st) σ I) : YG bs X own cc nL d mc ms kc ks pc L (.int x :: st) σ I := by
  obtain ⟨p, l, e, R, s, m, args, below, meth, c, Q, cy, D, b⟩ := X
  intro hX H locs ls hH hz hS hl h0
  exact lv_i2l hX.1 hX.2.1 hd rfl (k hX H locs ls hH hz hS hl h0)
theorem y_ladd {x y : Int64} (hd : decode cc pc = .ok (.ladd, 1)) 
    (k : YG bs X own cc nL d mc ms kc ks (pc + 1) L (.long (x + y) :: st) σ I) : YG bs X own cc nL d mc ms kc ks pc L (.long y :: .long x :: st) σ I := by
  obtain ⟨p, l, e, R, s, m, args, below, meth, c, Q, cy, D, b⟩ := X
  intro hX H locs ls hH hz hS hl h0
  exact lv_ladd hX.1 hX.2.1 hd  (k hX H locs ls hH hz hS hl h0)
theorem y_i2f {x : Int32} (hd : decode cc pc = .ok (.i2f, 1)) 
    (k : YG bs X own cc nL d mc ms kc ks (pc + 1) L (.float (FP.i2f x) :: st) σ I) : YG bs X own cc nL d mc ms kc ks pc L (.int x :: st) σ I := by
  obtain ⟨p, l, e, R, s, m, args, below, meth, c, Q, cy, D, b⟩ := X
  intro hX H locs ls hH hz hS hl h0
  exact lv_i2f hX.1 hX.2.1 hd  (k hX H locs ls hH hz hS hl h0)
theorem y_ineg {x : Int32} (hd : decode cc pc = .ok (.ineg, 1))
    (k : YG bs X own cc nL d mc ms kc ks (pc + 1) L (.int (-x) :: st) σ I) : YG bs X own cc nL d mc ms kc ks pc L (.int x :: st) σ I := by
  obtain ⟨p, l, e, R, s, m, args, below, meth, c, Q, cy, D, b⟩ := X
  intro hX H locs ls hH hz hS hl h0
  exact lv_ineg hX.1 hX.2.1 hd (k hX H locs ls hH hz hS hl h0)
theorem y_fcmp {x y : UInt32} {op : CmpOp} (hd : decode cc pc = .ok (.fcmp op, 1))
    (k : YG bs X own cc nL d mc ms kc ks (pc + 1) L (.int (Op.cmpValue (FP.fcmp x y) op) :: st) σ I) : YG bs X own cc nL d mc ms kc ks pc L (.float y :: .float x :: st) σ I := by
  obtain ⟨p, l, e, R, s, m, args, below, meth, c, Q, cy, D, b⟩ := X
  intro hX H locs ls hH hz hS hl h0
  exact lv_fcmp hX.1 hX.2.1 hd (k hX H locs ls hH hz hS hl h0)
theorem y_fconst0  (hd : decode cc pc = .ok (.fconst 0, 1)) 
    (k : YG bs X own cc nL d mc ms kc ks (pc + 1) L (.float FP.fconst0 :: st) σ I) : YG bs X own cc nL d mc ms kc ks pc L (st) σ I := by
  obtain ⟨p, l, e, R, s, m, args, below, meth, c, Q, cy, D, b⟩ := X
  intro hX H locs ls hH hz hS hl h0
  exact lv_fconst0 hX.1 hX.2.1 hd  (k hX H locs ls hH hz hS hl h0)
theorem y_lcmp {x y : Int64} (hd : decode cc pc = .ok (.lcmp, 1))
    (k : YG bs X own cc nL d mc ms kc ks (pc + 1) L (.int (lg_cmp x y) :: st) σ I) : YG bs X own cc nL d mc ms kc ks pc L (.long y :: .long x :: st) σ I := by
  obtain ⟨p, l, e, R, s, m, args, below, meth, c, Q, cy, D, b⟩ := X
  intro hX H locs ls hH hz hS hl h0
  exact W.lcmp hX.1 hX.2.1 hd (k hX H locs ls hH hz hS hl h0)
theorem y_dup {v : Value} (hd : decode cc pc = .ok (.dup, 1)) (hv : v.category = 1)
    (k : YG bs X own cc nL d mc ms kc ks (pc + 1) L (v :: v :: st) σ I) : YG bs X own cc nL d mc ms kc ks pc L (v :: st) σ I := by
  obtain ⟨p, l, e, R, s, m, args, below, meth, c, Q, cy, D, b⟩ := X
  intro hX H locs ls hH hz hS hl h0
  exact lv_dup hX.1 hX.2.1 hd (by rw [zren_cat]; exact hv) (k hX H locs ls hH hz hS hl h0)
theorem y_ldc {index : Nat} {v : Int32} (hw : Cond.constant own index v ∈ lw_tbl) (hd : decode cc pc = .ok (.ldc index, 2))
    (k : YG bs X own cc nL d mc ms kc ks (pc + 2) L (.int v :: st) σ I) : YG bs X own cc nL d mc ms kc ks pc L st σ I := by
  obtain ⟨p, l, e, R, s, m, args, below, meth, c, Q, cy, D, b⟩ := X
  intro hX H locs ls hH hz hS hl h0
  exact lv_ldc hX.1 hX.2.1 hX.2.2.2.1 (hX.2.2.2.2.1 _ (zw_in hw rfl)) hd (k hX H locs ls hH hz hS hl h0)
theorem y_ldc2 {index : Nat} {v : Int64} (hw : Cond.constantLong own index v ∈ lw_tbl) (hd : decode cc pc = .ok (.ldc2_w index, 3))
    (k : YG bs X own cc nL d mc ms kc ks (pc + 3) L (.long v :: st) σ I) : YG bs X own cc nL d mc ms kc ks pc L st σ I := by
  obtain ⟨p, l, e, R, s, m, args, below, meth, c, Q, cy, D, b⟩ := X
  intro hX H locs ls hH hz hS hl h0
  exact lv_ldc2 hX.1 hX.2.1 hX.2.2.2.1 (hX.2.2.2.2.1 _ (zw_in hw rfl)) hd (k hX H locs ls hH hz hS hl h0)
theorem y_iload_n {j : Fin 4} {x : Int32} (hd : decode cc pc = .ok (.iload_n j, 1)) (hk : L[(j : Nat)]? = some (.int x)) (k : YG bs X own cc nL d mc ms kc ks (pc + 1) L (.int x :: st) σ I) : YG bs X own cc nL d mc ms kc ks pc L st σ I := by
  obtain ⟨p, l, e, R, s, m, args, below, meth, c, Q, cy, D, b⟩ := X
  intro hX H locs ls hH hz hS hl h0
  exact lv_iload_n hX.1 hX.2.1 hd rfl (zlv_at hl hk rfl) (k hX H locs ls hH hz hS hl h0)
theorem y_iload {j : Nat} {x : Int32} (hd : decode cc pc = .ok (.iload j, 2)) (hk : L[j]? = some (.int x)) (k : YG bs X own cc nL d mc ms kc ks (pc + 2) L (.int x :: st) σ I) : YG bs X own cc nL d mc ms kc ks pc L st σ I := by
  obtain ⟨p, l, e, R, s, m, args, below, meth, c, Q, cy, D, b⟩ := X
  intro hX H locs ls hH hz hS hl h0
  exact lv_iload hX.1 hX.2.1 hd (zlv_at hl hk rfl) (k hX H locs ls hH hz hS hl h0)
theorem y_lload {j : Nat} {x : Int64} (hd : decode cc pc = .ok (.lload j, 2)) (hk : L[j]? = some (.long x)) (k : YG bs X own cc nL d mc ms kc ks (pc + 2) L (.long x :: st) σ I) : YG bs X own cc nL d mc ms kc ks pc L st σ I := by
  obtain ⟨p, l, e, R, s, m, args, below, meth, c, Q, cy, D, b⟩ := X
  intro hX H locs ls hH hz hS hl h0
  exact lv_lload hX.1 hX.2.1 hd (zlv_at hl hk rfl) (k hX H locs ls hH hz hS hl h0)
theorem y_aload_n {j : Fin 4} {x : Nat} (hd : decode cc pc = .ok (.aload_n j, 1)) (hk : L[(j : Nat)]? = some (.ref x)) (k : YG bs X own cc nL d mc ms kc ks (pc + 1) L (.ref x :: st) σ I) : YG bs X own cc nL d mc ms kc ks pc L st σ I := by
  obtain ⟨p, l, e, R, s, m, args, below, meth, c, Q, cy, D, b⟩ := X
  intro hX H locs ls hH hz hS hl h0
  exact lv_aload_n hX.1 hX.2.1 hd rfl (zlv_at hl hk rfl) (k hX H locs ls hH hz hS hl h0)
theorem y_if_eq {x : Int32} {off : Int} {tgt : Nat} (hd : decode cc pc = .ok (.ifCond .eq off, 3)) (ht : (pc : Int) + off = (tgt : Int))
    (kt : x = 0 → YG bs X own cc nL d mc ms kc ks tgt L st σ I) (kf : ¬ x = 0 → YG bs X own cc nL d mc ms kc ks (pc + 3) L st σ I) : YG bs X own cc nL d mc ms kc ks pc L (.int x :: st) σ I := by
  obtain ⟨p, l, e, R, s, m, args, below, meth, c, Q, cy, D, b⟩ := X
  intro hX H locs ls hH hz hS hl h0
  exact lv_if_eq hX.1 hX.2.1 hd ht (fun h => kt h hX H locs ls hH hz hS hl h0) (fun h => kf h hX H locs ls hH hz hS hl h0)
theorem y_if_ne {x : Int32} {off : Int} {tgt : Nat} (hd : decode cc pc = .ok (.ifCond .ne off, 3)) (ht : (pc : Int) + off = (tgt : Int))
    (kt : ¬ x = 0 → YG bs X own cc nL d mc ms kc ks tgt L st σ I) (kf : x = 0 → YG bs X own cc nL d mc ms kc ks (pc + 3) L st σ I) : YG bs X own cc nL d mc ms kc ks pc L (.int x :: st) σ I := by
  obtain ⟨p, l, e, R, s, m, args, below, meth, c, Q, cy, D, b⟩ := X
  intro hX H locs ls hH hz hS hl h0
  exact lv_if_ne hX.1 hX.2.1 hd ht (fun h => kt h hX H locs ls hH hz hS hl h0) (fun h => kf h hX H locs ls hH hz hS hl h0)
theorem y_if_lt {x : Int32} {off : Int} {tgt : Nat} (hd : decode cc pc = .ok (.ifCond .lt off, 3)) (ht : (pc : Int) + off = (tgt : Int))
    (kt : x < 0 → YG bs X own cc nL d mc ms kc ks tgt L st σ I) (kf : ¬ x < 0 → YG bs X own cc nL d mc ms kc ks (pc + 3) L st σ I) : YG bs X own cc nL d mc ms kc ks pc L (.int x :: st) σ I := by
  obtain ⟨p, l, e, R, s, m, args, below, meth, c, Q, cy, D, b⟩ := X
  intro hX H locs ls hH hz hS hl h0
  exact lv_if_lt hX.1 hX.2.1 hd ht (fun h => kt h hX H locs ls hH hz hS hl h0) (fun h => kf h hX H locs ls hH hz hS hl h0)
theorem y_if_gt {x : Int32} {off : Int} {tgt : Nat} (hd : decode cc pc = .ok (.ifCond .gt off, 3)) (ht : (pc : Int) + off = (tgt : Int))
    (kt : 0 < x → YG bs X own cc nL d mc ms kc ks tgt L st σ I) (kf : ¬ 0 < x → YG bs X own cc nL d mc ms kc ks (pc + 3) L st σ I) : YG bs X own cc nL d mc ms kc ks pc L (.int x :: st) σ I := by
  obtain ⟨p, l, e, R, s, m, args, below, meth, c, Q, cy, D, b⟩ := X
  intro hX H locs ls hH hz hS hl h0
  exact lv_if_gt hX.1 hX.2.1 hd ht (fun h => kt h hX H locs ls hH hz hS hl h0) (fun h => kf h hX H locs ls hH hz hS hl h0)
theorem y_icmp_eq {x y : Int32} {off : Int} {tgt : Nat} (hd : decode cc pc = .ok (.if_icmp .eq off, 3)) (ht : (pc : Int) + off = (tgt : Int))
    (kt : x = y → YG bs X own cc nL d mc ms kc ks tgt L st σ I) (kf : ¬ x = y → YG bs X own cc nL d mc ms kc ks (pc + 3) L st σ I) : YG bs X own cc nL d mc ms kc ks pc L (.int y :: .int x :: st) σ I := by
  obtain ⟨p, l, e, R, s, m, args, below, meth, c, Q, cy, D, b⟩ := X
  intro hX H locs ls hH hz hS hl h0
  exact lv_icmp_eq hX.1 hX.2.1 hd ht (fun h => kt h hX H locs ls hH hz hS hl h0) (fun h => kf h hX H locs ls hH hz hS hl h0)
theorem y_icmp_ne {x y : Int32} {off : Int} {tgt : Nat} (hd : decode cc pc = .ok (.if_icmp .ne off, 3)) (ht : (pc : Int) + off = (tgt : Int))
    (kt : ¬ x = y → YG bs X own cc nL d mc ms kc ks tgt L st σ I) (kf : x = y → YG bs X own cc nL d mc ms kc ks (pc + 3) L st σ I) : YG bs X own cc nL d mc ms kc ks pc L (.int y :: .int x :: st) σ I := by
  obtain ⟨p, l, e, R, s, m, args, below, meth, c, Q, cy, D, b⟩ := X
  intro hX H locs ls hH hz hS hl h0
  exact lv_icmp_ne hX.1 hX.2.1 hd ht (fun h => kt h hX H locs ls hH hz hS hl h0) (fun h => kf h hX H locs ls hH hz hS hl h0)
theorem y_icmp_ge {x y : Int32} {off : Int} {tgt : Nat} (hd : decode cc pc = .ok (.if_icmp .ge off, 3)) (ht : (pc : Int) + off = (tgt : Int))
    (kt : y ≤ x → YG bs X own cc nL d mc ms kc ks tgt L st σ I) (kf : ¬ y ≤ x → YG bs X own cc nL d mc ms kc ks (pc + 3) L st σ I) : YG bs X own cc nL d mc ms kc ks pc L (.int y :: .int x :: st) σ I := by
  obtain ⟨p, l, e, R, s, m, args, below, meth, c, Q, cy, D, b⟩ := X
  intro hX H locs ls hH hz hS hl h0
  exact lv_icmp_ge hX.1 hX.2.1 hd ht (fun h => kt h hX H locs ls hH hz hS hl h0) (fun h => kf h hX H locs ls hH hz hS hl h0)
theorem y_icmp_gt {x y : Int32} {off : Int} {tgt : Nat} (hd : decode cc pc = .ok (.if_icmp .gt off, 3)) (ht : (pc : Int) + off = (tgt : Int))
    (kt : y < x → YG bs X own cc nL d mc ms kc ks tgt L st σ I) (kf : ¬ y < x → YG bs X own cc nL d mc ms kc ks (pc + 3) L st σ I) : YG bs X own cc nL d mc ms kc ks pc L (.int y :: .int x :: st) σ I := by
  obtain ⟨p, l, e, R, s, m, args, below, meth, c, Q, cy, D, b⟩ := X
  intro hX H locs ls hH hz hS hl h0
  exact lv_icmp_gt hX.1 hX.2.1 hd ht (fun h => kt h hX H locs ls hH hz hS hl h0) (fun h => kf h hX H locs ls hH hz hS hl h0)
theorem y_icmp_le {x y : Int32} {off : Int} {tgt : Nat} (hd : decode cc pc = .ok (.if_icmp .le off, 3)) (ht : (pc : Int) + off = (tgt : Int))
    (kt : x ≤ y → YG bs X own cc nL d mc ms kc ks tgt L st σ I) (kf : ¬ x ≤ y → YG bs X own cc nL d mc ms kc ks (pc + 3) L st σ I) : YG bs X own cc nL d mc ms kc ks pc L (.int y :: .int x :: st) σ I := by
  obtain ⟨p, l, e, R, s, m, args, below, meth, c, Q, cy, D, b⟩ := X
  intro hX H locs ls hH hz hS hl h0
  exact lv_icmp_le hX.1 hX.2.1 hd ht (fun h => kt h hX H locs ls hH hz hS hl h0) (fun h => kf h hX H locs ls hH hz hS hl h0)
theorem y_goto {off : Int} {tgt : Nat} (hd : decode cc pc = .ok (.goto off, 3)) (ht : (pc : Int) + off = (tgt : Int)) (k : YG bs X own cc nL d mc ms kc ks tgt L st σ I) : YG bs X own cc nL d mc ms kc ks pc L st σ I := by
  obtain ⟨p, l, e, R, s, m, args, below, meth, c, Q, cy, D, b⟩ := X
  intro hX H locs ls hH hz hS hl h0
  exact lv_goto hX.1 hX.2.1 hd ht (k hX H locs ls hH hz hS hl h0)
theorem y_new {idx ci N : Nat} {C : String} (hcl : Cond.classLink own idx C ∈ lw_tbl) (hc : ∃ T, vwCl[ci]? = some (C, T, N)) (hd : decode cc pc = .ok (.new idx, 3)) (h1 : kc + 1 ≤ mc) (h2 : ks + N ≤ ms)
    (k : YG bs X own cc nL d mc ms (kc + 1) (ks + N) (pc + 3) L (.ref σ.length :: st) (σ ++ [(0, ci, zini ci)]) (zclr I σ.length)) : YG bs X own cc nL d mc ms kc ks pc L st σ I := by
  obtain ⟨p, l, e, R, s, m, args, below, meth, c, Q, cy, D, b⟩ := X
  intro hX H locs ls hH hz hS hl h0
  obtain ⟨T, hc⟩ := hc
  obtain ⟨C', T', N', ty', g1, g2, g3, g4, g5, g6, g7, g8⟩ := zcl_all hc
  cases hc.symm.trans g1
  have hfs : ∀ j, j < N → defaultValue (ty' j) = vp_V (zvals b (fun _ => 0) 0 (zini ci)) j := by
    intro j hj
    rw [g8 j hj]
    have hjl : j < (zini ci).length := by rw [g7]; exact hj
    have e1 : (zini ci)[j]? = some (zini ci)[j] := List.getElem?_eq_getElem hjl
    simp only [vp_V, List.getD, zvals_get, e1, Option.map_some, Option.getD_some, Nat.zero_add]
    have h01 := z_ini01 ci j
    simp only [List.getD, e1, Option.getD_some] at h01
    rcases h01 with h01 | h01 <;> rw [h01] <;> rfl
  have hR1 : kc + 1 ≤ R.cells := Nat.le_trans h1 hX.2.2.2.2.2.2.2.2.2.2.1
  have hR2 : ks + N ≤ R.slots := Nat.le_trans h2 hX.2.2.2.2.2.2.2.2.2.2.2
  refine va_new (C := C) (T := T) (N := N) hX.1 hX.2.1 hX.2.2.2.2.1 g2 ty' g3 hX.2.2.2.1 (hX.2.2.2.2.1 _ (zw_in hcl rfl)) (hX.2.2.2.2.1 _ g5) (hX.2.2.2.2.1 _ g6) hX.2.2.2.2.2.1.1 hH.2 (zwld_D cy b I σ) (z_S0 hS) (fun q hq => Nat.le_trans (by have := hH.1; omega) hq) hc hfs hR1 hR2 hd (fun q H1 hP1 hD1 hS1 => ?_)
  refine z_fresh hH hz hP1 hD1 hS1 (fun hq hs1 => ?_)
  subst hq
  have hw := zwld_push (cy := cy) (b := b) (I := I) (J := zclr I σ.length) (σ := σ) (c := (0, ci, zini ci)) (fun q hq => if_neg (by omega))
  rw [show zclr I σ.length σ.length = (fun _ => 0) from if_pos rfl] at hw
  exact k hX H1 locs ls ⟨by rw [List.length_append]; simp; omega, by rw [← hw]; exact hP1⟩ (by rw [List.length_append]; simp; omega) (z_S hS hS1) hl h0
theorem y_runV {idx a n d2 mc2 ms2 nz ci : Nat} {y : MethodName} {cz : ByteArray} {rz : Option FieldType} {As : List Value} {rs : List Nat} {Q2 : Option Value → List ZC → ZI → Prop} (hM : ZM y cz nz rz n) (hV : ZV own idx y) (hd : decode cc pc = .ok (.invokevirtual idx, 3)) (hsp : ZSp y cz nz rz d2 mc2 ms2 (.ref a :: As) σ I Q2) (hn : As.length = n) (hd2 : d2 + 1 ≤ d)
    (hc : σ[a]? = some (0, ci, rs)) (hcl : vwCl[ci]?.map (fun q => q.1) = some y.cls) (hst : (st.map fun v => v.category).sum ≤ 8) (h1 : kc + mc2 ≤ mc) (h2 : ks + ms2 ≤ ms) (hlen : ∀ r σ' I', Q2 r σ' I' → σ'.length = σ.length + mc2)
    (k : ∀ r σ' I', Q2 r σ' I' → YG bs X own cc nL d mc ms (kc + mc2) (ks + ms2) (pc + 3) L (r.toList ++ st) σ' I') : YG bs X own cc nL d mc ms kc ks pc L (As.reverse ++ .ref a :: st) σ I := by
  obtain ⟨p, l, e, R, s, m, args, below, meth, c, Q, cy, D, b⟩ := X
  intro hX H locs ls hH hz hS hl h0
  obtain ⟨q, hq, hqy⟩ := Option.map_eq_some_iff.mp hcl
  have he : (zwld cy b I 0 σ)[a]? = some (b + a, .inr (ci, zvals b (I a) 0 rs)) := zwld_at hc
  have hrec := va_recv hX.2.2.2.2.2.1.1 hH.2 hq he
  rw [hqy] at hrec
  have hf := hX.2.2.2.2.2.2.2.2.1
  have hlc := hX.2.2.2.2.2.2.2.2.2.1
  have hnz := hM.2.2.1
  refine z_after (rest := st.map (zren b)) (va_runV (As := As.map (zren b)) ⟨hX.1, hX.2.1, hX.2.2.1, hX.2.2.2.1, hX.2.2.2.2.1⟩ (hsp l cy D b) (cwV n hX.2.2.2.2.1 (z_goodV hM hV) rfl rfl rfl ⟨rfl, hM.2.2.2.1, hM.2.2.2.2.1, hM.2.2.2.2.2⟩ ⟨by show d2 + 1 ≤ R.frames; omega, by show 8 + (nz + 11) + 40 * d2 ≤ R.locals; omega⟩)
    ⟨z_blind, hrec, fun U hU hW => ⟨rfl, by rw [hU]; exact hH, hX.2.2.2.2.2.1.warm hW⟩⟩ rfl (by rw [List.length_map]; exact hn) hl.1 (by simp [zren]) (lv_room (z_cats b st hst)) hd ⟨Nat.le_trans h1 hX.2.2.2.2.2.2.2.2.2.2.1, Nat.le_trans h2 hX.2.2.2.2.2.2.2.2.2.2.2⟩) hS (fun r σ' I' H1 locs1 hQ hH1 hS1 => ?_)
  rw [z_ret]
  exact k r σ' I' hQ hX H1 locs1 ls hH1 (by rw [hlen r σ' I' hQ]; omega) hS1 hl h0
theorem y_runS {idx n d2 mc2 ms2 nz : Nat} {y : MethodName} {cz : ByteArray} {rz : Option FieldType} {As : List Value} {Q2 : Option Value → List ZC → ZI → Prop} (hM : ZM y cz nz rz n) (hV : ZS own idx y) (hd : decode cc pc = .ok (.invokestatic idx, 3)) (hsp : ZSp y cz nz rz d2 mc2 ms2 As σ I Q2) (hn : As.length = n) (hd2 : d2 + 1 ≤ d)
    (hst : (st.map fun v => v.category).sum ≤ 8) (h1 : kc + mc2 ≤ mc) (h2 : ks + ms2 ≤ ms) (hlen : ∀ r σ' I', Q2 r σ' I' → σ'.length = σ.length + mc2)
    (k : ∀ r σ' I', Q2 r σ' I' → YG bs X own cc nL d mc ms (kc + mc2) (ks + ms2) (pc + 3) L (r.toList ++ st) σ' I') : YG bs X own cc nL d mc ms kc ks pc L (As.reverse ++ st) σ I := by
  obtain ⟨p, l, e, R, s, m, args, below, meth, c, Q, cy, D, b⟩ := X
  intro hX H locs ls hH hz hS hl h0
  have hf := hX.2.2.2.2.2.2.2.2.1
  have hlc := hX.2.2.2.2.2.2.2.2.2.1
  have hnz := hM.2.2.1
  refine z_after (rest := st.map (zren b)) (va_runS (As := As.map (zren b)) ⟨hX.1, hX.2.1, hX.2.2.1, hX.2.2.2.1, hX.2.2.2.2.1⟩ (hsp l cy D b) ⟨callB_of n hX.2.2.2.2.1 (z_good hM.1) rfl rfl rfl (hX.2.2.2.2.1 _ (zw_in hM.2.1.2 rfl)) (hX.2.2.2.2.1 _ (zw_in hV.1 rfl)) ⟨hM.2.2.2.1, hM.2.2.2.2.1, hM.2.2.2.2.2⟩ ⟨by show d2 + 1 ≤ R.frames; omega, by show 8 + (nz + 11) + 40 * d2 ≤ R.locals; omega⟩, hX.2.2.2.2.1 _ (zw_in hV.2 rfl)⟩
    ⟨z_blind, fun U hU hW => ⟨rfl, by rw [hU]; exact hH, hX.2.2.2.2.2.1.warm hW⟩⟩ rfl (by rw [List.length_map]; exact hn) hl.1 (by simp [zren]) (lv_room (z_cats b st hst)) hd ⟨Nat.le_trans h1 hX.2.2.2.2.2.2.2.2.2.2.1, Nat.le_trans h2 hX.2.2.2.2.2.2.2.2.2.2.2⟩) hS (fun r σ' I' H1 locs1 hQ hH1 hS1 => ?_)
  rw [z_ret]
  exact k r σ' I' hQ hX H1 locs1 ls hH1 (by rw [hlen r σ' I' hQ]; omega) hS1 hl h0
theorem y_runI {idx a n d2 mc2 ms2 nz : Nat} {y : MethodName} {cz : ByteArray} {As : List Value} {Q2 : Option Value → List ZC → ZI → Prop} (hM : ZM y cz nz none n) (hV : ZN own idx y) (hd : decode cc pc = .ok (.invokespecial idx, 3)) (hsp : ZSp y cz nz none d2 mc2 ms2 (.ref a :: As) σ I Q2) (hn : As.length = n) (hd2 : d2 + 1 ≤ d)
    (hst : (st.map fun v => v.category).sum ≤ 8) (h1 : kc + mc2 ≤ mc) (h2 : ks + ms2 ≤ ms) (hlen : ∀ r σ' I', Q2 r σ' I' → σ'.length = σ.length + mc2)
    (k : ∀ r σ' I', Q2 r σ' I' → YG bs X own cc nL d mc ms (kc + mc2) (ks + ms2) (pc + 3) L (r.toList ++ st) σ' I') : YG bs X own cc nL d mc ms kc ks pc L (As.reverse ++ .ref a :: st) σ I := by
  obtain ⟨p, l, e, R, s, m, args, below, meth, c, Q, cy, D, b⟩ := X
  intro hX H locs ls hH hz hS hl h0
  have hf := hX.2.2.2.2.2.2.2.2.1
  have hlc := hX.2.2.2.2.2.2.2.2.2.1
  have hnz := hM.2.2.1
  have hRR : d2 + 1 ≤ R.frames ∧ 8 + (nz + 11) + 40 * d2 ≤ R.locals := ⟨by omega, by omega⟩
  have hPS : PreS s H (va_Pc ((Value.ref a :: As).map (zren b)) (fun U => ZH cy D b σ I U.heap ∧ ZT cy D U)) (.ref (b + a) :: As.map (zren b)) := ⟨z_blind, fun U hU hW => ⟨rfl, by rw [hU]; exact hH, hX.2.2.2.2.2.1.warm hW⟩⟩
  have hini := hX.2.2.2.2.1 _ (zw_in hM.2.1.2 rfl)
  have hins := hX.2.2.2.2.1 _ (zw_in hV.2.1 rfl)
  have kk : ∀ (r : Option Value) (σ' : List ZC) (I' : ZI) (H1 : Heap) (locs1 : List Loc), Q2 r σ' I' → ZH cy D b σ' I' H1 → va_S (ZA b) s.heap H1 locs1 → W p l e R s m args below meth c H1 locs1 (kc + mc2) (ks + ms2) Q (F0 m (pc + 3) ls ((r.map (zren b)).toList ++ st.map (zren b))) := by
    intro r σ' I' H1 locs1 hQ hH1 hS1
    rw [z_ret]
    exact k r σ' I' hQ hX H1 locs1 ls hH1 (by rw [hlen r σ' I' hQ]; omega) hS1 hl h0
  rcases hV.1 with hL1 | ⟨host, hL1⟩
  · exact z_after (rest := st.map (zren b)) (va_runI (As := As.map (zren b)) ⟨hX.1, hX.2.1, hX.2.2.1, hX.2.2.2.1, hX.2.2.2.2.1⟩ (hsp l cy D b) (cwI n hX.2.2.2.2.1 (z_good hM.1) rfl rfl rfl hini (hX.2.2.2.2.1 _ (zw_in hL1 rfl)) hins hV.2.2 ⟨hM.2.2.2.1, hM.2.2.2.2.1, hM.2.2.2.2.2⟩ hRR)
      hPS rfl (by rw [List.length_map]; exact hn) hl.1 (by simp [zren]) (lv_room (z_cats b st hst)) hd ⟨Nat.le_trans h1 hX.2.2.2.2.2.2.2.2.2.2.1, Nat.le_trans h2 hX.2.2.2.2.2.2.2.2.2.2.2⟩) hS kk
  · exact z_after (rest := st.map (zren b)) (va_runIN (As := As.map (zren b)) ⟨hX.1, hX.2.1, hX.2.2.1, hX.2.2.2.1, hX.2.2.2.2.1⟩ (hsp l cy D b) ⟨va_cnB n hX.2.2.2.2.1 (z_good hM.1) rfl rfl rfl (hX.2.2.2.2.2.1.2.1 _ hL1 rfl) hini ⟨hM.2.2.2.1, hM.2.2.2.2.1, hM.2.2.2.2.2⟩ hRR, hV.2.2, hins⟩
      hPS rfl (by rw [List.length_map]; exact hn) hl.1 (by simp [zren]) (lv_room (z_cats b st hst)) hd ⟨Nat.le_trans h1 hX.2.2.2.2.2.2.2.2.2.2.1, Nat.le_trans h2 hX.2.2.2.2.2.2.2.2.2.2.2⟩) hS kk
theorem y_nob {idx ci N a : Nat} {C : String} (ha : σ.length = a) (hcl : Cond.classLink own idx C ∈ lw_tbl) (hc : ∃ T, vwCl[ci]? = some (C, T, N)) (hd : decode cc pc = .ok (.new idx, 3)) (h1 : kc + 1 ≤ mc) (h2 : ks + N ≤ ms)
    (k : YG bs X own cc nL d mc ms (kc + 1) (ks + N) (pc + 3) L (.ref a :: st) (σ ++ [(0, ci, zini ci)]) (zclr I a)) : YG bs X own cc nL d mc ms kc ks pc L st σ I := by
  subst ha
  exact y_new hcl hc hd h1 h2 k
theorem y_init0 {idx a d2 mc2 ms2 nz ci : Nat} {y : MethodName} {cz : ByteArray} {ρf : Nat → List ZC} {P : Nat → ZI → Prop} (hM : ZM y cz nz none 0) (hV : ZN own idx y) (hd : decode cc pc = .ok (.invokespecial idx, 3)) (h : ZN0 y cz nz d2 mc2 ms2 [] ci ρf P) (ha : σ.length = a) (hf : (ρf a).length = mc2 + 1) (hd2 : d2 + 1 ≤ d) (hst : (st.map fun v => v.category).sum ≤ 8) (h1 : kc + mc2 ≤ mc) (h2 : ks + ms2 ≤ ms)
    (k : ∀ J, (∀ q, q < a → J q = I q) → P a J → YG bs X own cc nL d mc ms (kc + mc2) (ks + ms2) (pc + 3) L st (σ ++ ρf a) J) : YG bs X own cc nL d mc ms kc ks pc L (.ref a :: st) (σ ++ [(0, ci, zini ci)]) (zclr I a) :=
  y_runI (As := []) hM hV hd (h σ a (zclr I a) ha zclr_at) rfl hd2 hst h1 h2 (fun r σ' J q => by
    rw [q.2.1, List.length_append, List.length_append, hf, List.length_cons, List.length_nil]
    omega) (fun r σ' J q => by
    obtain ⟨rfl, rfl, q3, q4⟩ := q
    exact k J (fun q hq => by rw [q3 q hq, zclr_lt hq]) q4)
theorem y_cV0p {idx a d2 nz ci : Nat} {y : MethodName} {cz : ByteArray} {rz : Option FieldType}  {rs : List Nat} {Q2 : Option Value → ZI → Prop} (hM : ZM y cz nz rz 0) (hV : ZV own idx y) (hd : decode cc pc = .ok (.invokevirtual idx, 3)) (hsp : ZP y cz nz rz d2 (.ref a :: []) σ I Q2) (hd2 : d2 + 1 ≤ d) (hc : σ[a]? = some (0, ci, rs)) (hcl : vwCl[ci]?.map (fun q => q.1) = some y.cls) (hst : (st.map fun v => v.category).sum ≤ 8) (h1 : kc ≤ mc) (h2 : ks ≤ ms)
    (k : ∀ r J, Q2 r J → YG bs X own cc nL d mc ms kc ks (pc + 3) L (r.toList ++ st) σ J) : YG bs X own cc nL d mc ms kc ks pc L (.ref a :: st) σ I :=
  y_runV (As := []) hM hV hd hsp rfl hd2 hc hcl hst h1 h2 (fun _ _ _ q => by rw [q.1]; rfl) (fun r σ' J q => by obtain ⟨rfl, q⟩ := q; exact k r J q)
theorem y_cV1p {idx a d2 nz ci : Nat} {y : MethodName} {cz : ByteArray} {rz : Option FieldType} {x1 : Value} {rs : List Nat} {Q2 : Option Value → ZI → Prop} (hM : ZM y cz nz rz 1) (hV : ZV own idx y) (hd : decode cc pc = .ok (.invokevirtual idx, 3)) (hsp : ZP y cz nz rz d2 (.ref a :: [x1]) σ I Q2) (hd2 : d2 + 1 ≤ d) (hc : σ[a]? = some (0, ci, rs)) (hcl : vwCl[ci]?.map (fun q => q.1) = some y.cls) (hst : (st.map fun v => v.category).sum ≤ 8) (h1 : kc ≤ mc) (h2 : ks ≤ ms)
    (k : ∀ r J, Q2 r J → YG bs X own cc nL d mc ms kc ks (pc + 3) L (r.toList ++ st) σ J) : YG bs X own cc nL d mc ms kc ks pc L (x1 :: .ref a :: st) σ I :=
  y_runV (As := [x1]) hM hV hd hsp rfl hd2 hc hcl hst h1 h2 (fun _ _ _ q => by rw [q.1]; rfl) (fun r σ' J q => by obtain ⟨rfl, q⟩ := q; exact k r J q)
theorem y_cV2p {idx a d2 nz ci : Nat} {y : MethodName} {cz : ByteArray} {rz : Option FieldType} {x1 x2 : Value} {rs : List Nat} {Q2 : Option Value → ZI → Prop} (hM : ZM y cz nz rz 2) (hV : ZV own idx y) (hd : decode cc pc = .ok (.invokevirtual idx, 3)) (hsp : ZP y cz nz rz d2 (.ref a :: [x1, x2]) σ I Q2) (hd2 : d2 + 1 ≤ d) (hc : σ[a]? = some (0, ci, rs)) (hcl : vwCl[ci]?.map (fun q => q.1) = some y.cls) (hst : (st.map fun v => v.category).sum ≤ 8) (h1 : kc ≤ mc) (h2 : ks ≤ ms)
    (k : ∀ r J, Q2 r J → YG bs X own cc nL d mc ms kc ks (pc + 3) L (r.toList ++ st) σ J) : YG bs X own cc nL d mc ms kc ks pc L (x2 :: x1 :: .ref a :: st) σ I :=
  y_runV (As := [x1, x2]) hM hV hd hsp rfl hd2 hc hcl hst h1 h2 (fun _ _ _ q => by rw [q.1]; rfl) (fun r σ' J q => by obtain ⟨rfl, q⟩ := q; exact k r J q)
theorem y_cV3p {idx a d2 nz ci : Nat} {y : MethodName} {cz : ByteArray} {rz : Option FieldType} {x1 x2 x3 : Value} {rs : List Nat} {Q2 : Option Value → ZI → Prop} (hM : ZM y cz nz rz 3) (hV : ZV own idx y) (hd : decode cc pc = .ok (.invokevirtual idx, 3)) (hsp : ZP y cz nz rz d2 (.ref a :: [x1, x2, x3]) σ I Q2) (hd2 : d2 + 1 ≤ d) (hc : σ[a]? = some (0, ci, rs)) (hcl : vwCl[ci]?.map (fun q => q.1) = some y.cls) (hst : (st.map fun v => v.category).sum ≤ 8) (h1 : kc ≤ mc) (h2 : ks ≤ ms)
    (k : ∀ r J, Q2 r J → YG bs X own cc nL d mc ms kc ks (pc + 3) L (r.toList ++ st) σ J) : YG bs X own cc nL d mc ms kc ks pc L (x3 :: x2 :: x1 :: .ref a :: st) σ I :=
  y_runV (As := [x1, x2, x3]) hM hV hd hsp rfl hd2 hc hcl hst h1 h2 (fun _ _ _ q => by rw [q.1]; rfl) (fun r σ' J q => by obtain ⟨rfl, q⟩ := q; exact k r J q)
theorem y_cV4p {idx a d2 nz ci : Nat} {y : MethodName} {cz : ByteArray} {rz : Option FieldType} {x1 x2 x3 x4 : Value} {rs : List Nat} {Q2 : Option Value → ZI → Prop} (hM : ZM y cz nz rz 4) (hV : ZV own idx y) (hd : decode cc pc = .ok (.invokevirtual idx, 3)) (hsp : ZP y cz nz rz d2 (.ref a :: [x1, x2, x3, x4]) σ I Q2) (hd2 : d2 + 1 ≤ d) (hc : σ[a]? = some (0, ci, rs)) (hcl : vwCl[ci]?.map (fun q => q.1) = some y.cls) (hst : (st.map fun v => v.category).sum ≤ 8) (h1 : kc ≤ mc) (h2 : ks ≤ ms)
    (k : ∀ r J, Q2 r J → YG bs X own cc nL d mc ms kc ks (pc + 3) L (r.toList ++ st) σ J) : YG bs X own cc nL d mc ms kc ks pc L (x4 :: x3 :: x2 :: x1 :: .ref a :: st) σ I :=
  y_runV (As := [x1, x2, x3, x4]) hM hV hd hsp rfl hd2 hc hcl hst h1 h2 (fun _ _ _ q => by rw [q.1]; rfl) (fun r σ' J q => by obtain ⟨rfl, q⟩ := q; exact k r J q)
theorem y_cV5p {idx a d2 nz ci : Nat} {y : MethodName} {cz : ByteArray} {rz : Option FieldType} {x1 x2 x3 x4 x5 : Value} {rs : List Nat} {Q2 : Option Value → ZI → Prop} (hM : ZM y cz nz rz 5) (hV : ZV own idx y) (hd : decode cc pc = .ok (.invokevirtual idx, 3)) (hsp : ZP y cz nz rz d2 (.ref a :: [x1, x2, x3, x4, x5]) σ I Q2) (hd2 : d2 + 1 ≤ d) (hc : σ[a]? = some (0, ci, rs)) (hcl : vwCl[ci]?.map (fun q => q.1) = some y.cls) (hst : (st.map fun v => v.category).sum ≤ 8) (h1 : kc ≤ mc) (h2 : ks ≤ ms)
    (k : ∀ r J, Q2 r J → YG bs X own cc nL d mc ms kc ks (pc + 3) L (r.toList ++ st) σ J) : YG bs X own cc nL d mc ms kc ks pc L (x5 :: x4 :: x3 :: x2 :: x1 :: .ref a :: st) σ I :=
  y_runV (As := [x1, x2, x3, x4, x5]) hM hV hd hsp rfl hd2 hc hcl hst h1 h2 (fun _ _ _ q => by rw [q.1]; rfl) (fun r σ' J q => by obtain ⟨rfl, q⟩ := q; exact k r J q)
theorem y_cS2p {idx d2 nz : Nat} {y : MethodName} {cz : ByteArray} {rz : Option FieldType} {x1 x2 : Value} {Q2 : Option Value → ZI → Prop} (hM : ZM y cz nz rz 2) (hV : ZS own idx y) (hd : decode cc pc = .ok (.invokestatic idx, 3)) (hsp : ZP y cz nz rz d2 [x1, x2] σ I Q2) (hd2 : d2 + 1 ≤ d) (hst : (st.map fun v => v.category).sum ≤ 8) (h1 : kc ≤ mc) (h2 : ks ≤ ms)
    (k : ∀ r J, Q2 r J → YG bs X own cc nL d mc ms kc ks (pc + 3) L (r.toList ++ st) σ J) : YG bs X own cc nL d mc ms kc ks pc L (x2 :: x1 :: st) σ I :=
  y_runS (As := [x1, x2]) hM hV hd hsp rfl hd2 hst h1 h2 (fun _ _ _ q => by rw [q.1]; rfl) (fun r σ' J q => by obtain ⟨rfl, q⟩ := q; exact k r J q)
theorem y_cS3p {idx d2 nz : Nat} {y : MethodName} {cz : ByteArray} {rz : Option FieldType} {x1 x2 x3 : Value} {Q2 : Option Value → ZI → Prop} (hM : ZM y cz nz rz 3) (hV : ZS own idx y) (hd : decode cc pc = .ok (.invokestatic idx, 3)) (hsp : ZP y cz nz rz d2 [x1, x2, x3] σ I Q2) (hd2 : d2 + 1 ≤ d) (hst : (st.map fun v => v.category).sum ≤ 8) (h1 : kc ≤ mc) (h2 : ks ≤ ms)
    (k : ∀ r J, Q2 r J → YG bs X own cc nL d mc ms kc ks (pc + 3) L (r.toList ++ st) σ J) : YG bs X own cc nL d mc ms kc ks pc L (x3 :: x2 :: x1 :: st) σ I :=
  y_runS (As := [x1, x2, x3]) hM hV hd hsp rfl hd2 hst h1 h2 (fun _ _ _ q => by rw [q.1]; rfl) (fun r σ' J q => by obtain ⟨rfl, q⟩ := q; exact k r J q)
theorem y_cS4p {idx d2 nz : Nat} {y : MethodName} {cz : ByteArray} {rz : Option FieldType} {x1 x2 x3 x4 : Value} {Q2 : Option Value → ZI → Prop} (hM : ZM y cz nz rz 4) (hV : ZS own idx y) (hd : decode cc pc = .ok (.invokestatic idx, 3)) (hsp : ZP y cz nz rz d2 [x1, x2, x3, x4] σ I Q2) (hd2 : d2 + 1 ≤ d) (hst : (st.map fun v => v.category).sum ≤ 8) (h1 : kc ≤ mc) (h2 : ks ≤ ms)
    (k : ∀ r J, Q2 r J → YG bs X own cc nL d mc ms kc ks (pc + 3) L (r.toList ++ st) σ J) : YG bs X own cc nL d mc ms kc ks pc L (x4 :: x3 :: x2 :: x1 :: st) σ I :=
  y_runS (As := [x1, x2, x3, x4]) hM hV hd hsp rfl hd2 hst h1 h2 (fun _ _ _ q => by rw [q.1]; rfl) (fun r σ' J q => by obtain ⟨rfl, q⟩ := q; exact k r J q)
theorem y_iret {v : Int32} {Q2 : Option Value → List ZC → ZI → Prop} (hE : ZEnd X (some .int) mc ms Q2) (hd : decode cc pc = .ok (.ireturn, 1)) (hq : Q2 (some (.int v)) σ I) : YG bs X own cc nL d mc ms mc ms pc L [.int v] σ I := by
  obtain ⟨p, l, e, R, s, m, args, below, meth, c, Q, cy, D, b⟩ := X
  intro hX H locs ls hH hz hS hl h0
  obtain ⟨hr, rfl⟩ := hE
  exact W.iret (hlocks := hX.2.2.2.2.2.2.2.1) hX.1 hX.2.1 hr (fun t ht hW => ⟨⟨some (.int v), σ, I, rfl, hq, by rw [ht]; exact hH⟩, z_S_F hS ht⟩) hS.2.2 hd
theorem y_istore_n {j : Fin 4} {x : Int32} (hd : decode cc pc = .ok (.istore_n j, 1)) (hj : (j : Nat) < nL) (hf : (fun q : Nat × Value => !(q.1 == (j : Nat)) && !(q.1 + 1 == (j : Nat) && q.2.category == 2)) (0, Value.ref bs) = true) (hg : ∀ i u, L[i]? = some u → i + 1 = (j : Nat) → u.category = 1) (k : YG bs X own cc nL d mc ms kc ks (pc + 1) (L.set (j : Nat) (.int x)) st σ I) : YG bs X own cc nL d mc ms kc ks pc L (.int x :: st) σ I := by
  obtain ⟨p, l, e, R, s, m, args, below, meth, c, Q, cy, D, b⟩ := X
  intro hX H locs ls hH hz hS hl h0
  refine lv_istore_n hX.1 hX.2.1 hd rfl (y_has hl h0) hj rfl (fun ls' hl' => ?_)
  obtain ⟨g1, g2⟩ := y_less hf hl'
  exact k hX H locs ls' hH hz hS (zlv_st1 (v := .int x) hg g1) g2
theorem y_istore {j : Nat} {x : Int32} (hd : decode cc pc = .ok (.istore j, 2)) (hj : j < nL) (hf : (fun q : Nat × Value => !(q.1 == j) && !(q.1 + 1 == j && q.2.category == 2)) (0, Value.ref bs) = true) (hg : ∀ i u, L[i]? = some u → i + 1 = j → u.category = 1) (k : YG bs X own cc nL d mc ms kc ks (pc + 2) (L.set j (.int x)) st σ I) : YG bs X own cc nL d mc ms kc ks pc L (.int x :: st) σ I := by
  obtain ⟨p, l, e, R, s, m, args, below, meth, c, Q, cy, D, b⟩ := X
  intro hX H locs ls hH hz hS hl h0
  refine lv_istore hX.1 hX.2.1 hd (y_has hl h0) hj rfl (fun ls' hl' => ?_)
  obtain ⟨g1, g2⟩ := y_less hf hl'
  exact k hX H locs ls' hH hz hS (zlv_st1 (v := .int x) hg g1) g2
theorem y_astore_n {j : Fin 4} {x : Nat} (hd : decode cc pc = .ok (.astore_n j, 1)) (hj : (j : Nat) < nL) (hf : (fun q : Nat × Value => !(q.1 == (j : Nat)) && !(q.1 + 1 == (j : Nat) && q.2.category == 2)) (0, Value.ref bs) = true) (hg : ∀ i u, L[i]? = some u → i + 1 = (j : Nat) → u.category = 1) (k : YG bs X own cc nL d mc ms kc ks (pc + 1) (L.set (j : Nat) (.ref x)) st σ I) : YG bs X own cc nL d mc ms kc ks pc L (.ref x :: st) σ I := by
  obtain ⟨p, l, e, R, s, m, args, below, meth, c, Q, cy, D, b⟩ := X
  intro hX H locs ls hH hz hS hl h0
  refine lv_astore_n hX.1 hX.2.1 hd rfl (y_has hl h0) hj rfl (fun ls' hl' => ?_)
  obtain ⟨g1, g2⟩ := y_less hf hl'
  exact k hX H locs ls' hH hz hS (zlv_st1 (v := .ref x) hg g1) g2
theorem y_lstore {j : Nat} {x : Int64} (hd : decode cc pc = .ok (.lstore j, 2)) (hj : j + 1 < nL) (hf : (fun q : Nat × Value => !(q.1 == j) && (!(q.1 == j + 1) && !(q.1 + 1 == j && q.2.category == 2))) (0, Value.ref bs) = true) (hg : ∀ i u, L[i]? = some u → i + 1 = j → u.category = 1) (k : YG bs X own cc nL d mc ms kc ks (pc + 2) ((L.set j (.long x)).set (j + 1) zj) st σ I) : YG bs X own cc nL d mc ms kc ks pc L (.long x :: st) σ I := by
  obtain ⟨p, l, e, R, s, m, args, below, meth, c, Q, cy, D, b⟩ := X
  intro hX H locs ls hH hz hS hl h0
  refine lv_lstore hX.1 hX.2.1 hd (y_has hl h0) hj rfl (fun ls' hl' => ?_)
  obtain ⟨g1, g2⟩ := y_less hf hl'
  exact k hX H locs ls' hH hz hS (zlv_st2 (v := .long x) hg g1) g2
theorem y_iinc {j : Nat} {n : Int} {x v : Int32} (hd : decode cc pc = .ok (.iinc j n, 3)) (hk : L[j]? = some (.int x)) (hv : x + Int32.ofInt n = v) (hj : j < nL) (hf : (fun q : Nat × Value => !(q.1 == j) && !(q.1 + 1 == j && q.2.category == 2)) (0, Value.ref bs) = true) (hg : ∀ i u, L[i]? = some u → i + 1 = j → u.category = 1) (k : YG bs X own cc nL d mc ms kc ks (pc + 3) (L.set j (.int v)) st σ I) : YG bs X own cc nL d mc ms kc ks pc L st σ I := by
  obtain ⟨p, l, e, R, s, m, args, below, meth, c, Q, cy, D, b⟩ := X
  intro hX H locs ls hH hz hS hl h0
  obtain ⟨i, hi⟩ : ∃ i, ((0, Value.ref bs) :: zlv b 0 L)[i]? = some (j, Value.int x) := List.getElem?_of_mem (List.mem_cons_of_mem _ (zlv_mem.mpr ⟨j, .int x, hk, rfl, by rw [Nat.zero_add]; rfl⟩))
  refine lv_iinc hX.1 hX.2.1 hd (y_has hl h0) hi hv hj rfl (fun ls' hl' => ?_)
  obtain ⟨g1, g2⟩ := y_less hf hl'
  exact k hX H locs ls' hH hz hS (zlv_st1 (v := .int v) hg g1) g2
theorem y_fg {L' : List Value} (hL : ∀ (j : Nat) (w : Value), L'[j]? = some w → zknown w = true → L[j]? = some w) (k : YG bs X own cc nL d mc ms kc ks pc L' st σ I) : YG bs X own cc nL d mc ms kc ks pc L st σ I := by
  obtain ⟨p, l, e, R, s, m, args, below, meth, c, Q, cy, D, b⟩ := X
  intro hX H locs ls hH hz hS hl h0
  exact k hX H locs ls hH hz hS (zlv_fg hL hl) h0
theorem y_len {Ls : Nat} {xs : Nat → Int32} (hY : YS bs Ls xs X) (hd0 : decode cc pc = .ok (.aload_n 0, 1)) (hd1 : decode cc (pc + 1) = .ok (.arraylength, 1))
    (k : YG bs X own cc nL d mc ms kc ks (pc + 2) L (.int (nI Ls) :: st) σ I) : YG bs X own cc nL d mc ms kc ks pc L st σ I := by
  obtain ⟨p, l, e, R, s, m, args, below, meth, c, Q, cy, D, b⟩ := X
  intro hX H locs ls hH hz hS hl h0
  refine lv_aload_n hX.1 hX.2.1 hd0 rfl h0 ?_
  refine va_slen hX.1 hX.2.1 hY.1 hY.2.1 hY.2.2 hS hd1 ?_
  exact k hX H locs ls hH hz hS hl h0
theorem y_argn {j : Fin 4} {Ls i : Nat} {xs : Nat → Int32} (hY : YS bs Ls xs X) (hd0 : decode cc pc = .ok (.aload_n 0, 1)) (hd1 : decode cc (pc + 1) = .ok (.iload_n j, 1)) (hd4 : decode cc (pc + 2) = .ok (.iaload, 1)) (h3 : L[(j : Nat)]? = some (.int (nI i))) (hj : i < Ls) (hL : Ls < 2 ^ 31)
    (k : YG bs X own cc nL d mc ms kc ks (pc + 3) L (.int (xs i) :: st) σ I) : YG bs X own cc nL d mc ms kc ks pc L st σ I := by
  obtain ⟨p, l, e, R, s, m, args, below, meth, c, Q, cy, D, b⟩ := X
  intro hX H locs ls hH hz hS hl h0
  refine lv_aload_n hX.1 hX.2.1 hd0 rfl h0 ?_
  refine lv_iload_n hX.1 hX.2.1 hd1 rfl (zlv_at hl h3 rfl) ?_
  refine va_sld hX.1 hX.2.1 hY.1 hY.2.1 hY.2.2 hS (vp_in_nI hj hL) hd4 ?_
  rw [nI_clamp (by omega)]
  exact k hX H locs ls hH hz hS hl h0
theorem y_ist1 {l0 l1 : Value} {x : Int32} (hd : decode cc pc = .ok (.istore_n 1, 1)) (hn : 1 < nL) (hg : l0.category = 1) (k : YG bs X own cc nL d mc ms kc ks (pc + 1) (l0 :: .int x :: L) st σ I) : YG bs X own cc nL d mc ms kc ks pc (l0 :: l1 :: L) (.int x :: st) σ I :=
  y_istore_n hd hn rfl (zgd (j := 0) rfl hg) k
theorem y_inc1 {l0 : Value} {x w : Int32} {n : Int} (hd : decode cc pc = .ok (.iinc 1 n, 3)) (hw : Int32.ofInt n = w) (hn : 1 < nL) (hg : l0.category = 1) (k : YG bs X own cc nL d mc ms kc ks (pc + 3) (l0 :: .int (x + w) :: L) st σ I) : YG bs X own cc nL d mc ms kc ks pc (l0 :: .int x :: L) st σ I :=
  y_iinc (v := x + w) hd rfl (by rw [hw]) hn rfl (zgd (j := 0) rfl hg) k
theorem y_fg1 {l0 l1 : Value} (k : YG bs X own cc nL d mc ms kc ks pc (l0 :: zj :: L) st σ I) : YG bs X own cc nL d mc ms kc ks pc (l0 :: l1 :: L) st σ I :=
  y_fg (fun i u hu hv => by
    by_cases e : i = 1
    · subst e; cases hu; cases hv
    · have e2 : (l0 :: zj :: L).set 1 l1 = l0 :: l1 :: L := rfl
      rw [← e2, List.getElem?_set_ne (Ne.symm e)]; exact hu) k
theorem y_ist2 {l0 l1 l2 : Value} {x : Int32} (hd : decode cc pc = .ok (.istore_n 2, 1)) (hn : 2 < nL) (hg : l1.category = 1) (k : YG bs X own cc nL d mc ms kc ks (pc + 1) (l0 :: l1 :: .int x :: L) st σ I) : YG bs X own cc nL d mc ms kc ks pc (l0 :: l1 :: l2 :: L) (.int x :: st) σ I :=
  y_istore_n hd hn rfl (zgd (j := 1) rfl hg) k
theorem y_inc2 {l0 l1 : Value} {x w : Int32} {n : Int} (hd : decode cc pc = .ok (.iinc 2 n, 3)) (hw : Int32.ofInt n = w) (hn : 2 < nL) (hg : l1.category = 1) (k : YG bs X own cc nL d mc ms kc ks (pc + 3) (l0 :: l1 :: .int (x + w) :: L) st σ I) : YG bs X own cc nL d mc ms kc ks pc (l0 :: l1 :: .int x :: L) st σ I :=
  y_iinc (v := x + w) hd rfl (by rw [hw]) hn rfl (zgd (j := 1) rfl hg) k
theorem y_fg2 {l0 l1 l2 : Value} (k : YG bs X own cc nL d mc ms kc ks pc (l0 :: l1 :: zj :: L) st σ I) : YG bs X own cc nL d mc ms kc ks pc (l0 :: l1 :: l2 :: L) st σ I :=
  y_fg (fun i u hu hv => by
    by_cases e : i = 2
    · subst e; cases hu; cases hv
    · have e2 : (l0 :: l1 :: zj :: L).set 2 l2 = l0 :: l1 :: l2 :: L := rfl
      rw [← e2, List.getElem?_set_ne (Ne.symm e)]; exact hu) k
theorem y_ist3 {l0 l1 l2 l3 : Value} {x : Int32} (hd : decode cc pc = .ok (.istore_n 3, 1)) (hn : 3 < nL) (hg : l2.category = 1) (k : YG bs X own cc nL d mc ms kc ks (pc + 1) (l0 :: l1 :: l2 :: .int x :: L) st σ I) : YG bs X own cc nL d mc ms kc ks pc (l0 :: l1 :: l2 :: l3 :: L) (.int x :: st) σ I :=
  y_istore_n hd hn rfl (zgd (j := 2) rfl hg) k
theorem y_inc3 {l0 l1 l2 : Value} {x w : Int32} {n : Int} (hd : decode cc pc = .ok (.iinc 3 n, 3)) (hw : Int32.ofInt n = w) (hn : 3 < nL) (hg : l2.category = 1) (k : YG bs X own cc nL d mc ms kc ks (pc + 3) (l0 :: l1 :: l2 :: .int (x + w) :: L) st σ I) : YG bs X own cc nL d mc ms kc ks pc (l0 :: l1 :: l2 :: .int x :: L) st σ I :=
  y_iinc (v := x + w) hd rfl (by rw [hw]) hn rfl (zgd (j := 2) rfl hg) k
theorem y_fg3 {l0 l1 l2 l3 : Value} (k : YG bs X own cc nL d mc ms kc ks pc (l0 :: l1 :: l2 :: zj :: L) st σ I) : YG bs X own cc nL d mc ms kc ks pc (l0 :: l1 :: l2 :: l3 :: L) st σ I :=
  y_fg (fun i u hu hv => by
    by_cases e : i = 3
    · subst e; cases hu; cases hv
    · have e2 : (l0 :: l1 :: l2 :: zj :: L).set 3 l3 = l0 :: l1 :: l2 :: l3 :: L := rfl
      rw [← e2, List.getElem?_set_ne (Ne.symm e)]; exact hu) k
theorem y_ist4 {l0 l1 l2 l3 l4 : Value} {x : Int32} (hd : decode cc pc = .ok (.istore 4, 2)) (hn : 4 < nL) (hg : l3.category = 1) (k : YG bs X own cc nL d mc ms kc ks (pc + 2) (l0 :: l1 :: l2 :: l3 :: .int x :: L) st σ I) : YG bs X own cc nL d mc ms kc ks pc (l0 :: l1 :: l2 :: l3 :: l4 :: L) (.int x :: st) σ I :=
  y_istore hd hn rfl (zgd (j := 3) rfl hg) k
theorem y_inc4 {l0 l1 l2 l3 : Value} {x w : Int32} {n : Int} (hd : decode cc pc = .ok (.iinc 4 n, 3)) (hw : Int32.ofInt n = w) (hn : 4 < nL) (hg : l3.category = 1) (k : YG bs X own cc nL d mc ms kc ks (pc + 3) (l0 :: l1 :: l2 :: l3 :: .int (x + w) :: L) st σ I) : YG bs X own cc nL d mc ms kc ks pc (l0 :: l1 :: l2 :: l3 :: .int x :: L) st σ I :=
  y_iinc (v := x + w) hd rfl (by rw [hw]) hn rfl (zgd (j := 3) rfl hg) k
theorem y_fg4 {l0 l1 l2 l3 l4 : Value} (k : YG bs X own cc nL d mc ms kc ks pc (l0 :: l1 :: l2 :: l3 :: zj :: L) st σ I) : YG bs X own cc nL d mc ms kc ks pc (l0 :: l1 :: l2 :: l3 :: l4 :: L) st σ I :=
  y_fg (fun i u hu hv => by
    by_cases e : i = 4
    · subst e; cases hu; cases hv
    · have e2 : (l0 :: l1 :: l2 :: l3 :: zj :: L).set 4 l4 = l0 :: l1 :: l2 :: l3 :: l4 :: L := rfl
      rw [← e2, List.getElem?_set_ne (Ne.symm e)]; exact hu) k
theorem y_lst4 {l0 l1 l2 l3 l4 l5 : Value} {x : Int64} (hd : decode cc pc = .ok (.lstore 4, 2)) (hn : 4 + 1 < nL) (hg : l3.category = 1) (k : YG bs X own cc nL d mc ms kc ks (pc + 2) (l0 :: l1 :: l2 :: l3 :: .long x :: zj :: L) st σ I) : YG bs X own cc nL d mc ms kc ks pc (l0 :: l1 :: l2 :: l3 :: l4 :: l5 :: L) (.long x :: st) σ I :=
  y_lstore hd hn rfl (zgd (j := 3) rfl hg) k
theorem y_ist5 {l0 l1 l2 l3 l4 l5 : Value} {x : Int32} (hd : decode cc pc = .ok (.istore 5, 2)) (hn : 5 < nL) (hg : l4.category = 1) (k : YG bs X own cc nL d mc ms kc ks (pc + 2) (l0 :: l1 :: l2 :: l3 :: l4 :: .int x :: L) st σ I) : YG bs X own cc nL d mc ms kc ks pc (l0 :: l1 :: l2 :: l3 :: l4 :: l5 :: L) (.int x :: st) σ I :=
  y_istore hd hn rfl (zgd (j := 4) rfl hg) k
theorem y_inc5 {l0 l1 l2 l3 l4 : Value} {x w : Int32} {n : Int} (hd : decode cc pc = .ok (.iinc 5 n, 3)) (hw : Int32.ofInt n = w) (hn : 5 < nL) (hg : l4.category = 1) (k : YG bs X own cc nL d mc ms kc ks (pc + 3) (l0 :: l1 :: l2 :: l3 :: l4 :: .int (x + w) :: L) st σ I) : YG bs X own cc nL d mc ms kc ks pc (l0 :: l1 :: l2 :: l3 :: l4 :: .int x :: L) st σ I :=
  y_iinc (v := x + w) hd rfl (by rw [hw]) hn rfl (zgd (j := 4) rfl hg) k
theorem y_fg5 {l0 l1 l2 l3 l4 l5 : Value} (k : YG bs X own cc nL d mc ms kc ks pc (l0 :: l1 :: l2 :: l3 :: l4 :: zj :: L) st σ I) : YG bs X own cc nL d mc ms kc ks pc (l0 :: l1 :: l2 :: l3 :: l4 :: l5 :: L) st σ I :=
  y_fg (fun i u hu hv => by
    by_cases e : i = 5
    · subst e; cases hu; cases hv
    · have e2 : (l0 :: l1 :: l2 :: l3 :: l4 :: zj :: L).set 5 l5 = l0 :: l1 :: l2 :: l3 :: l4 :: l5 :: L := rfl
      rw [← e2, List.getElem?_set_ne (Ne.symm e)]; exact hu) k
theorem y_lst5 {l0 l1 l2 l3 l4 l5 l6 : Value} {x : Int64} (hd : decode cc pc = .ok (.lstore 5, 2)) (hn : 5 + 1 < nL) (hg : l4.category = 1) (k : YG bs X own cc nL d mc ms kc ks (pc + 2) (l0 :: l1 :: l2 :: l3 :: l4 :: .long x :: zj :: L) st σ I) : YG bs X own cc nL d mc ms kc ks pc (l0 :: l1 :: l2 :: l3 :: l4 :: l5 :: l6 :: L) (.long x :: st) σ I :=
  y_lstore hd hn rfl (zgd (j := 4) rfl hg) k
theorem y_ist6 {l0 l1 l2 l3 l4 l5 l6 : Value} {x : Int32} (hd : decode cc pc = .ok (.istore 6, 2)) (hn : 6 < nL) (hg : l5.category = 1) (k : YG bs X own cc nL d mc ms kc ks (pc + 2) (l0 :: l1 :: l2 :: l3 :: l4 :: l5 :: .int x :: L) st σ I) : YG bs X own cc nL d mc ms kc ks pc (l0 :: l1 :: l2 :: l3 :: l4 :: l5 :: l6 :: L) (.int x :: st) σ I :=
  y_istore hd hn rfl (zgd (j := 5) rfl hg) k
theorem y_inc6 {l0 l1 l2 l3 l4 l5 : Value} {x w : Int32} {n : Int} (hd : decode cc pc = .ok (.iinc 6 n, 3)) (hw : Int32.ofInt n = w) (hn : 6 < nL) (hg : l5.category = 1) (k : YG bs X own cc nL d mc ms kc ks (pc + 3) (l0 :: l1 :: l2 :: l3 :: l4 :: l5 :: .int (x + w) :: L) st σ I) : YG bs X own cc nL d mc ms kc ks pc (l0 :: l1 :: l2 :: l3 :: l4 :: l5 :: .int x :: L) st σ I :=
  y_iinc (v := x + w) hd rfl (by rw [hw]) hn rfl (zgd (j := 5) rfl hg) k
theorem y_fg6 {l0 l1 l2 l3 l4 l5 l6 : Value} (k : YG bs X own cc nL d mc ms kc ks pc (l0 :: l1 :: l2 :: l3 :: l4 :: l5 :: zj :: L) st σ I) : YG bs X own cc nL d mc ms kc ks pc (l0 :: l1 :: l2 :: l3 :: l4 :: l5 :: l6 :: L) st σ I :=
  y_fg (fun i u hu hv => by
    by_cases e : i = 6
    · subst e; cases hu; cases hv
    · have e2 : (l0 :: l1 :: l2 :: l3 :: l4 :: l5 :: zj :: L).set 6 l6 = l0 :: l1 :: l2 :: l3 :: l4 :: l5 :: l6 :: L := rfl
      rw [← e2, List.getElem?_set_ne (Ne.symm e)]; exact hu) k
theorem y_lst6 {l0 l1 l2 l3 l4 l5 l6 l7 : Value} {x : Int64} (hd : decode cc pc = .ok (.lstore 6, 2)) (hn : 6 + 1 < nL) (hg : l5.category = 1) (k : YG bs X own cc nL d mc ms kc ks (pc + 2) (l0 :: l1 :: l2 :: l3 :: l4 :: l5 :: .long x :: zj :: L) st σ I) : YG bs X own cc nL d mc ms kc ks pc (l0 :: l1 :: l2 :: l3 :: l4 :: l5 :: l6 :: l7 :: L) (.long x :: st) σ I :=
  y_lstore hd hn rfl (zgd (j := 5) rfl hg) k
theorem y_ist7 {l0 l1 l2 l3 l4 l5 l6 l7 : Value} {x : Int32} (hd : decode cc pc = .ok (.istore 7, 2)) (hn : 7 < nL) (hg : l6.category = 1) (k : YG bs X own cc nL d mc ms kc ks (pc + 2) (l0 :: l1 :: l2 :: l3 :: l4 :: l5 :: l6 :: .int x :: L) st σ I) : YG bs X own cc nL d mc ms kc ks pc (l0 :: l1 :: l2 :: l3 :: l4 :: l5 :: l6 :: l7 :: L) (.int x :: st) σ I :=
  y_istore hd hn rfl (zgd (j := 6) rfl hg) k
theorem y_inc7 {l0 l1 l2 l3 l4 l5 l6 : Value} {x w : Int32} {n : Int} (hd : decode cc pc = .ok (.iinc 7 n, 3)) (hw : Int32.ofInt n = w) (hn : 7 < nL) (hg : l6.category = 1) (k : YG bs X own cc nL d mc ms kc ks (pc + 3) (l0 :: l1 :: l2 :: l3 :: l4 :: l5 :: l6 :: .int (x + w) :: L) st σ I) : YG bs X own cc nL d mc ms kc ks pc (l0 :: l1 :: l2 :: l3 :: l4 :: l5 :: l6 :: .int x :: L) st σ I :=
  y_iinc (v := x + w) hd rfl (by rw [hw]) hn rfl (zgd (j := 6) rfl hg) k
theorem y_fg7 {l0 l1 l2 l3 l4 l5 l6 l7 : Value} (k : YG bs X own cc nL d mc ms kc ks pc (l0 :: l1 :: l2 :: l3 :: l4 :: l5 :: l6 :: zj :: L) st σ I) : YG bs X own cc nL d mc ms kc ks pc (l0 :: l1 :: l2 :: l3 :: l4 :: l5 :: l6 :: l7 :: L) st σ I :=
  y_fg (fun i u hu hv => by
    by_cases e : i = 7
    · subst e; cases hu; cases hv
    · have e2 : (l0 :: l1 :: l2 :: l3 :: l4 :: l5 :: l6 :: zj :: L).set 7 l7 = l0 :: l1 :: l2 :: l3 :: l4 :: l5 :: l6 :: l7 :: L := rfl
      rw [← e2, List.getElem?_set_ne (Ne.symm e)]; exact hu) k
theorem y_lst7 {l0 l1 l2 l3 l4 l5 l6 l7 l8 : Value} {x : Int64} (hd : decode cc pc = .ok (.lstore 7, 2)) (hn : 7 + 1 < nL) (hg : l6.category = 1) (k : YG bs X own cc nL d mc ms kc ks (pc + 2) (l0 :: l1 :: l2 :: l3 :: l4 :: l5 :: l6 :: .long x :: zj :: L) st σ I) : YG bs X own cc nL d mc ms kc ks pc (l0 :: l1 :: l2 :: l3 :: l4 :: l5 :: l6 :: l7 :: l8 :: L) (.long x :: st) σ I :=
  y_lstore hd hn rfl (zgd (j := 6) rfl hg) k
theorem y_ist8 {l0 l1 l2 l3 l4 l5 l6 l7 l8 : Value} {x : Int32} (hd : decode cc pc = .ok (.istore 8, 2)) (hn : 8 < nL) (hg : l7.category = 1) (k : YG bs X own cc nL d mc ms kc ks (pc + 2) (l0 :: l1 :: l2 :: l3 :: l4 :: l5 :: l6 :: l7 :: .int x :: L) st σ I) : YG bs X own cc nL d mc ms kc ks pc (l0 :: l1 :: l2 :: l3 :: l4 :: l5 :: l6 :: l7 :: l8 :: L) (.int x :: st) σ I :=
  y_istore hd hn rfl (zgd (j := 7) rfl hg) k
theorem y_inc8 {l0 l1 l2 l3 l4 l5 l6 l7 : Value} {x w : Int32} {n : Int} (hd : decode cc pc = .ok (.iinc 8 n, 3)) (hw : Int32.ofInt n = w) (hn : 8 < nL) (hg : l7.category = 1) (k : YG bs X own cc nL d mc ms kc ks (pc + 3) (l0 :: l1 :: l2 :: l3 :: l4 :: l5 :: l6 :: l7 :: .int (x + w) :: L) st σ I) : YG bs X own cc nL d mc ms kc ks pc (l0 :: l1 :: l2 :: l3 :: l4 :: l5 :: l6 :: l7 :: .int x :: L) st σ I :=
  y_iinc (v := x + w) hd rfl (by rw [hw]) hn rfl (zgd (j := 7) rfl hg) k
theorem y_fg8 {l0 l1 l2 l3 l4 l5 l6 l7 l8 : Value} (k : YG bs X own cc nL d mc ms kc ks pc (l0 :: l1 :: l2 :: l3 :: l4 :: l5 :: l6 :: l7 :: zj :: L) st σ I) : YG bs X own cc nL d mc ms kc ks pc (l0 :: l1 :: l2 :: l3 :: l4 :: l5 :: l6 :: l7 :: l8 :: L) st σ I :=
  y_fg (fun i u hu hv => by
    by_cases e : i = 8
    · subst e; cases hu; cases hv
    · have e2 : (l0 :: l1 :: l2 :: l3 :: l4 :: l5 :: l6 :: l7 :: zj :: L).set 8 l8 = l0 :: l1 :: l2 :: l3 :: l4 :: l5 :: l6 :: l7 :: l8 :: L := rfl
      rw [← e2, List.getElem?_set_ne (Ne.symm e)]; exact hu) k
theorem y_lst8 {l0 l1 l2 l3 l4 l5 l6 l7 l8 l9 : Value} {x : Int64} (hd : decode cc pc = .ok (.lstore 8, 2)) (hn : 8 + 1 < nL) (hg : l7.category = 1) (k : YG bs X own cc nL d mc ms kc ks (pc + 2) (l0 :: l1 :: l2 :: l3 :: l4 :: l5 :: l6 :: l7 :: .long x :: zj :: L) st σ I) : YG bs X own cc nL d mc ms kc ks pc (l0 :: l1 :: l2 :: l3 :: l4 :: l5 :: l6 :: l7 :: l8 :: l9 :: L) (.long x :: st) σ I :=
  y_lstore hd hn rfl (zgd (j := 7) rfl hg) k
theorem y_ast1 {l0 l1 : Value} {x : Nat} (hd : decode cc pc = .ok (.astore_n 1, 1)) (hn : 1 < nL) (hg : l0.category = 1) (k : YG bs X own cc nL d mc ms kc ks (pc + 1) (l0 :: .ref x :: L) st σ I) : YG bs X own cc nL d mc ms kc ks pc (l0 :: l1 :: L) (.ref x :: st) σ I :=
  y_astore_n hd hn rfl (zgd (j := 0) rfl hg) k
end YR
