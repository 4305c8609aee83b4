/-! ===== memory, calls, returns ===== -/
theorem z_tab1 {w : Cond} {i : Nat} (h : tables_1[i]? = some w) : w ∈ lw_tbl := List.mem_append_right _ (List.mem_of_getElem? h)
theorem z_tab0 {w : Cond} {i : Nat} (h : lw_tbl[i]? = some w) : w ∈ lw_tbl := List.mem_of_getElem? h
/-- a class of ours: its words, its fields' types, apart by name; what its fields begin with -/
def ZCl (ci : Nat) (ini : List Nat) : Prop := ∃ (C : String) (T : u_T) (N : Nat) (ty : Nat → FieldType), vwCl[ci]? = some (C, T, N) ∧ (∀ w ∈ u_ws C T N, w ∈ ZW) ∧ (∀ k, k < N → parseFieldDescriptor (T k).2.2.1 = some (ty k)) ∧ (∀ a, a < N → ∀ b, b < N → a ≠ b → (T a).2.1 ≠ (T b).2.1) ∧ Cond.instantiable C N ∈ ZW ∧ Cond.initialized C ∈ ZW ∧ ini.length = N ∧ ∀ k, k < N → defaultValue (ty k) = (match ini.getD k 1 with | 0 => Value.int 0 | _ => Value.null)
/-- a field by its place in a class's pool -/
def ZF (own : String) (idx ci k : Nat) (ty : FieldType) (fin : Bool) : Prop := ∃ (C : String) (T : u_T) (N : Nat), vwCl[ci]? = some (C, T, N) ∧ k < N ∧ (Cond.fieldLink own idx (T k).1 (T k).2.1 (T k).2.2.1 ∈ lw_tbl ∨ ∃ host, Cond.fieldLinkNest own idx (T k).1 (T k).2.1 (T k).2.2.1 host ∈ lw_tbl) ∧ (T k).2.2.2 = fin ∧ parseFieldDescriptor (T k).2.2.1 = some ty ∧ (T k).1 = C
def ZFF (own : String) (idx ci k : Nat) (ty : FieldType) : Prop := ∃ (C : String) (T : u_T) (N : Nat), vwCl[ci]? = some (C, T, N) ∧ k < N ∧ Cond.fieldLink own idx (T k).1 (T k).2.1 (T k).2.2.1 ∈ lw_tbl ∧ (T k).2.2.2 = true ∧ parseFieldDescriptor (T k).2.2.1 = some ty ∧ (T k).1 = C
def zini (ci : Nat) : List Nat := match ci with
  | 0 => [1, 0, 0]
  | 1 => [1, 1, 1, 1, 1, 0, 0]
  | 2 => [0]
  | 3 => [1, 1, 1, 1]
  | 4 => [1, 1, 1, 1, 1, 0, 0]
  | 5 => [1, 0]
  | 6 => [1]
  | 7 => [1, 1, 1, 1, 1, 0]
  | 8 => [1, 1, 1, 0, 0]
  | 9 => [1, 1, 1, 1, 1, 1, 1, 1, 0]
  | 10 => [1, 1, 0, 0, 1, 1, 1, 1, 0, 1, 1, 1, 0, 1, 1, 1, 0]
  | _ => []
theorem zws_0 : ∀ w ∈ u_ws RX0 TX0 3, w ∈ ZW := by
  have h : (u_ws RX0 TX0 3).all (fun w => decide (w ∈ tables_1) && goodWord w) = true := by decide +kernel
  intro w hw
  have h1 := List.all_eq_true.mp h w hw
  simp only [Bool.and_eq_true, decide_eq_true_eq] at h1
  exact zw_in (List.mem_append_right _ h1.1) h1.2
theorem zcl_0 : ZCl 0 [1, 0, 0] := ⟨RX0, TX0, 3, tyX0, rfl, zws_0, tyX0_ok, nmX0, zw_in (List.mem_append_right _ (by decide +kernel)) rfl, zw_in (List.mem_append_right _ (by decide +kernel)) rfl, rfl, by decide +kernel⟩
theorem zws_1 : ∀ w ∈ u_ws RX1 TX1 7, w ∈ ZW := by
  have h : (u_ws RX1 TX1 7).all (fun w => decide (w ∈ tables_1) && goodWord w) = true := by decide +kernel
  intro w hw
  have h1 := List.all_eq_true.mp h w hw
  simp only [Bool.and_eq_true, decide_eq_true_eq] at h1
  exact zw_in (List.mem_append_right _ h1.1) h1.2
theorem zcl_1 : ZCl 1 [1, 1, 1, 1, 1, 0, 0] := ⟨RX1, TX1, 7, tyX1, rfl, zws_1, tyX1_ok, nmX1, zw_in (List.mem_append_right _ (by decide +kernel)) rfl, zw_in (List.mem_append_right _ (by decide +kernel)) rfl, rfl, by decide +kernel⟩
theorem zws_2 : ∀ w ∈ u_ws RX2 TX2 1, w ∈ ZW := by
  have h : (u_ws RX2 TX2 1).all (fun w => decide (w ∈ tables_1) && goodWord w) = true := by decide +kernel
  intro w hw
  have h1 := List.all_eq_true.mp h w hw
  simp only [Bool.and_eq_true, decide_eq_true_eq] at h1
  exact zw_in (List.mem_append_right _ h1.1) h1.2
theorem zcl_2 : ZCl 2 [0] := ⟨RX2, TX2, 1, tyX2, rfl, zws_2, tyX2_ok, nmX2, zw_in (List.mem_append_right _ (by decide +kernel)) rfl, zw_in (List.mem_append_right _ (by decide +kernel)) rfl, rfl, by decide +kernel⟩
theorem zws_3 : ∀ w ∈ u_ws RX3 TX3 4, w ∈ ZW := by
  have h : (u_ws RX3 TX3 4).all (fun w => decide (w ∈ tables_1) && goodWord w) = true := by decide +kernel
  intro w hw
  have h1 := List.all_eq_true.mp h w hw
  simp only [Bool.and_eq_true, decide_eq_true_eq] at h1
  exact zw_in (List.mem_append_right _ h1.1) h1.2
theorem zcl_3 : ZCl 3 [1, 1, 1, 1] := ⟨RX3, TX3, 4, tyX3, rfl, zws_3, tyX3_ok, nmX3, zw_in (List.mem_append_right _ (by decide +kernel)) rfl, zw_in (List.mem_append_right _ (by decide +kernel)) rfl, rfl, by decide +kernel⟩
theorem zws_4 : ∀ w ∈ u_ws RX4 TX4 7, w ∈ ZW := by
  have h : (u_ws RX4 TX4 7).all (fun w => decide (w ∈ tables_1) && goodWord w) = true := by decide +kernel
  intro w hw
  have h1 := List.all_eq_true.mp h w hw
  simp only [Bool.and_eq_true, decide_eq_true_eq] at h1
  exact zw_in (List.mem_append_right _ h1.1) h1.2
theorem zcl_4 : ZCl 4 [1, 1, 1, 1, 1, 0, 0] := ⟨RX4, TX4, 7, tyX4, rfl, zws_4, tyX4_ok, nmX4, zw_in (List.mem_append_right _ (by decide +kernel)) rfl, zw_in (List.mem_append_right _ (by decide +kernel)) rfl, rfl, by decide +kernel⟩
theorem zws_5 : ∀ w ∈ u_ws RX5 TX5 2, w ∈ ZW := by
  have h : (u_ws RX5 TX5 2).all (fun w => decide (w ∈ tables_1) && goodWord w) = true := by decide +kernel
  intro w hw
  have h1 := List.all_eq_true.mp h w hw
  simp only [Bool.and_eq_true, decide_eq_true_eq] at h1
  exact zw_in (List.mem_append_right _ h1.1) h1.2
theorem zcl_5 : ZCl 5 [1, 0] := ⟨RX5, TX5, 2, tyX5, rfl, zws_5, tyX5_ok, nmX5, zw_in (List.mem_append_right _ (by decide +kernel)) rfl, zw_in (List.mem_append_right _ (by decide +kernel)) rfl, rfl, by decide +kernel⟩
theorem zws_6 : ∀ w ∈ u_ws RX6 TX6 1, w ∈ ZW := by
  have h : (u_ws RX6 TX6 1).all (fun w => decide (w ∈ tables_1) && goodWord w) = true := by decide +kernel
  intro w hw
  have h1 := List.all_eq_true.mp h w hw
  simp only [Bool.and_eq_true, decide_eq_true_eq] at h1
  exact zw_in (List.mem_append_right _ h1.1) h1.2
theorem zcl_6 : ZCl 6 [1] := ⟨RX6, TX6, 1, tyX6, rfl, zws_6, tyX6_ok, nmX6, zw_in (List.mem_append_right _ (by decide +kernel)) rfl, zw_in (List.mem_append_right _ (by decide +kernel)) rfl, rfl, by decide +kernel⟩
theorem zws_7 : ∀ w ∈ u_ws RX7 TX7 6, w ∈ ZW := by
  have h : (u_ws RX7 TX7 6).all (fun w => decide (w ∈ tables_1) && goodWord w) = true := by decide +kernel
  intro w hw
  have h1 := List.all_eq_true.mp h w hw
  simp only [Bool.and_eq_true, decide_eq_true_eq] at h1
  exact zw_in (List.mem_append_right _ h1.1) h1.2
theorem zcl_7 : ZCl 7 [1, 1, 1, 1, 1, 0] := ⟨RX7, TX7, 6, tyX7, rfl, zws_7, tyX7_ok, nmX7, zw_in (List.mem_append_right _ (by decide +kernel)) rfl, zw_in (List.mem_append_right _ (by decide +kernel)) rfl, rfl, by decide +kernel⟩
theorem zws_8 : ∀ w ∈ u_ws RX8 TX8 5, w ∈ ZW := by
  have h : (u_ws RX8 TX8 5).all (fun w => decide (w ∈ tables_1) && goodWord w) = true := by decide +kernel
  intro w hw
  have h1 := List.all_eq_true.mp h w hw
  simp only [Bool.and_eq_true, decide_eq_true_eq] at h1
  exact zw_in (List.mem_append_right _ h1.1) h1.2
theorem zcl_8 : ZCl 8 [1, 1, 1, 0, 0] := ⟨RX8, TX8, 5, tyX8, rfl, zws_8, tyX8_ok, nmX8, zw_in (List.mem_append_right _ (by decide +kernel)) rfl, zw_in (List.mem_append_right _ (by decide +kernel)) rfl, rfl, by decide +kernel⟩
theorem zws_9 : ∀ w ∈ u_ws RX9 TX9 9, w ∈ ZW := by
  have h : (u_ws RX9 TX9 9).all (fun w => decide (w ∈ tables_1) && goodWord w) = true := by decide +kernel
  intro w hw
  have h1 := List.all_eq_true.mp h w hw
  simp only [Bool.and_eq_true, decide_eq_true_eq] at h1
  exact zw_in (List.mem_append_right _ h1.1) h1.2
theorem zcl_9 : ZCl 9 [1, 1, 1, 1, 1, 1, 1, 1, 0] := ⟨RX9, TX9, 9, tyX9, rfl, zws_9, tyX9_ok, nmX9, zw_in (List.mem_append_right _ (by decide +kernel)) rfl, zw_in (List.mem_append_right _ (by decide +kernel)) rfl, rfl, by decide +kernel⟩
theorem z_ini01 (ci j : Nat) : (zini ci).getD j 1 = 0 ∨ (zini ci).getD j 1 = 1 := by
  have h : ∀ ci, ci < 11 → ∀ x ∈ zini ci, x = 0 ∨ x = 1 := by decide +kernel
  by_cases hc : ci < 11
  · cases e : (zini ci)[j]? with
    | none => right; simp [List.getD, e]
    | some x =>
      have := h ci hc x (List.mem_of_getElem? e)
      simpa [List.getD, e] using this
  · right
    have : zini ci = [] := by
      match ci, hc with
      | n + 11, _ => rfl
    simp [this]
theorem zcl_all {ci : Nat} {r : vw_C} (h : vwCl[ci]? = some r) : ZCl ci (zini ci) := by
  match ci, h with
  | 0, _ => exact zcl_0
  | 1, _ => exact zcl_1
  | 2, _ => exact zcl_2
  | 3, _ => exact zcl_3
  | 4, _ => exact zcl_4
  | 5, _ => exact zcl_5
  | 6, _ => exact zcl_6
  | 7, _ => exact zcl_7
  | 8, _ => exact zcl_8
  | 9, _ => exact zcl_9
  | n + 10, h => simp [vwCl] at h
def ZM (y : MethodName) (cc : ByteArray) (nL : Nat) (ret : Option FieldType) (n : Nat) : Prop := Cond.code y cc nL ret ∈ lw_tbl ∧ (plainName y.cls = true ∧ Cond.initialized y.cls ∈ lw_tbl) ∧ nL ≤ 21 ∧ y.cls ≠ "java/lang/invoke/MethodHandle" ∧ y.cls ≠ "java/lang/invoke/VarHandle" ∧ (parseMethodDescriptor y.desc).map (fun d => d.parameters.length) = some n
def ZV (own : String) (idx : Nat) (y : MethodName) : Prop := Cond.methodLink own idx y ∈ lw_tbl ∧ Cond.instanceMethod y ∈ lw_tbl ∧ Cond.selects y.cls y y ∈ lw_tbl
def ZS (own : String) (idx : Nat) (y : MethodName) : Prop := Cond.methodLink own idx y ∈ lw_tbl ∧ Cond.static y ∈ lw_tbl
def ZN (own : String) (idx : Nat) (y : MethodName) : Prop := (Cond.methodLink own idx y ∈ lw_tbl ∨ ∃ host, Cond.methodLinkNest own idx y host ∈ lw_tbl) ∧ Cond.instanceMethod y ∈ lw_tbl ∧ y.name = "<init>"
theorem z_good {y : MethodName} {cc : ByteArray} {nL : Nat} {ret : Option FieldType} (h : Cond.code y cc nL ret ∈ lw_tbl) : GoodIn ZW (zws y cc nL ret) := by
  intro w hw
  rcases List.mem_cons.mp hw with rfl | hw
  · exact ⟨zw_in h rfl, good_of_word rfl⟩
  · exact ⟨hw, good_of_word (List.mem_filter.mp hw).2⟩
theorem z_goodV {own : String} {idx n : Nat} {y : MethodName} {cc : ByteArray} {nL : Nat} {ret : Option FieldType} (h : ZM y cc nL ret n) (hV : ZV own idx y) : GoodIn ZW (wsV own idx y.cls y (zws y cc nL ret)) := by
  intro w hw
  rcases List.mem_append.mp hw with hw | hw
  · simp only [List.mem_cons, List.not_mem_nil, or_false] at hw
    rcases hw with rfl | rfl | rfl | rfl
    · exact ⟨zw_in hV.1 rfl, good_of_word rfl⟩
    · exact ⟨zw_in hV.2.1 rfl, good_of_word rfl⟩
    · exact ⟨zw_in hV.2.2 rfl, good_of_word rfl⟩
    · exact ⟨zw_in h.2.1.2 rfl, good_of_word rfl⟩
  · exact z_good h.1 w hw
section ZK
variable {p : Program} {l : Launch} {e : Env} {R : Room} {s : State} {m : MethodId} {args : Array Value} {below : List Frame} {meth : Method} {c : Code} {H : Heap} {locs : List Loc} {cells slots : Nat} {Q : State → Prop}
/-- a run makes no more cells than it has said -/
theorem z_sized {g : JFrame} (k : H.size ≤ s.heap.size + cells → W p l e R s m args below meth c H locs cells slots Q g) : W p l e R s m args below meth c H locs cells slots Q g := by
  intro T hT X
  have h1 : T.heap.size ≤ s.heap.size + cells := X.same.2.2.1
  exact k (by rw [← hT]; exact h1) T hT X
/-- a later heap behind an earlier one -/
theorem z_S {A : Nat → Prop} {H0 H H1 : Heap} {locs locs1 : List Loc} (h0 : va_S A H0 H locs) (h1 : va_S A H H1 locs1) : va_S A H0 H1 locs1 :=
  ⟨Nat.le_trans h0.1 h1.1, fun q hq ha => (h1.2.1 q (Nat.lt_of_lt_of_le hq h0.1) ha).trans (h0.2.1 q hq ha), h1.2.2⟩
theorem z_S0 {A : Nat → Prop} {H0 H : Heap} {locs : List Loc} (h0 : va_S A H0 H locs) : va_S A H H locs := ⟨Nat.le_refl _, fun _ _ _ => rfl, h0.2.2⟩
end ZK
/-- what a method of ours answers and leaves -/
def ZQ (cy : Nat → ClassId) (D : va_G) (b : Nat) (Q : Option Value → List ZC → ZI → Prop) : Array Value → State → Outcome → State → Prop := fun _ st oc t =>
  (∃ (r : Option Value) (σ' : List ZC) (I' : ZI), oc = .returned (r.map (zren b)) ∧ Q r σ' I' ∧ ZH cy D b σ' I' t.heap) ∧ va_F (ZA b) st t
/-- THE CONTRACT of a method: from a world (σ, I) it returns with Q; it makes mc cells of ms slots; d frames are enough below it -/
def ZSp (y : MethodName) (cc : ByteArray) (nL : Nat) (ret : Option FieldType) (d mc ms : Nat) (args : List Value) (σ : List ZC) (I : ZI) (Q : Option Value → List ZC → ZI → Prop) : Prop :=
  ∀ (l : Launch) (cy : Nat → ClassId) (D : va_G) (b : Nat), Met l y (zws y cc nL ret) ({ frames := d, cells := mc, slots := ms, locals := 40 * d }) (va_Pc (args.map (zren b)) (fun U => ZH cy D b σ I U.heap ∧ ZT cy D U)) (ZQ cy D b Q) mc ms (ZA b)
def ZEnd (X : ZX) (ret : Option FieldType) (mc ms : Nat) (Q : Option Value → List ZC → ZI → Prop) : Prop := match X with
  | (_, _, _, _, s, _, args, below, meth, _, Qf, cy, D, b) => meth.sig.returnType = ret ∧ Qf = MQ below (ZQ cy D b Q) args s mc ms (ZA b)
def ZNm (X : ZX) (n : String) : Prop := match X with
  | (_, _, _, _, _, _, _, _, meth, _, _, _, _, _) => meth.name = n
theorem ZSp.of {y : MethodName} {cc : ByteArray} {nL d mc ms : Nat} {ret : Option FieldType} {args : List Value} {σ : List ZC} {I : ZI} {Q : Option Value → List ZC → ZI → Prop} {own : String} {n : Nat} {L : List Value} (hM : ZM y cc nL ret n) (hy : y.cls = own)
    (hk : ∀ v ∈ args, zknown v = true) (hn : (lg_sl args).length ≤ nL) (hL : zent args ++ List.replicate (nL - (zent args).length) zj = L)
    (body : ∀ X : ZX, ZEnd X ret mc ms Q → ZNm X y.name → ZG X own cc nL d mc ms 0 0 0 L [] σ I) : ZSp y cc nL ret d mc ms args σ I Q := by
  intro l cy D b
  refine Met.ofW (cc := cc) (maxL := nL) (ret := ret) hM.2.1.1 rfl ?_
  intro p e s m ar below meth c s₁ B hml hv
  obtain ⟨rfl, hH, hT⟩ := hv
  have hlen : ∀ vs : List Value, (lg_sl (vs.map (zren b))).length = (lg_sl vs).length := by
    intro vs
    induction vs with
    | nil => rfl
    | cons v vs ih =>
      simp only [lg_sl, List.map_cons, List.flatMap_cons, List.length_append] at ih ⊢
      rw [ih, zren_cat]
      by_cases hc : v.category = 2 <;> simp [hc]
  have hl := lv_entry (args.map (zren b)) (n := nL) (by rw [hlen]; exact hn)
  rw [lg_entry_eq]
  generalize ((lg_sl (args.map (zren b))) ++ List.replicate (nL - (lg_sl (args.map (zren b))).length) Slot.unset).toArray = ls at hl ⊢
  have hl2 : lv_has ls nL (zlv b 0 L) := by
    rw [← hL, zlv_app, zent_args b args 0 hk]
    exact hl
  have hts : ∀ w ∈ ZW, w.before (args.map (zren b)).toArray s = true := fun w hw => atoms_spec (ws := zws y cc nL ret) B.pre w (List.mem_cons_of_mem _ hw)
  have hown : s.vm.findClass own = some m.cls := hy ▸ findClass_of_methodNamed B.named
  have hnm : meth.name = y.name := (name_of_methodNamed B.named B.method).1
  exact body (p, l, e, (headSpec (zws y cc nL ret) ({ frames := d, cells := mc, slots := ms, locals := 40 * d })).room, s, m, (args.map (zren b)).toArray, below, meth, c, MQ below (ZQ cy D b Q) (args.map (zren b)).toArray s mc ms (ZA b), cy, D, b) ⟨B.returns, rfl⟩ hnm
    ⟨B.exec, B.bytes, hml, hown, hts, hT, by have := hH.1; omega, B.notSynchronized, Nat.le_refl _, Nat.le_refl _, Nat.le_refl _, Nat.le_refl _⟩ s.heap [] ls hH (by have := hH.1; omega) va_S.rf hl2
section ZR2
variable {X : ZX} {own : String} {cc : ByteArray} {nL d mc ms kc ks pc : Nat} {L st : List Value} {σ : List ZC} {I : ZI}
theorem ZOK.base {own : String} {cc : ByteArray} {nL d mc ms : Nat} (hX : ZOK X own cc nL d mc ms) : X.2.2.2.2.2.2.2.2.2.2.2.2.2 ≤ X.2.2.2.2.1.heap.size := by
  obtain ⟨p, l, e, R, s, m, args, below, meth, c, Q, cy, D, b⟩ := X
  exact hX.2.2.2.2.2.2.1

theorem z_get {idx ci kf a r : Nat} {rs : List Nat} {ty : FieldType} {fin : Bool} (hF : ZF own idx ci kf ty fin) (hd : decode cc pc = .ok (.getfield idx, 3)) (hc : σ[a]? = some (0, ci, rs)) (hk : rs[kf]? = some r)
    (k : ∀ v, v = zval 0 r (I a kf) → ZG X own cc nL d mc ms kc ks (pc + 3) L (v :: st) σ I) : ZG X own cc nL d mc ms kc ks pc L (.ref a :: st) σ I := by
  obtain ⟨p, l, e, R, s, m, args, below, meth, c, Q, cy, D, b⟩ := X
  intro hX H locs ls hH hz hS hl
  obtain ⟨C, T, N, h1, h2, h3, h4, h5, h6⟩ := hF
  obtain ⟨C', T', N', ty', g1, g2, g3, g4, g5, g6, -, -⟩ := zcl_all h1
  cases h1.symm.trans g1
  have he : (zwld cy b I 0 σ)[a]? = some (b + a, .inr (ci, zvals b (I a) 0 rs)) := zwld_at hc
  have hv : (zvals b (I a) 0 rs)[kf]? = some (zval b r (I a kf)) := by rw [zvals_get, hk, Nat.zero_add]; rfl
  have hr : zren b (zval 0 r (I a kf)) = zval b r (I a kf) := by
    match r with
    | 0 => rfl
    | 1 => rfl
    | r + 2 => simp [zval, zren]
  have hk2 := k _ rfl hX H locs ls hH hz hS hl
  rw [List.map_cons, hr] at hk2
  rcases h3 with h3 | ⟨host, h3⟩
  · exact va_get hX.1 hX.2.1 hX.2.2.2.2.1 g2 hX.2.2.2.1 hX.2.2.2.2.2.1.1 hH.2 a he g1 kf h2 (hX.2.2.2.2.1 _ (zw_in h3 rfl)) (fun _ h => h) hv hd hk2
  · exact va_getN hX.1 hX.2.1 hX.2.2.2.2.1 g2 hX.2.2.2.1 hX.2.2.2.2.2.1.1 hH.2 a he g1 kf h2 (va_Nw.use rfl (hX.2.2.2.2.2.1.2.1 _ h3 rfl)) (fun _ h => h) hv hd hk2
theorem z_getI {idx ci kf a : Nat} {rs : List Nat} {ty : FieldType} {fin : Bool} (hF : ZF own idx ci kf ty fin) (hd : decode cc pc = .ok (.getfield idx, 3)) (hc : σ[a]? = some (0, ci, rs)) (hk : rs[kf]? = some 0)
    (k : ZG X own cc nL d mc ms kc ks (pc + 3) L (.int (I a kf) :: st) σ I) : ZG X own cc nL d mc ms kc ks pc L (.ref a :: st) σ I := z_get hF hd hc hk (fun v hv => by rw [hv]; exact k)
theorem z_getR {idx ci kf a r : Nat} {rs : List Nat} {ty : FieldType} {fin : Bool} (hF : ZF own idx ci kf ty fin) (hd : decode cc pc = .ok (.getfield idx, 3)) (hc : σ[a]? = some (0, ci, rs)) (hk : rs[kf]? = some (r + 2))
    (k : ZG X own cc nL d mc ms kc ks (pc + 3) L (.ref r :: st) σ I) : ZG X own cc nL d mc ms kc ks pc L (.ref a :: st) σ I := z_get hF hd hc hk (fun v hv => by rw [hv]; simpa [zval] using k)
/-- the cell's new fields fit the world's -/
theorem z_putX {idx ci kf a : Nat} {rs : List Nat} {ty : FieldType} {v : Value} (hF : ZF own idx ci kf ty false) (hd : decode cc pc = .ok (.putfield idx, 3)) (hc : σ[a]? = some (0, ci, rs)) (hl0 : kf < rs.length) (hn : ∀ b, narrow ty (zren b v) = zren b v) (hfit : ∀ b, fits ty (zren b v) = true) {σ' : List ZC} {I' : ZI} (hlen : σ'.length = σ.length)
    (hw : ∀ cy b, (zwld cy b I 0 σ).set a (b + a, .inr (ci, (zvals b (I a) 0 rs).set kf (zren b v))) = zwld cy b I' 0 σ')
    (k : ZG X own cc nL d mc ms kc ks (pc + 3) L st σ' I') : ZG X own cc nL d mc ms kc ks pc L (v :: .ref a :: st) σ I := by
  obtain ⟨p, l, e, R, s, m, args, below, meth, c, Q, cy, D, b⟩ := X
  intro hX H locs ls hH hz hS hl
  obtain ⟨C, T, N, h1, h2, h3, h4, h5, h6⟩ := hF
  obtain ⟨C', T', N', ty', g1, g2, g3, g4, g5, g6, -, -⟩ := zcl_all h1
  cases h1.symm.trans g1
  have he : (zwld cy b I 0 σ)[a]? = some (b + a, .inr (ci, zvals b (I a) 0 rs)) := zwld_at hc
  have kk : ∀ (H1 : Heap) (locs1 : List Loc), va_P D vwCl ((zwld cy b I 0 σ).set a (b + a, .inr (ci, (zvals b (I a) 0 rs).set kf (zren b v)))) H1 → va_D (ZA b) ((zwld cy b I 0 σ).set a (b + a, .inr (ci, (zvals b (I a) 0 rs).set kf (zren b v)))) → va_S (ZA b) H H1 locs1 → W p l e R s m args below meth c H1 locs1 kc ks Q (F0 m (pc + 3) ls (st.map (zren b))) := by
    intro H1 locs1 hP1 hD1 hS1
    refine z_sized (fun hle => ?_)
    have e0 := hH.1
    have e1 := hS1.1
    rw [hw] at hP1
    exact k hX H1 locs1 ls ⟨by omega, hP1⟩ (by omega) (z_S hS hS1) hl
  rcases h3 with h3 | ⟨host, h3⟩
  · exact va_put hX.1 hX.2.1 hX.2.2.2.2.1 g2 ty' g3 g4 hX.2.2.2.1 hX.2.2.2.2.2.1.1 hH.2 (zwld_D cy b I σ) (z_S0 hS) a he g1 kf h2 (hX.2.2.2.2.1 _ (zw_in h3 rfl)) (fun _ h => h) h4 h5 (hn b) (hfit b) (by rw [zvals_len]; exact hl0) hd kk
  · exact va_putN hX.1 hX.2.1 hX.2.2.2.2.1 g2 ty' g3 g4 hX.2.2.2.1 hX.2.2.2.2.2.1.1 hH.2 (zwld_D cy b I σ) (z_S0 hS) a he g1 kf h2 (va_Nw.use rfl (hX.2.2.2.2.2.1.2.1 _ h3 rfl)) (fun _ h => h) h4 h5 (hn b) (hfit b) (by rw [zvals_len]; exact hl0) hd kk
theorem z_putFX {idx ci kf a : Nat} {rs : List Nat} {ty : FieldType} {v : Value} (hF : ZFF own idx ci kf ty) (hN : ZNm X "<init>") (hci : vwCl[ci]?.map (fun q => q.1) = some own) (hd : decode cc pc = .ok (.putfield idx, 3)) (hc : σ[a]? = some (0, ci, rs)) (hl0 : kf < rs.length) (hn : ∀ b, narrow ty (zren b v) = zren b v) (hfit : ∀ b, fits ty (zren b v) = true) {σ' : List ZC} {I' : ZI} (hlen : σ'.length = σ.length)
    (hw : ∀ cy b, (zwld cy b I 0 σ).set a (b + a, .inr (ci, (zvals b (I a) 0 rs).set kf (zren b v))) = zwld cy b I' 0 σ')
    (k : ZG X own cc nL d mc ms kc ks (pc + 3) L st σ' I') : ZG X own cc nL d mc ms kc ks pc L (v :: .ref a :: st) σ I := by
  obtain ⟨p, l, e, R, s, m, args, below, meth, c, Q, cy, D, b⟩ := X
  intro hX H locs ls hH hz hS hl
  obtain ⟨C, T, N, h1, h2, h3, h4, h5, h6⟩ := hF
  obtain ⟨C', T', N', ty', g1, g2, g3, g4, g5, g6, -, -⟩ := zcl_all h1
  cases h1.symm.trans g1
  rw [h1] at hci
  have hCo : C = own := Option.some.inj hci
  have he : (zwld cy b I 0 σ)[a]? = some (b + a, .inr (ci, zvals b (I a) 0 rs)) := zwld_at hc
  have kk : ∀ (H1 : Heap) (locs1 : List Loc), va_P D vwCl ((zwld cy b I 0 σ).set a (b + a, .inr (ci, (zvals b (I a) 0 rs).set kf (zren b v)))) H1 → va_D (ZA b) ((zwld cy b I 0 σ).set a (b + a, .inr (ci, (zvals b (I a) 0 rs).set kf (zren b v)))) → va_S (ZA b) H H1 locs1 → W p l e R s m args below meth c H1 locs1 kc ks Q (F0 m (pc + 3) ls (st.map (zren b))) := by
    intro H1 locs1 hP1 hD1 hS1
    refine z_sized (fun hle => ?_)
    have e0 := hH.1
    have e1 := hS1.1
    rw [hw] at hP1
    exact k hX H1 locs1 ls ⟨by omega, hP1⟩ (by omega) (z_S hS hS1) hl
  · exact va_putF hX.1 hX.2.1 hX.2.2.2.2.1 g2 ty' g3 g4 hX.2.2.2.1 hX.2.2.2.2.2.1.1 hH.2 (zwld_D cy b I σ) (z_S0 hS) a he g1 kf h2 (hX.2.2.2.2.1 _ (zw_in h3 rfl)) (fun _ h => h) h4 hN (h6.trans hCo) h5 (hn b) (hfit b) (by rw [zvals_len]; exact hl0) hd kk
theorem zup_at (I : ZI) (a k : Nat) (x : Int32) : zup I a k x a = upd (I a) k x := if_pos rfl
theorem zup_ne (I : ZI) {a q : Nat} (k : Nat) (x : Int32) (h : q ≠ a) : zup I a k x q = I q := if_neg h
theorem zwld_putI {cy : Nat → ClassId} {b a kf ci : Nat} {rs : List Nat} {x : Int32} (hc : σ[a]? = some (0, ci, rs)) (hk : rs[kf]? = some 0) : (zwld cy b I 0 σ).set a (b + a, .inr (ci, (zvals b (I a) 0 rs).set kf (.int x))) = zwld cy b (zup I a kf x) 0 σ := by
  rw [zvals_int hk]
  have h := zwld_set (cy := cy) (b := b) (I := I) (J := zup I a kf x) (c' := (0, ci, rs)) hc (fun q hq => zup_ne I kf x hq)
  rw [zset_same hc, zup_at] at h
  exact h
theorem z_putI {idx ci kf a : Nat} {rs : List Nat} {x : Int32} (hF : ZF own idx ci kf .int false) (hd : decode cc pc = .ok (.putfield idx, 3)) (hc : σ[a]? = some (0, ci, rs)) (hk : rs[kf]? = some 0)
    (k : ZG X own cc nL d mc ms kc ks (pc + 3) L st σ (zup I a kf x)) : ZG X own cc nL d mc ms kc ks pc L (.int x :: .ref a :: st) σ I :=
  z_putX hF hd hc (List.getElem?_eq_some_iff.mp hk).1 (fun _ => rfl) (fun _ => rfl) rfl (fun _ _ => zwld_putI hc hk) k
theorem z_putZ {idx ci kf a : Nat} {rs : List Nat} {x : Int32} (hF : ZF own idx ci kf .boolean false) (hx : narrow .boolean (.int x) = .int x ∧ fits .boolean (.int x) = true) (hd : decode cc pc = .ok (.putfield idx, 3)) (hc : σ[a]? = some (0, ci, rs)) (hk : rs[kf]? = some 0)
    (k : ZG X own cc nL d mc ms kc ks (pc + 3) L st σ (zup I a kf x)) : ZG X own cc nL d mc ms kc ks pc L (.int x :: .ref a :: st) σ I :=
  z_putX hF hd hc (List.getElem?_eq_some_iff.mp hk).1 (fun _ => hx.1) (fun _ => hx.2) rfl (fun _ _ => zwld_putI hc hk) k
theorem z_putR {idx ci kf a r r0 : Nat} {rs : List Nat} {C : String} (hF : ZFF own idx ci kf (.object C) ∨ ∃ t, ZFF own idx ci kf (.array t)) (hN : ZNm X "<init>") (hci : vwCl[ci]?.map (fun q => q.1) = some own) (hd : decode cc pc = .ok (.putfield idx, 3)) (hc : σ[a]? = some (0, ci, rs)) (hk : rs[kf]? = some r0)
    (k : ZG X own cc nL d mc ms kc ks (pc + 3) L st (σ.set a (0, ci, rs.set kf (r + 2))) I) : ZG X own cc nL d mc ms kc ks pc L (.ref r :: .ref a :: st) σ I := by
  have hw : ∀ cy b, (zwld cy b I 0 σ).set a (b + a, .inr (ci, (zvals b (I a) 0 rs).set kf (zren b (.ref r)))) = zwld cy b I 0 (σ.set a (0, ci, rs.set kf (r + 2))) := by
    intro cy b
    show (zwld cy b I 0 σ).set a (b + a, .inr (ci, (zvals b (I a) 0 rs).set kf (.ref (b + r)))) = _
    rw [zvals_ref hk]
    exact zwld_set (cy := cy) (b := b) (I := I) (J := I) (c' := (0, ci, rs.set kf (r + 2))) hc (fun q _ => rfl)
  have hl0 := (List.getElem?_eq_some_iff.mp hk).1
  rcases hF with hF | ⟨t, hF⟩
  · exact z_putFX hF hN hci hd hc hl0 (fun _ => rfl) (fun _ => rfl) (List.length_set ..) hw k
  · exact z_putFX hF hN hci hd hc hl0 (fun _ => rfl) (fun _ => rfl) (List.length_set ..) hw k
/-! arrays -/
theorem z_iald {a n : Nat} {rs : List Nat} {i : Int32} (hd : decode cc pc = .ok (.iaload, 1)) (hc : σ[a]? = some (1, n, rs)) (hin : vp_in i n)
    (k : ZG X own cc nL d mc ms kc ks (pc + 1) L (.int (I a i.toNatClampNeg) :: st) σ I) : ZG X own cc nL d mc ms kc ks pc L (.int i :: .ref a :: st) σ I := by
  obtain ⟨p, l, e, R, s, m, args, below, meth, c, Q, cy, D, b⟩ := X
  intro hX H locs ls hH hz hS hl
  exact va_iald (n := n) (f := I a) hX.1 hX.2.1 hX.2.2.2.2.2.1.1 hH.2 a 0 (zwld_at hc) rfl hin hd (k hX H locs ls hH hz hS hl)
theorem z_ialdN {a n j : Nat} {rs : List Nat} {i : Int32} (hd : decode cc pc = .ok (.iaload, 1)) (hc : σ[a]? = some (1, n, rs)) (hi : i = nI j) (hj : j < n) (hn : n < 2 ^ 31)
    (k : ZG X own cc nL d mc ms kc ks (pc + 1) L (.int (I a j) :: st) σ I) : ZG X own cc nL d mc ms kc ks pc L (.int i :: .ref a :: st) σ I := by
  subst hi
  refine z_iald hd hc (vp_in_nI hj hn) ?_
  rw [nI_clamp (by omega)]
  exact k
theorem z_iast {a n : Nat} {rs : List Nat} {i x : Int32} (hd : decode cc pc = .ok (.iastore, 1)) (hc : σ[a]? = some (1, n, rs)) (hin : vp_in i n)
    (k : ZG X own cc nL d mc ms kc ks (pc + 1) L st σ (zup I a i.toNatClampNeg x)) : ZG X own cc nL d mc ms kc ks pc L (.int x :: .int i :: .ref a :: st) σ I := by
  obtain ⟨p, l, e, R, s, m, args, below, meth, c, Q, cy, D, b⟩ := X
  intro hX H locs ls hH hz hS hl
  refine va_iast (n := n) (f := I a) hX.1 hX.2.1 hX.2.2.2.2.2.1.1 hH.2 (zwld_D cy b I σ) (z_S0 hS) a 0 (zwld_at hc) rfl hin hd (fun H1 locs1 hP1 hD1 hS1 => ?_)
  refine z_sized (fun hle => ?_)
  have e0 := hH.1
  have e1 := hS1.1
  have hw := zwld_set (cy := cy) (b := b) (I := I) (J := zup I a i.toNatClampNeg x) (c' := (1, n, rs)) hc (fun q hq => zup_ne I _ x hq)
  rw [zset_same hc, zup_at] at hw
  exact k hX H1 locs1 ls ⟨by omega, by rw [← hw]; exact hP1⟩ hz (z_S hS hS1) hl
theorem z_iastN {a n j : Nat} {rs : List Nat} {i x : Int32} (hd : decode cc pc = .ok (.iastore, 1)) (hc : σ[a]? = some (1, n, rs)) (hi : i = nI j) (hj : j < n) (hn : n < 2 ^ 31)
    (k : ZG X own cc nL d mc ms kc ks (pc + 1) L st σ (zup I a j x)) : ZG X own cc nL d mc ms kc ks pc L (.int x :: .int i :: .ref a :: st) σ I := by
  subst hi
  refine z_iast hd hc (vp_in_nI hj hn) ?_
  rw [nI_clamp (by omega)]
  exact k
theorem z_alen {a n : Nat} {rs : List Nat} (hd : decode cc pc = .ok (.arraylength, 1)) (hc : σ[a]? = some (1, n, rs))
    (k : ZG X own cc nL d mc ms kc ks (pc + 1) L (.int (nI n) :: st) σ I) : ZG X own cc nL d mc ms kc ks pc L (.ref a :: st) σ I := by
  obtain ⟨p, l, e, R, s, m, args, below, meth, c, Q, cy, D, b⟩ := X
  intro hX H locs ls hH hz hS hl
  exact va_alen hX.1 hX.2.1 hX.2.2.2.2.2.1.1 hH.2 a 0 (zwld_at hc) rfl rfl hd (k hX H locs ls hH hz hS hl)
theorem z_ty {cy : Nat → ClassId} {t : Nat} (ht : t < 2) : ∃ C, (ztys cy)[t + 1]? = some (cy (t + 1), .object C) ∧ C = (if t = 0 then RX4 else RX8) := by
  match t, ht with
  | 0, _ => exact ⟨RX4, rfl, rfl⟩
  | 1, _ => exact ⟨RX8, rfl, rfl⟩
theorem z_alenq {a t : Nat} {rs : List Nat} (ht : t < 2) (hd : decode cc pc = .ok (.arraylength, 1)) (hc : σ[a]? = some (2, t + 1, rs))
    (k : ZG X own cc nL d mc ms kc ks (pc + 1) L (.int (nI rs.length) :: st) σ I) : ZG X own cc nL d mc ms kc ks pc L (.ref a :: st) σ I := by
  obtain ⟨p, l, e, R, s, m, args, below, meth, c, Q, cy, D, b⟩ := X
  intro hX H locs ls hH hz hS hl
  obtain ⟨C, h1, -⟩ := z_ty (cy := cy) ht
  exact va_alen hX.1 hX.2.1 hX.2.2.2.2.2.1.1 hH.2 a (t + 1) (zwld_at hc) h1 rfl hd (k hX H locs ls hH hz hS hl)
theorem z_aald {a t r j : Nat} {rs : List Nat} {i : Int32} (ht : t < 2) (hd : decode cc pc = .ok (.aaload, 1)) (hc : σ[a]? = some (2, t + 1, rs)) (hi : i = nI j) (hj : rs[j]? = some (r + 2)) (hn : rs.length < 2 ^ 31)
    (k : ZG X own cc nL d mc ms kc ks (pc + 1) L (.ref r :: st) σ I) : ZG X own cc nL d mc ms kc ks pc L (.int i :: .ref a :: st) σ I := by
  obtain ⟨p, l, e, R, s, m, args, below, meth, c, Q, cy, D, b⟩ := X
  intro hX H locs ls hH hz hS hl
  obtain ⟨C, h1, -⟩ := z_ty (cy := cy) ht
  have hjl := (List.getElem?_eq_some_iff.mp hj).1
  subst hi
  refine va_aldq (C := C) (n := rs.length) (f := fun j => zref b (rs.getD j 1)) hX.1 hX.2.1 hX.2.2.2.2.2.1.1 hH.2 a (t + 1) (zwld_at hc) h1 (vp_in_nI hjl hn) hd ?_
  have hv : va_rf ((fun j => zref b (rs.getD j 1)) (nI j).toNatClampNeg) = zren b (.ref r) := by
    rw [nI_clamp (by omega)]
    have h2 : ¬ r + 2 < 2 := by omega
    simp [List.getD, hj, zref, va_rf, zren, h2]
  rw [hv]
  exact k hX H locs ls hH hz hS hl
theorem z_aast {a t j v ci : Nat} {rs vr : List Nat} {i : Int32} (ht : t < 2) (hci : ci = if t = 0 then 4 else 8) (hd : decode cc pc = .ok (.aastore, 1)) (hc : σ[a]? = some (2, t + 1, rs)) (hv : σ[v]? = some (0, ci, vr)) (hi : i = nI j) (hj : j < rs.length) (hn : rs.length < 2 ^ 31)
    (k : ZG X own cc nL d mc ms kc ks (pc + 1) L st (σ.set a (2, t + 1, rs.set j (v + 2))) I) : ZG X own cc nL d mc ms kc ks pc L (.ref v :: .int i :: .ref a :: st) σ I := by
  obtain ⟨p, l, e, R, s, m, args, below, meth, c, Q, cy, D, b⟩ := X
  intro hX H locs ls hH hz hS hl
  subst hi
  obtain ⟨C, h1, hC⟩ := z_ty (cy := cy) ht
  have hcl : ∃ q : vw_C, vwCl[ci]? = some q ∧ q.1 = C := by
    match t, ht with
    | 0, _ => subst hci; exact ⟨_, rfl, hC.symm⟩
    | 1, _ => subst hci; exact ⟨_, rfl, hC.symm⟩
  obtain ⟨q, hq, hqC⟩ := hcl
  have ha : (zwld cy b I 0 σ)[a]? = some (b + a, .inl (cy (t + 1), rs.length, .inr (.inr (.inr (.inr (fun j => zref b (rs.getD j 1))))))) := zwld_at hc
  refine va_astq (r := q) (n := rs.length) (v := b + v) (vs := zvals b (I v) 0 vr) hX.1 hX.2.1 hX.2.2.2.2.2.1.1 hH.2 (zwld_D cy b I σ) (z_S0 hS) a (t + 1) v ci ha (by rw [hqC]; exact h1) (zwld_at hv) hq (vp_in_nI hj hn) hd (fun H1 locs1 hP1 hD1 hS1 => ?_)
  refine z_sized (fun hle => ?_)
  have e0 := hH.1
  have e1 := hS1.1
  have hw := zwld_set (cy := cy) (b := b) (I := I) (J := I) (c' := (2, t + 1, rs.set j (v + 2))) hc (fun q _ => rfl)
  have hf : va_up (fun j => zref b (rs.getD j 1)) (nI j).toNatClampNeg (some (b + v)) = fun j' => zref b ((rs.set j (v + 2)).getD j' 1) := by
    rw [nI_clamp (by omega)]
    funext j'
    by_cases hjj : j' = j
    · subst hjj
      simp [va_up, List.getD, hj, zref]
    · simp [va_up, hjj, List.getD, List.getElem?_set_ne (Ne.symm hjj)]
  rw [hf] at hP1
  have hw2 : (zwld cy b I 0 σ).set a (b + a, .inl (cy (t + 1), rs.length, .inr (.inr (.inr (.inr (fun j' => zref b ((rs.set j (v + 2)).getD j' 1))))))) = zwld cy b I 0 (σ.set a (2, t + 1, rs.set j (v + 2))) := by
    rw [← hw]
    simp only [zcell, List.length_set]
  rw [hw2] at hP1
  exact k hX H1 locs1 ls ⟨by rw [List.length_set]; omega, hP1⟩ (by rw [List.length_set]; exact hz) (z_S hS hS1) hl
/-! making -/
theorem z_fresh {p : Program} {l : Launch} {e : Env} {R : Room} {s : State} {m : MethodId} {args : Array Value} {below : List Frame} {meth : Method} {c : Code} {Q : State → Prop} {cy : Nat → ClassId} {D : va_G} {b q : Nat} {H H1 : Heap} {x : va_E} {locs : List Loc} {slots : Nat} {g : JFrame} {A : Nat → Prop}
    (hH : ZH cy D b σ I H) (hz : b + σ.length = s.heap.size + kc) (hP : va_P D vwCl (zwld cy b I 0 σ ++ [(q, x)]) H1) (hD : va_D (ZA b) (zwld cy b I 0 σ ++ [(q, x)])) (hS : va_S A H H1 locs)
    (k : q = b + σ.length → H1.size = b + σ.length + 1 → W p l e R s m args below meth c H1 locs (kc + 1) slots Q g) : W p l e R s m args below meth c H1 locs (kc + 1) slots Q g := by
  refine z_sized (fun hle => ?_)
  have hl : (zwld cy b I 0 σ ++ [(q, x)])[σ.length]? = some (q, x) := by
    rw [List.getElem?_append_right (by rw [zwld_len]; exact Nat.le_refl _), zwld_len, Nat.sub_self]
    rfl
  have h1 : q < H1.size := (hP _ _ hl).lt
  have h2 : b ≤ q := hD.2 _ _ hl
  have h3 := hS.1
  have h4 := hH.1
  have hq : q = b + σ.length := by
    rcases Nat.lt_or_ge q (b + σ.length) with h5 | h5
    · exfalso
      have hi : q - b < σ.length := by omega
      obtain ⟨c0, hc0⟩ : ∃ c0, σ[q - b]? = some c0 := ⟨_, List.getElem?_eq_getElem hi⟩
      have h6 : (zwld cy b I 0 σ ++ [(q, x)])[q - b]? = some (b + (q - b), zcell cy b c0 (I (q - b))) := by
        rw [List.getElem?_append_left (by rw [zwld_len]; exact hi)]
        exact zwld_at hc0
      have := hD.1 _ _ _ _ h6 hl (show b + (q - b) = q by omega)
      omega
    · omega
  exact k hq (by omega)
theorem z_new {idx ci N : Nat} {C : String} (hcl : Cond.classLink own idx C ∈ lw_tbl) (hc : ∃ T, vwCl[ci]? = some (C, T, N)) (hd : decode cc pc = .ok (.new idx, 3)) (h1 : kc + 1 ≤ mc) (h2 : ks + N ≤ ms)
    (k : ZG X own cc nL d mc ms (kc + 1) (ks + N) (pc + 3) L (.ref σ.length :: st) (σ ++ [(0, ci, zini ci)]) (zclr I σ.length)) : ZG X own cc nL d mc ms kc ks pc L st σ I := by
  obtain ⟨p, l, e, R, s, m, args, below, meth, c, Q, cy, D, b⟩ := X
  intro hX H locs ls hH hz hS hl
  obtain ⟨T, hc⟩ := hc
  obtain ⟨C', T', N', ty', g1, g2, g3, g4, g5, g6, g7, g8⟩ := zcl_all hc
  cases hc.symm.trans g1
  have hfs : ∀ j, j < N → defaultValue (ty' j) = vp_V (zvals b (fun _ => 0) 0 (zini ci)) j := by
    intro j hj
    rw [g8 j hj]
    have hjl : j < (zini ci).length := by rw [g7]; exact hj
    have e1 : (zini ci)[j]? = some (zini ci)[j] := List.getElem?_eq_getElem hjl
    simp only [vp_V, List.getD, zvals_get, e1, Option.map_some, Option.getD_some, Nat.zero_add]
    have h01 := z_ini01 ci j
    simp only [List.getD, e1, Option.getD_some] at h01
    rcases h01 with h01 | h01 <;> rw [h01] <;> rfl
  have hR1 : kc + 1 ≤ R.cells := Nat.le_trans h1 hX.2.2.2.2.2.2.2.2.2.2.1
  have hR2 : ks + N ≤ R.slots := Nat.le_trans h2 hX.2.2.2.2.2.2.2.2.2.2.2
  refine va_new (C := C) (T := T) (N := N) hX.1 hX.2.1 hX.2.2.2.2.1 g2 ty' g3 hX.2.2.2.1 (hX.2.2.2.2.1 _ (zw_in hcl rfl)) (hX.2.2.2.2.1 _ g5) (hX.2.2.2.2.1 _ g6) hX.2.2.2.2.2.1.1 hH.2 (zwld_D cy b I σ) (z_S0 hS) (fun q hq => Nat.le_trans (by have := hH.1; omega) hq) hc hfs hR1 hR2 hd (fun q H1 hP1 hD1 hS1 => ?_)
  refine z_fresh hH hz hP1 hD1 hS1 (fun hq hs1 => ?_)
  subst hq
  have hw := zwld_push (cy := cy) (b := b) (I := I) (J := zclr I σ.length) (σ := σ) (c := (0, ci, zini ci)) (fun q hq => if_neg (by omega))
  rw [show zclr I σ.length σ.length = (fun _ => 0) from if_pos rfl] at hw
  exact k hX H1 locs ls ⟨by rw [List.length_append]; simp; omega, by rw [← hw]; exact hP1⟩ (by rw [List.length_append]; simp; omega) (z_S hS hS1) hl
theorem z_newa {n : Int32} {N : Nat} (hac : Cond.arrayClass .int ∈ lw_tbl) (hd : decode cc pc = .ok (.newarray .int, 2)) (hn : ¬ n < 0) (hN : n.toNatClampNeg = N) (hN2 : N ≤ 100000) (h1 : kc + 1 ≤ mc) (h2 : ks + N ≤ ms)
    (k : ZG X own cc nL d mc ms (kc + 1) (ks + N) (pc + 2) L (.ref σ.length :: st) (σ ++ [(1, N, [])]) (zclr I σ.length)) : ZG X own cc nL d mc ms kc ks pc L (.int n :: st) σ I := by
  obtain ⟨p, l, e, R, s, m, args, below, meth, c, Q, cy, D, b⟩ := X
  intro hX H locs ls hH hz hS hl
  have hR1 : kc + 1 ≤ R.cells := Nat.le_trans h1 hX.2.2.2.2.2.2.2.2.2.2.1
  have hR2 : ks + N ≤ R.slots := Nat.le_trans h2 hX.2.2.2.2.2.2.2.2.2.2.2
  refine va_newa (atype := .int) (a0 := (N, .inl (fun _ => 0))) hX.1 hX.2.1 (hX.2.2.2.2.1 _ (zw_in hac rfl)) rfl hX.2.2.2.2.2.1.1 hH.2 (zwld_D cy b I σ) (z_S0 hS) (fun q hq => Nat.le_trans (by have := hH.1; omega) hq) (fun _ => rfl) hn hN (Nat.le_trans (Nat.mul_le_mul_right _ hN2) (by decide)) hR1 hR2 hd (fun q cA H1 hK1 hP1 hD1 hS1 => ?_)
  refine z_fresh hH hz hP1 hD1 hS1 (fun hq hs1 => ?_)
  subst hq
  have e1 : s.vm.findClass ("[" ++ FieldType.int.toString) = some (cy 0) := (hX.2.2.2.2.2.1.1.2 0 (cy 0, .int) rfl).2
  have e2 : s.vm.findClass ("[" ++ FieldType.int.toString) = some cA := (hK1.2 3 (cA, .int) rfl).2
  have e3 : cA = cy 0 := Option.some.inj (e2.symm.trans e1)
  subst e3
  have hw := zwld_push (cy := cy) (b := b) (I := I) (J := zclr I σ.length) (σ := σ) (c := (1, N, [])) (fun q hq => if_neg (by omega))
  rw [show zclr I σ.length σ.length = (fun _ => 0) from if_pos rfl] at hw
  exact k hX H1 locs ls ⟨by rw [List.length_append]; simp; omega, by rw [← hw]; exact hP1⟩ (by rw [List.length_append]; simp; omega) (z_S hS hS1) hl
theorem z_newq {n : Int32} {idx N t : Nat} {C : String} (ht : t < 2) (hC : C = if t = 0 then RX4 else RX8) (hcl : Cond.classLink own idx C ∈ lw_tbl) (hd : decode cc pc = .ok (.anewarray idx, 3)) (hn : ¬ n < 0) (hN : n.toNatClampNeg = N) (hN2 : N ≤ 100000) (h1 : kc + 1 ≤ mc) (h2 : ks + N ≤ ms)
    (k : ZG X own cc nL d mc ms (kc + 1) (ks + N) (pc + 3) L (.ref σ.length :: st) (σ ++ [(2, t + 1, List.replicate N 1)]) (zclr I σ.length)) : ZG X own cc nL d mc ms kc ks pc L (.int n :: st) σ I := by
  obtain ⟨p, l, e, R, s, m, args, below, meth, c, Q, cy, D, b⟩ := X
  intro hX H locs ls hH hz hS hl
  have hR1 : kc + 1 ≤ R.cells := Nat.le_trans h1 hX.2.2.2.2.2.2.2.2.2.2.1
  have hR2 : ks + N ≤ R.slots := Nat.le_trans h2 hX.2.2.2.2.2.2.2.2.2.2.2
  have hAO : va_AO C s := by
    match t, ht with
    | 0, _ => subst hC; exact hX.2.2.2.2.2.1.2.2.1
    | 1, _ => subst hC; exact hX.2.2.2.2.2.1.2.2.2
  refine va_newq (C := C) hX.1 hX.2.1 hX.2.2.2.1 (hX.2.2.2.2.1 _ (zw_in hcl rfl)) hAO hX.2.2.2.2.2.1.1 hH.2 (zwld_D cy b I σ) (z_S0 hS) (fun q hq => Nat.le_trans (by have := hH.1; omega) hq) hn hN (Nat.le_trans (Nat.mul_le_mul_right _ hN2) (by decide)) hR1 hR2 hd (fun q cA H1 hK1 hP1 hD1 hS1 => ?_)
  refine z_fresh hH hz hP1 hD1 hS1 (fun hq hs1 => ?_)
  subst hq
  have e3 : cA = cy (t + 1) := by
    obtain ⟨C2, g1, g2⟩ := z_ty (cy := cy) ht
    have hCC : C2 = C := g2.trans hC.symm
    subst hCC
    obtain ⟨k1, c1, -, -, -, f4⟩ := (hX.2.2.2.2.2.1.1.2 (t + 1) _ g1).2
    obtain ⟨k2, c2, -, -, -, f5⟩ := (hK1.2 3 (cA, .object C2) rfl).2
    exact Option.some.inj (f5.symm.trans f4)
  subst e3
  have hw := zwld_push (cy := cy) (b := b) (I := I) (J := zclr I σ.length) (σ := σ) (c := (2, t + 1, List.replicate N 1)) (fun q hq => if_neg (by omega))
  have hf : (fun j => zref b ((List.replicate N 1).getD j 1)) = fun _ => none := by
    funext j
    have : (List.replicate N 1).getD j 1 = 1 := by
      simp [List.getD, List.getElem?_replicate]
      by_cases hj : j < N <;> simp [hj]
    rw [this]
    rfl
  have hw2 : zcell cy b (2, t + 1, List.replicate N 1) (zclr I σ.length σ.length) = .inl (cy (t + 1), N, .inr (.inr (.inr (.inr (fun _ => none))))) := by
    simp only [zcell, List.length_replicate, hf]
  rw [hw2] at hw
  exact k hX H1 locs ls ⟨by rw [List.length_append]; simp; omega, by rw [← hw]; exact hP1⟩ (by rw [List.length_append]; simp; omega) (z_S hS hS1) hl
theorem z_objInit {idx a : Nat} (hlink : Cond.methodLink own idx Lib.objectInit ∈ lw_tbl) (hinst : Cond.instanceMethod Lib.objectInit ∈ lw_tbl) (hcode : Cond.code Lib.objectInit ⟨#[0xb1]⟩ 1 none ∈ lw_tbl) (hd : decode cc pc = .ok (.invokespecial idx, 3)) (hd1 : 1 ≤ d) (hst : (st.map fun v => v.category).sum ≤ 8)
    (k : ZG X own cc nL d mc ms kc ks (pc + 3) L st σ I) : ZG X own cc nL d mc ms kc ks pc L (.ref a :: st) σ I := by
  obtain ⟨p, l, e, R, s, m, args, below, meth, c, Q, cy, D, b⟩ := X
  intro hX H locs ls hH hz hS hl
  have hst2 : ((st.map (zren b)).map fun v => v.category).sum ≤ 8 := by
    rw [List.map_map, show ((fun v : Value => v.category) ∘ zren b) = (fun v : Value => v.category) from funext (fun v => zren_cat b v)]
    exact hst
  refine W.objInit hX.1 hX.2.1 hX.2.2.2.1 (hX.2.2.2.2.1 _ (zw_in hlink rfl)) (hX.2.2.2.2.1 _ (zw_in hinst rfl)) (hX.2.2.2.2.1 _ (zw_in hcode rfl)) rfl (by rw [hX.2.2.1]; exact hl.1) rfl hd (Nat.le_trans hd1 hX.2.2.2.2.2.2.2.2.1) ?_ (k hX H locs ls hH hz hS hl)
  have h1 := lv_room (m := m) (pc := pc) (ls := ls) (rest := Value.ref (b + a) :: st.map (zren b)) hst2
  have h2 := hX.2.2.2.2.2.2.2.2.2.1
  exact Nat.le_trans (Nat.add_le_add_right h1 12) (by omega)
/-! calls -/
theorem z_after {p : Program} {l : Launch} {e : Env} {R : Room} {s : State} {m : MethodId} {args : Array Value} {below : List Frame} {meth : Method} {c : Code} {Q : State → Prop} {cy : Nat → ClassId} {D : va_G} {b : Nat} {H : Heap} {locs : List Loc} {ls : Array Slot} {st0 rest : List Value} {mc2 ms2 : Nat} {Q2 : Option Value → List ZC → ZI → Prop} {a : Array Value}
    (hr : va_Run p l e R s m args below meth c H locs kc ks mc2 ms2 (F0 m pc ls st0) rest (ZQ cy D b Q2 a) (ZA b)) (hS : va_S (ZA b) s.heap H locs)
    (kk : ∀ (r : Option Value) (σ' : List ZC) (I' : ZI) (H1 : Heap) (locs1 : List Loc), Q2 r σ' I' → ZH cy D b σ' I' H1 → va_S (ZA b) s.heap H1 locs1 → W p l e R s m args below meth c H1 locs1 (kc + mc2) (ks + ms2) Q (F0 m (pc + 3) ls ((r.map (zren b)).toList ++ rest))) : W p l e R s m args below meth c H locs kc ks Q (F0 m pc ls st0) := by
  intro T hT X
  obtain ⟨v, st₀, t, T', L', h0, X', hL, e1, e2, ⟨⟨r, σ', I', hv, hq, hh⟩, hz1, hz2⟩, stp⟩ := hr T hT X
  cases hv
  rw [h0] at hz1 hz2
  obtain ⟨t2, a1, b1⟩ := kk r σ' I' T'.heap (locs ++ L') hq (by rw [e1]; exact hh) ⟨Nat.le_trans hS.1 (by rw [e1]; exact hz1), fun q h1 h2 => by rw [e1, hz2 q (Nat.lt_of_lt_of_le h1 hS.1) h2]; exact hS.2.1 q h1 h2, fun q hq => by
      rcases List.mem_append.mp hq with h | h
      · exact hS.2.2 q h
      · exact hL q h⟩ T' rfl X'
  exact ⟨t2, stp t2 a1, b1⟩
theorem z_cats (b : Nat) (st : List Value) (h : (st.map fun v => v.category).sum ≤ 8) : ((st.map (zren b)).map fun v => v.category).sum ≤ 8 := by
  rw [List.map_map, show ((fun v : Value => v.category) ∘ zren b) = (fun v : Value => v.category) from funext (fun v => zren_cat b v)]
  exact h
theorem z_blind {cy : Nat → ClassId} {D : va_G} {b : Nat} {As : List Value} : FrameBlind (va_Pc As (fun U => ZH cy D b σ I U.heap ∧ ZT cy D U)) := fun a U g mk q => ⟨q.1, q.2.1, ZT.same (s := U) (U := U.calling g mk a) rfl q.2.2⟩
theorem z_ret (b : Nat) (r : Option Value) (st : List Value) : (r.map (zren b)).toList ++ st.map (zren b) = (r.toList ++ st).map (zren b) := by cases r <;> rfl
theorem z_runV {idx a n d2 mc2 ms2 nz ci : Nat} {y : MethodName} {cz : ByteArray} {rz : Option FieldType} {As : List Value} {rs : List Nat} {Q2 : Option Value → List ZC → ZI → Prop} (hM : ZM y cz nz rz n) (hV : ZV own idx y) (hd : decode cc pc = .ok (.invokevirtual idx, 3)) (hsp : ZSp y cz nz rz d2 mc2 ms2 (.ref a :: As) σ I Q2) (hn : As.length = n) (hd2 : d2 + 1 ≤ d)
    (hc : σ[a]? = some (0, ci, rs)) (hcl : vwCl[ci]?.map (fun q => q.1) = some y.cls) (hst : (st.map fun v => v.category).sum ≤ 8) (h1 : kc + mc2 ≤ mc) (h2 : ks + ms2 ≤ ms) (hlen : ∀ r σ' I', Q2 r σ' I' → σ'.length = σ.length + mc2)
    (k : ∀ r σ' I', Q2 r σ' I' → ZG X own cc nL d mc ms (kc + mc2) (ks + ms2) (pc + 3) L (r.toList ++ st) σ' I') : ZG X own cc nL d mc ms kc ks pc L (As.reverse ++ .ref a :: st) σ I := by
  obtain ⟨p, l, e, R, s, m, args, below, meth, c, Q, cy, D, b⟩ := X
  intro hX H locs ls hH hz hS hl
  obtain ⟨q, hq, hqy⟩ := Option.map_eq_some_iff.mp hcl
  have he : (zwld cy b I 0 σ)[a]? = some (b + a, .inr (ci, zvals b (I a) 0 rs)) := zwld_at hc
  have hrec := va_recv hX.2.2.2.2.2.1.1 hH.2 hq he
  rw [hqy] at hrec
  have hf := hX.2.2.2.2.2.2.2.2.1
  have hlc := hX.2.2.2.2.2.2.2.2.2.1
  have hnz := hM.2.2.1
  refine z_after (rest := st.map (zren b)) (va_runV (As := As.map (zren b)) ⟨hX.1, hX.2.1, hX.2.2.1, hX.2.2.2.1, hX.2.2.2.2.1⟩ (hsp l cy D b) (cwV n hX.2.2.2.2.1 (z_goodV hM hV) rfl rfl rfl ⟨rfl, hM.2.2.2.1, hM.2.2.2.2.1, hM.2.2.2.2.2⟩ ⟨by show d2 + 1 ≤ R.frames; omega, by show 8 + (nz + 11) + 40 * d2 ≤ R.locals; omega⟩)
    ⟨z_blind, hrec, fun U hU hW => ⟨rfl, by rw [hU]; exact hH, hX.2.2.2.2.2.1.warm hW⟩⟩ rfl (by rw [List.length_map]; exact hn) hl.1 (by simp [zren]) (lv_room (z_cats b st hst)) hd ⟨Nat.le_trans h1 hX.2.2.2.2.2.2.2.2.2.2.1, Nat.le_trans h2 hX.2.2.2.2.2.2.2.2.2.2.2⟩) hS (fun r σ' I' H1 locs1 hQ hH1 hS1 => ?_)
  rw [z_ret]
  exact k r σ' I' hQ hX H1 locs1 ls hH1 (by rw [hlen r σ' I' hQ]; omega) hS1 hl
theorem z_runS {idx n d2 mc2 ms2 nz : Nat} {y : MethodName} {cz : ByteArray} {rz : Option FieldType} {As : List Value} {Q2 : Option Value → List ZC → ZI → Prop} (hM : ZM y cz nz rz n) (hV : ZS own idx y) (hd : decode cc pc = .ok (.invokestatic idx, 3)) (hsp : ZSp y cz nz rz d2 mc2 ms2 As σ I Q2) (hn : As.length = n) (hd2 : d2 + 1 ≤ d)
    (hst : (st.map fun v => v.category).sum ≤ 8) (h1 : kc + mc2 ≤ mc) (h2 : ks + ms2 ≤ ms) (hlen : ∀ r σ' I', Q2 r σ' I' → σ'.length = σ.length + mc2)
    (k : ∀ r σ' I', Q2 r σ' I' → ZG X own cc nL d mc ms (kc + mc2) (ks + ms2) (pc + 3) L (r.toList ++ st) σ' I') : ZG X own cc nL d mc ms kc ks pc L (As.reverse ++ st) σ I := by
  obtain ⟨p, l, e, R, s, m, args, below, meth, c, Q, cy, D, b⟩ := X
  intro hX H locs ls hH hz hS hl
  have hf := hX.2.2.2.2.2.2.2.2.1
  have hlc := hX.2.2.2.2.2.2.2.2.2.1
  have hnz := hM.2.2.1
  refine z_after (rest := st.map (zren b)) (va_runS (As := As.map (zren b)) ⟨hX.1, hX.2.1, hX.2.2.1, hX.2.2.2.1, hX.2.2.2.2.1⟩ (hsp l cy D b) ⟨callB_of n hX.2.2.2.2.1 (z_good hM.1) rfl rfl rfl (hX.2.2.2.2.1 _ (zw_in hM.2.1.2 rfl)) (hX.2.2.2.2.1 _ (zw_in hV.1 rfl)) ⟨hM.2.2.2.1, hM.2.2.2.2.1, hM.2.2.2.2.2⟩ ⟨by show d2 + 1 ≤ R.frames; omega, by show 8 + (nz + 11) + 40 * d2 ≤ R.locals; omega⟩, hX.2.2.2.2.1 _ (zw_in hV.2 rfl)⟩
    ⟨z_blind, fun U hU hW => ⟨rfl, by rw [hU]; exact hH, hX.2.2.2.2.2.1.warm hW⟩⟩ rfl (by rw [List.length_map]; exact hn) hl.1 (by simp [zren]) (lv_room (z_cats b st hst)) hd ⟨Nat.le_trans h1 hX.2.2.2.2.2.2.2.2.2.2.1, Nat.le_trans h2 hX.2.2.2.2.2.2.2.2.2.2.2⟩) hS (fun r σ' I' H1 locs1 hQ hH1 hS1 => ?_)
  rw [z_ret]
  exact k r σ' I' hQ hX H1 locs1 ls hH1 (by rw [hlen r σ' I' hQ]; omega) hS1 hl
theorem z_runI {idx a n d2 mc2 ms2 nz : Nat} {y : MethodName} {cz : ByteArray} {As : List Value} {Q2 : Option Value → List ZC → ZI → Prop} (hM : ZM y cz nz none n) (hV : ZN own idx y) (hd : decode cc pc = .ok (.invokespecial idx, 3)) (hsp : ZSp y cz nz none d2 mc2 ms2 (.ref a :: As) σ I Q2) (hn : As.length = n) (hd2 : d2 + 1 ≤ d)
    (hst : (st.map fun v => v.category).sum ≤ 8) (h1 : kc + mc2 ≤ mc) (h2 : ks + ms2 ≤ ms) (hlen : ∀ r σ' I', Q2 r σ' I' → σ'.length = σ.length + mc2)
    (k : ∀ r σ' I', Q2 r σ' I' → ZG X own cc nL d mc ms (kc + mc2) (ks + ms2) (pc + 3) L (r.toList ++ st) σ' I') : ZG X own cc nL d mc ms kc ks pc L (As.reverse ++ .ref a :: st) σ I := by
  obtain ⟨p, l, e, R, s, m, args, below, meth, c, Q, cy, D, b⟩ := X
  intro hX H locs ls hH hz hS hl
  have hf := hX.2.2.2.2.2.2.2.2.1
  have hlc := hX.2.2.2.2.2.2.2.2.2.1
  have hnz := hM.2.2.1
  have hRR : d2 + 1 ≤ R.frames ∧ 8 + (nz + 11) + 40 * d2 ≤ R.locals := ⟨by omega, by omega⟩
  have hPS : PreS s H (va_Pc ((Value.ref a :: As).map (zren b)) (fun U => ZH cy D b σ I U.heap ∧ ZT cy D U)) (.ref (b + a) :: As.map (zren b)) := ⟨z_blind, fun U hU hW => ⟨rfl, by rw [hU]; exact hH, hX.2.2.2.2.2.1.warm hW⟩⟩
  have hini := hX.2.2.2.2.1 _ (zw_in hM.2.1.2 rfl)
  have hins := hX.2.2.2.2.1 _ (zw_in hV.2.1 rfl)
  have kk : ∀ (r : Option Value) (σ' : List ZC) (I' : ZI) (H1 : Heap) (locs1 : List Loc), Q2 r σ' I' → ZH cy D b σ' I' H1 → va_S (ZA b) s.heap H1 locs1 → W p l e R s m args below meth c H1 locs1 (kc + mc2) (ks + ms2) Q (F0 m (pc + 3) ls ((r.map (zren b)).toList ++ st.map (zren b))) := by
    intro r σ' I' H1 locs1 hQ hH1 hS1
    rw [z_ret]
    exact k r σ' I' hQ hX H1 locs1 ls hH1 (by rw [hlen r σ' I' hQ]; omega) hS1 hl
  rcases hV.1 with hL1 | ⟨host, hL1⟩
  · exact z_after (rest := st.map (zren b)) (va_runI (As := As.map (zren b)) ⟨hX.1, hX.2.1, hX.2.2.1, hX.2.2.2.1, hX.2.2.2.2.1⟩ (hsp l cy D b) (cwI n hX.2.2.2.2.1 (z_good hM.1) rfl rfl rfl hini (hX.2.2.2.2.1 _ (zw_in hL1 rfl)) hins hV.2.2 ⟨hM.2.2.2.1, hM.2.2.2.2.1, hM.2.2.2.2.2⟩ hRR)
      hPS rfl (by rw [List.length_map]; exact hn) hl.1 (by simp [zren]) (lv_room (z_cats b st hst)) hd ⟨Nat.le_trans h1 hX.2.2.2.2.2.2.2.2.2.2.1, Nat.le_trans h2 hX.2.2.2.2.2.2.2.2.2.2.2⟩) hS kk
  · exact z_after (rest := st.map (zren b)) (va_runIN (As := As.map (zren b)) ⟨hX.1, hX.2.1, hX.2.2.1, hX.2.2.2.1, hX.2.2.2.2.1⟩ (hsp l cy D b) ⟨va_cnB n hX.2.2.2.2.1 (z_good hM.1) rfl rfl rfl (hX.2.2.2.2.2.1.2.1 _ hL1 rfl) hini ⟨hM.2.2.2.1, hM.2.2.2.2.1, hM.2.2.2.2.2⟩ hRR, hV.2.2, hins⟩
      hPS rfl (by rw [List.length_map]; exact hn) hl.1 (by simp [zren]) (lv_room (z_cats b st hst)) hd ⟨Nat.le_trans h1 hX.2.2.2.2.2.2.2.2.2.2.1, Nat.le_trans h2 hX.2.2.2.2.2.2.2.2.2.2.2⟩) hS kk
/-! the ends -/
theorem z_S_F {s t : State} {b : Nat} {H : Heap} {locs : List Loc} (hS : va_S (ZA b) s.heap H locs) (ht : t.heap = H) : va_F (ZA b) s t := hS.F ht

theorem z_iret {v : Int32} {Q2 : Option Value → List ZC → ZI → Prop} (hE : ZEnd X (some .int) mc ms Q2) (hd : decode cc pc = .ok (.ireturn, 1)) (hq : Q2 (some (.int v)) σ I) : ZG X own cc nL d mc ms mc ms pc L [.int v] σ I := by
  obtain ⟨p, l, e, R, s, m, args, below, meth, c, Q, cy, D, b⟩ := X
  intro hX H locs ls hH hz hS hl
  obtain ⟨hr, rfl⟩ := hE
  exact W.iret (hlocks := hX.2.2.2.2.2.2.2.1) hX.1 hX.2.1 hr (fun t ht hW => ⟨⟨some (.int v), σ, I, rfl, hq, by rw [ht]; exact hH⟩, z_S_F hS ht⟩) hS.2.2 hd
theorem z_lret {v : Int64} {Q2 : Option Value → List ZC → ZI → Prop} (hE : ZEnd X (some .long) mc ms Q2) (hd : decode cc pc = .ok (.lreturn, 1)) (hq : Q2 (some (.long v)) σ I) : ZG X own cc nL d mc ms mc ms pc L [.long v] σ I := by
  obtain ⟨p, l, e, R, s, m, args, below, meth, c, Q, cy, D, b⟩ := X
  intro hX H locs ls hH hz hS hl
  obtain ⟨hr, rfl⟩ := hE
  exact W.lret (hlocks := hX.2.2.2.2.2.2.2.1) hX.1 hX.2.1 hr (fun t ht hW => ⟨⟨some (.long v), σ, I, rfl, hq, by rw [ht]; exact hH⟩, z_S_F hS ht⟩) hS.2.2 hd
theorem z_fret {v : UInt32} {Q2 : Option Value → List ZC → ZI → Prop} (hE : ZEnd X (some .float) mc ms Q2) (hd : decode cc pc = .ok (.freturn, 1)) (hq : Q2 (some (.float v)) σ I) : ZG X own cc nL d mc ms mc ms pc L [.float v] σ I := by
  obtain ⟨p, l, e, R, s, m, args, below, meth, c, Q, cy, D, b⟩ := X
  intro hX H locs ls hH hz hS hl
  obtain ⟨hr, rfl⟩ := hE
  exact W.fret (hlocks := hX.2.2.2.2.2.2.2.1) hX.1 hX.2.1 hr (fun t ht hW => ⟨⟨some (.float v), σ, I, rfl, hq, by rw [ht]; exact hH⟩, z_S_F hS ht⟩) hS.2.2 hd
theorem z_zret {v : Int32} {Q2 : Option Value → List ZC → ZI → Prop} (hE : ZEnd X (some .boolean) mc ms Q2) (hd : decode cc pc = .ok (.ireturn, 1)) (hv : narrow .boolean (.int v) = .int v) (hq : Q2 (some (.int v)) σ I) : ZG X own cc nL d mc ms mc ms pc L [.int v] σ I := by
  obtain ⟨p, l, e, R, s, m, args, below, meth, c, Q, cy, D, b⟩ := X
  intro hX H locs ls hH hz hS hl
  obtain ⟨hr, rfl⟩ := hE
  exact W.zret (hlocks := hX.2.2.2.2.2.2.2.1) hX.1 hX.2.1 hr hv (fun t ht hW => ⟨⟨some (.int v), σ, I, rfl, hq, by rw [ht]; exact hH⟩, z_S_F hS ht⟩) hS.2.2 hd
theorem z_vret {Q2 : Option Value → List ZC → ZI → Prop} (hE : ZEnd X none mc ms Q2) (hd : decode cc pc = .ok (.return_, 1)) (hq : Q2 none σ I) : ZG X own cc nL d mc ms mc ms pc L [] σ I := by
  obtain ⟨p, l, e, R, s, m, args, below, meth, c, Q, cy, D, b⟩ := X
  intro hX H locs ls hH hz hS hl
  obtain ⟨hr, rfl⟩ := hE
  exact W.vret (hlocks := hX.2.2.2.2.2.2.2.1) hX.1 hX.2.1 hr (fun t ht hW => ⟨⟨none, σ, I, rfl, hq, by rw [ht]; exact hH⟩, z_S_F hS ht⟩) hS.2.2 hd
theorem z_aret {a : Nat} {C : String} {Q2 : Option Value → List ZC → ZI → Prop} (hE : ZEnd X (some (.object C)) mc ms Q2) (hd : decode cc pc = .ok (.areturn, 1)) (hq : Q2 (some (.ref a)) σ I) : ZG X own cc nL d mc ms mc ms pc L [.ref a] σ I := by
  obtain ⟨p, l, e, R, s, m, args, below, meth, c, Q, cy, D, b⟩ := X
  intro hX H locs ls hH hz hS hl
  obtain ⟨hr, rfl⟩ := hE
  exact W.aret (hlocks := hX.2.2.2.2.2.2.2.1) hX.1 hX.2.1 hr (Or.inl ⟨C, rfl⟩) (Or.inr ⟨_, rfl⟩) (fun t ht hW => ⟨⟨some (.ref a), σ, I, rfl, hq, by rw [ht]; exact hH⟩, z_S_F hS ht⟩) hS.2.2 hd
theorem z_aretN {C : String} {Q2 : Option Value → List ZC → ZI → Prop} (hE : ZEnd X (some (.object C)) mc ms Q2) (hd : decode cc pc = .ok (.areturn, 1)) (hq : Q2 (some .null) σ I) : ZG X own cc nL d mc ms mc ms pc L [.null] σ I := by
  obtain ⟨p, l, e, R, s, m, args, below, meth, c, Q, cy, D, b⟩ := X
  intro hX H locs ls hH hz hS hl
  obtain ⟨hr, rfl⟩ := hE
  exact W.aret (hlocks := hX.2.2.2.2.2.2.2.1) hX.1 hX.2.1 hr (Or.inl ⟨C, rfl⟩) (Or.inl rfl) (fun t ht hW => ⟨⟨some .null, σ, I, rfl, hq, by rw [ht]; exact hH⟩, z_S_F hS ht⟩) hS.2.2 hd
/-! the JDK's own -/
theorem z_mmax {idx : Nat} {x y : Int32} (hlink : Cond.methodLink own idx Lib.Math.max.name ∈ lw_tbl) (hstat : Cond.static Lib.Math.max.name ∈ lw_tbl) (hini : Cond.initialized "java/lang/Math" ∈ lw_tbl) (hcode : Cond.code Lib.Math.max.name Lib.Math.max.code 2 (some .int) ∈ lw_tbl) (hd : decode cc pc = .ok (.invokestatic idx, 3)) (hd1 : 1 ≤ d) (hst : (st.map fun v => v.category).sum ≤ 8) (h1 : kc ≤ mc) (h2 : ks ≤ ms)
    (k : ZG X own cc nL d mc ms kc ks (pc + 3) L (.int (if x < y then y else x) :: st) σ I) : ZG X own cc nL d mc ms kc ks pc L (.int y :: .int x :: st) σ I := by
  obtain ⟨p, l, e, R, s, m, args, below, meth, c, Q, cy, D, b⟩ := X
  intro hX H locs ls hH hz hS hl
  have h3 := z_cats b st hst
  have h4 := hX.2.2.2.2.2.2.2.2.2.1
  exact va_mmax hX.1 hX.2.1 (by rw [hX.2.2.1]; exact hl.1.symm) hX.2.2.2.1 (hX.2.2.2.2.1 _ (zw_in hlink rfl)) (hX.2.2.2.2.1 _ (zw_in hstat rfl)) (hX.2.2.2.2.1 _ (zw_in hini rfl)) (hX.2.2.2.2.1 _ (zw_in hcode rfl)) (Nat.le_trans hd1 hX.2.2.2.2.2.2.2.2.1) (by omega) (Nat.le_trans h1 hX.2.2.2.2.2.2.2.2.2.2.1) (Nat.le_trans h2 hX.2.2.2.2.2.2.2.2.2.2.2) hd (k hX H locs ls hH hz hS hl)
theorem z_mmin {idx : Nat} {x y : Int32} (hlink : Cond.methodLink own idx Lib.Math.min.name ∈ lw_tbl) (hstat : Cond.static Lib.Math.min.name ∈ lw_tbl) (hini : Cond.initialized "java/lang/Math" ∈ lw_tbl) (hcode : Cond.code Lib.Math.min.name Lib.Math.min.code 2 (some .int) ∈ lw_tbl) (hd : decode cc pc = .ok (.invokestatic idx, 3)) (hd1 : 1 ≤ d) (hst : (st.map fun v => v.category).sum ≤ 8) (h1 : kc ≤ mc) (h2 : ks ≤ ms)
    (k : ZG X own cc nL d mc ms kc ks (pc + 3) L (.int (if y < x then y else x) :: st) σ I) : ZG X own cc nL d mc ms kc ks pc L (.int y :: .int x :: st) σ I := by
  obtain ⟨p, l, e, R, s, m, args, below, meth, c, Q, cy, D, b⟩ := X
  intro hX H locs ls hH hz hS hl
  have h3 := z_cats b st hst
  have h4 := hX.2.2.2.2.2.2.2.2.2.1
  exact va_mmin hX.1 hX.2.1 (by rw [hX.2.2.1]; exact hl.1.symm) hX.2.2.2.1 (hX.2.2.2.2.1 _ (zw_in hlink rfl)) (hX.2.2.2.2.1 _ (zw_in hstat rfl)) (hX.2.2.2.2.1 _ (zw_in hini rfl)) (hX.2.2.2.2.1 _ (zw_in hcode rfl)) (Nat.le_trans hd1 hX.2.2.2.2.2.2.2.2.1) (by omega) (Nat.le_trans h1 hX.2.2.2.2.2.2.2.2.2.2.1) (Nat.le_trans h2 hX.2.2.2.2.2.2.2.2.2.2.2) hd (k hX H locs ls hH hz hS hl)
theorem z_acopy {idx a0 a n0 n1 : Nat} {r0 r1 : List Nat} {n : Int32} (hlink : Cond.methodLink own idx arraycopyName ∈ lw_tbl) (hnat : Cond.native arraycopyName ∈ lw_tbl) (hstat : Cond.static arraycopyName ∈ lw_tbl) (hini : Cond.initialized "java/lang/System" ∈ lw_tbl) (hd : decode cc pc = .ok (.invokestatic idx, 3)) (hd1 : 1 ≤ d) (hst : (st.map fun v => v.category).sum ≤ 8)
    (h0 : σ[a0]? = some (1, n0, r0)) (h1 : σ[a]? = some (1, n1, r1)) (hn : ¬ n < 0) (hn0 : n.toNatClampNeg ≤ n0) (hn1 : n.toNatClampNeg ≤ n1)
    (k : ZG X own cc nL d mc ms kc ks (pc + 3) L st σ (zcp I a (va_cpy (I a0) (I a) 0 0 n.toNatClampNeg))) : ZG X own cc nL d mc ms kc ks pc L (.int n :: .int 0 :: .ref a :: .int 0 :: .ref a0 :: st) σ I := by
  obtain ⟨p, l, e, R, s, m, args, below, meth, c, Q, cy, D, b⟩ := X
  intro hX H locs ls hH hz hS hl
  have h3 := z_cats b st hst
  have h4 := hX.2.2.2.2.2.2.2.2.2.1
  have e00 : (0 : Int32).toNatClampNeg = 0 := rfl
  refine va_copyi (ty := .int) (f := I a0) (g := I a) (n0 := n0) (n1 := n1) hX.1 hX.2.1 (by rw [hX.2.2.1]; exact hl.1.symm) hX.2.2.2.1 (hX.2.2.2.2.1 _ (zw_in hlink rfl)) (hX.2.2.2.2.1 _ (zw_in hnat rfl)) (hX.2.2.2.2.1 _ (zw_in hstat rfl)) (hX.2.2.2.2.1 _ (zw_in hini rfl))
    hX.2.2.2.2.2.1.1 hH.2 (zwld_D cy b I σ) (z_S0 hS) a0 a 0 0 (zwld_at h0) (zwld_at h1) rfl rfl rfl (by decide) (by decide) hn (by rw [e00]; omega) (by rw [e00]; omega) (fun _ _ => rfl) (Nat.le_trans hd1 hX.2.2.2.2.2.2.2.2.1) ?_ hd (fun H1 locs1 hP1 hD1 hS1 => ?_)
  · have h5 : nativeFrameWords "java/lang/System" "arraycopy" 5 + 11 ≤ 32 := by decide
    omega
  · refine z_sized (fun hle => ?_)
    have e0 := hH.1
    have e1 := hS1.1
    have hw := zwld_set (cy := cy) (b := b) (I := I) (J := zcp I a (va_cpy (I a0) (I a) 0 0 n.toNatClampNeg)) (c' := (1, n1, r1)) h1 (fun q hq => if_neg hq)
    rw [zset_same h1, show zcp I a (va_cpy (I a0) (I a) 0 0 n.toNatClampNeg) a = va_cpy (I a0) (I a) 0 0 n.toNatClampNeg from if_pos rfl] at hw
    exact k hX H1 locs1 ls ⟨by omega, by rw [← hw]; exact hP1⟩ hz (z_S hS hS1) hl
end ZR2

