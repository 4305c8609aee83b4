/-! ===== the small machine: cells by number from a base, a shape (classes, lengths, references) and the ints that they hold ===== -/
abbrev ZC : Type := Nat × Nat × List Nat
abbrev ZI : Type := Nat → Nat → Int32
def zren (b : Nat) (v : Value) : Value := match v with
  | .ref a => .ref (b + a)
  | v => v
def zref (b r : Nat) : Option Nat := if r < 2 then none else some (b + (r - 2))
def zval (b r : Nat) (x : Int32) : Value := match r with
  | 0 => .int x
  | 1 => .null
  | r + 2 => .ref (b + r)
def zvals (b : Nat) (f : Nat → Int32) : Nat → List Nat → List Value
  | _, [] => []
  | j, r :: rs => zval b r (f j) :: zvals b f (j + 1) rs
def zcell (cy : Nat → ClassId) (b : Nat) (c : ZC) (f : Nat → Int32) : va_E := match c.1 with
  | 0 => .inr (c.2.1, zvals b f 0 c.2.2)
  | 1 => .inl (cy 0, c.2.1, .inl f)
  | _ => .inl (cy c.2.1, c.2.2.length, .inr (.inr (.inr (.inr (fun j => zref b (c.2.2.getD j 1))))))
def zwld (cy : Nat → ClassId) (b : Nat) (I : ZI) : Nat → List ZC → va_W
  | _, [] => []
  | k, c :: σ => (b + k, zcell cy b c (I k)) :: zwld cy b I (k + 1) σ
def zup (I : ZI) (a k : Nat) (x : Int32) : ZI := fun q => if q = a then upd (I a) k x else I q
def zclr (I : ZI) (a : Nat) : ZI := fun q => if q = a then (fun _ => 0) else I q
def zcp (I : ZI) (d : Nat) (f : Nat → Int32) : ZI := fun q => if q = d then f else I q
theorem zvals_get (b : Nat) (f : Nat → Int32) : ∀ (rs : List Nat) (j k : Nat), (zvals b f j rs)[k]? = rs[k]?.map (fun r => zval b r (f (j + k)))
  | [], j, k => by simp [zvals]
  | r :: rs, j, 0 => by simp [zvals]
  | r :: rs, j, k + 1 => by
    rw [zvals, List.getElem?_cons_succ, List.getElem?_cons_succ, zvals_get b f rs (j + 1) k, show j + 1 + k = j + (k + 1) by omega]
theorem zvals_len (b : Nat) (f : Nat → Int32) : ∀ (rs : List Nat) (j : Nat), (zvals b f j rs).length = rs.length
  | [], j => rfl
  | r :: rs, j => by rw [zvals, List.length_cons, List.length_cons, zvals_len b f rs (j + 1)]
theorem zwld_get (cy : Nat → ClassId) (b : Nat) (I : ZI) : ∀ (σ : List ZC) (j k : Nat), (zwld cy b I j σ)[k]? = σ[k]?.map (fun c => (b + (j + k), zcell cy b c (I (j + k))))
  | [], j, k => by simp [zwld]
  | c :: σ, j, 0 => by simp [zwld]
  | c :: σ, j, k + 1 => by
    rw [zwld, List.getElem?_cons_succ, List.getElem?_cons_succ, zwld_get cy b I σ (j + 1) k, show j + 1 + k = j + (k + 1) by omega]
theorem zwld_len (cy : Nat → ClassId) (b : Nat) (I : ZI) : ∀ (σ : List ZC) (j : Nat), (zwld cy b I j σ).length = σ.length
  | [], j => rfl
  | c :: σ, j => by rw [zwld, List.length_cons, List.length_cons, zwld_len cy b I σ (j + 1)]
theorem zwld_at {cy : Nat → ClassId} {b a : Nat} {I : ZI} {σ : List ZC} {c : ZC} (h : σ[a]? = some c) : (zwld cy b I 0 σ)[a]? = some (b + a, zcell cy b c (I a)) := by
  rw [zwld_get, h, Option.map_some, Nat.zero_add]
/-- one cell's shape and ints anew -/
theorem zwld_set {cy : Nat → ClassId} {b a : Nat} {I J : ZI} {σ : List ZC} {c c' : ZC} (h : σ[a]? = some c) (hJ : ∀ q, q ≠ a → J q = I q) :
    (zwld cy b I 0 σ).set a (b + a, zcell cy b c' (J a)) = zwld cy b J 0 (σ.set a c') := by
  have hl : a < σ.length := (List.getElem?_eq_some_iff.mp h).1
  apply List.ext_getElem?
  intro k
  rw [zwld_get]
  by_cases hk : k = a
  · subst hk
    rw [List.getElem?_set_self (by rw [zwld_len]; exact hl), List.getElem?_set_self hl, Option.map_some, Nat.zero_add]
  · rw [List.getElem?_set_ne (Ne.symm hk), List.getElem?_set_ne (Ne.symm hk), zwld_get, Nat.zero_add, hJ k hk]
theorem zwld_push {cy : Nat → ClassId} {b : Nat} {I J : ZI} {σ : List ZC} {c : ZC} (hJ : ∀ q, q < σ.length → J q = I q) :
    zwld cy b I 0 σ ++ [(b + σ.length, zcell cy b c (J σ.length))] = zwld cy b J 0 (σ ++ [c]) := by
  apply List.ext_getElem?
  intro k
  rw [zwld_get]
  rcases Nat.lt_trichotomy k σ.length with hk | hk | hk
  · rw [List.getElem?_append_left (by rw [zwld_len]; exact hk), List.getElem?_append_left hk, zwld_get, Nat.zero_add, hJ k hk]
  · subst hk
    rw [List.getElem?_append_right (by rw [zwld_len]; exact Nat.le_refl _), List.getElem?_append_right (Nat.le_refl _), zwld_len, Nat.sub_self]
    simp
  · rw [List.getElem?_append_right (by rw [zwld_len]; omega), List.getElem?_append_right (by omega), zwld_len]
    rw [List.getElem?_eq_none (by simp; omega), List.getElem?_eq_none (by simp; omega)]
    rfl
theorem zset_same {α : Type} {l : List α} {a : Nat} {c : α} (h : l[a]? = some c) : l.set a c = l := by
  apply List.ext_getElem?
  intro k
  by_cases hk : k = a
  · subst hk
    rw [List.getElem?_set_self (List.getElem?_eq_some_iff.mp h).1, h]
  · rw [List.getElem?_set_ne (Ne.symm hk)]
theorem zvals_int {b k : Nat} {f : Nat → Int32} {x : Int32} {rs : List Nat} (h : rs[k]? = some 0) : (zvals b f 0 rs).set k (.int x) = zvals b (upd f k x) 0 rs := by
  have hl : k < rs.length := (List.getElem?_eq_some_iff.mp h).1
  apply List.ext_getElem?
  intro j
  rw [zvals_get, Nat.zero_add]
  by_cases hj : j = k
  · subst hj
    rw [List.getElem?_set_self (by rw [zvals_len]; exact hl), h]
    simp [zval, upd]
  · rw [List.getElem?_set_ne (Ne.symm hj), zvals_get, Nat.zero_add]
    simp [upd, hj]
theorem zvals_ref {b k r r0 : Nat} {f : Nat → Int32} {rs : List Nat} (h : rs[k]? = some r0) : (zvals b f 0 rs).set k (.ref (b + r)) = zvals b f 0 (rs.set k (r + 2)) := by
  have hl : k < rs.length := (List.getElem?_eq_some_iff.mp h).1
  apply List.ext_getElem?
  intro j
  rw [zvals_get, Nat.zero_add]
  by_cases hj : j = k
  · subst hj
    rw [List.getElem?_set_self (by rw [zvals_len]; exact hl), List.getElem?_set_self hl]
    rfl
  · rw [List.getElem?_set_ne (Ne.symm hj), List.getElem?_set_ne (Ne.symm hj), zvals_get, Nat.zero_add]
/-! the words of the tables -/
def ZW : List Cond := lw_tbl.filter goodWord
theorem zw_in {w : Cond} (h : w ∈ lw_tbl) (hg : goodWord w = true) : w ∈ ZW := List.mem_filter.mpr ⟨h, hg⟩
def znest : Cond → Bool
  | .fieldLinkNest .. => true
  | .methodLinkNest .. => true
  | _ => false
def zws (y : MethodName) (cc : ByteArray) (nL : Nat) (ret : Option FieldType) : List Cond := Cond.code y cc nL ret :: ZW
def ztys (cy : Nat → ClassId) : List (ClassId × FieldType) := [(cy 0, .int), (cy 1, .object RX4), (cy 2, .object RX8)]
def ZT (cy : Nat → ClassId) (D : va_G) (U : State) : Prop := va_K D vwCl (ztys cy) U ∧ (∀ w ∈ lw_tbl, znest w = true → va_Nw w U) ∧ va_AO RX4 U ∧ va_AO RX8 U
def ZA (b : Nat) : Nat → Prop := fun q => b ≤ q
def ZH (cy : Nat → ClassId) (D : va_G) (b : Nat) (σ : List ZC) (I : ZI) (H : Heap) : Prop := H.size = b + σ.length ∧ va_P D vwCl (zwld cy b I 0 σ) H
theorem ZT.warm {cy : Nat → ClassId} {D : va_G} {s U : State} (hW : s.WarmedH U.vm) (h : ZT cy D s) : ZT cy D U := by
  refine ⟨va_K.moved hW.alike h.1, fun w hw hn => ?_, va_AO.moved hW.alike h.2.2.1, va_AO.moved hW.alike h.2.2.2⟩
  cases w <;> first | (cases hn; done) | exact va_Nw.warmF hW (h.2.1 _ hw hn) | exact va_Nw.warmM hW (h.2.1 _ hw hn)
theorem ZT.same {cy : Nat → ClassId} {D : va_G} {s U : State} (hv : s.vm = U.vm) (h : ZT cy D s) : ZT cy D U := by
  have ha : s.vm.Alike U.vm := by rw [← hv]; exact Vm.Alike.refl _
  refine ⟨va_K.moved ha h.1, fun w hw hn => ?_, va_AO.moved ha h.2.2.1, va_AO.moved ha h.2.2.2⟩
  cases w <;> first | (cases hn; done) | exact va_Nw.same rfl hv (h.2.1 _ hw hn)
theorem zwld_D (cy : Nat → ClassId) (b : Nat) (I : ZI) (σ : List ZC) : va_D (ZA b) (zwld cy b I 0 σ) := by
  have key : ∀ (i : Nat) (p : Nat × va_E), (zwld cy b I 0 σ)[i]? = some p → p.1 = b + i := by
    intro i p hp
    rw [zwld_get] at hp
    obtain ⟨c, -, hc⟩ := Option.map_eq_some_iff.mp hp
    rw [← hc, Nat.zero_add]
  refine ⟨fun i j p q hp hq he => ?_, fun k q hk => ?_⟩
  · have h1 := key i p hp
    have h2 := key j q hq
    omega
  · have h1 := key k q hk
    show b ≤ q.1
    omega
/-! locals by their places; a return address stands for 'not known' -/
def zlv (b : Nat) : Nat → List Value → List (Nat × Value)
  | _, [] => []
  | i, v :: L => match v with
    | .retAddr _ => zlv b (i + 1) L
    | v => (i, zren b v) :: zlv b (i + 1) L
abbrev zj : Value := .retAddr 0
def zknown : Value → Bool
  | .retAddr _ => false
  | _ => true
theorem zren_cat (b : Nat) (v : Value) : (zren b v).category = v.category := by cases v <;> rfl
theorem zlv_cons (b i : Nat) (v : Value) (L : List Value) : zlv b i (v :: L) = if zknown v = true then (i, zren b v) :: zlv b (i + 1) L else zlv b (i + 1) L := by
  cases v <;> rfl
theorem zlv_mem {b : Nat} {q : Nat × Value} : ∀ {L : List Value} {i : Nat}, q ∈ zlv b i L ↔ ∃ (k : Nat) (v : Value), L[k]? = some v ∧ zknown v = true ∧ q = (i + k, zren b v)
  | [], i => by simp [zlv]
  | v :: L, i => by
    rw [zlv_cons]
    constructor
    · intro h
      by_cases hv : zknown v = true
      · rw [if_pos hv] at h
        rcases List.mem_cons.mp h with h | h
        · exact ⟨0, v, rfl, hv, by rw [h, Nat.add_zero]⟩
        · obtain ⟨k, u, h1, h2, h3⟩ := zlv_mem.mp h
          exact ⟨k + 1, u, by rw [List.getElem?_cons_succ]; exact h1, h2, by rw [h3, show i + 1 + k = i + (k + 1) by omega]⟩
      · rw [if_neg hv] at h
        obtain ⟨k, u, h1, h2, h3⟩ := zlv_mem.mp h
        exact ⟨k + 1, u, by rw [List.getElem?_cons_succ]; exact h1, h2, by rw [h3, show i + 1 + k = i + (k + 1) by omega]⟩
    · rintro ⟨k, u, h1, h2, h3⟩
      cases k with
      | zero =>
        rw [List.getElem?_cons_zero] at h1
        cases h1
        rw [if_pos h2, h3, Nat.add_zero]
        exact List.mem_cons_self
      | succ k =>
        rw [List.getElem?_cons_succ] at h1
        have h : q ∈ zlv b (i + 1) L := zlv_mem.mpr ⟨k, u, h1, h2, by rw [h3, show i + 1 + k = i + (k + 1) by omega]⟩
        by_cases hv : zknown v = true
        · rw [if_pos hv]
          exact List.mem_cons_of_mem _ h
        · rw [if_neg hv]
          exact h
theorem zlv_at {b nL k : Nat} {ls : Array Slot} {L : List Value} {v : Value} (h : lv_has ls nL (zlv b 0 L)) (hk : L[k]? = some v) (hv : zknown v = true) : ls[k]? = some (.val (zren b v)) := by
  have := h.2.2 (k, zren b v) (zlv_mem.mpr ⟨k, v, hk, hv, by rw [Nat.zero_add]⟩)
  exact this
theorem zlv_st1 {b nL k : Nat} {ls : Array Slot} {L : List Value} {v : Value} (hg : ∀ j w, L[j]? = some w → j + 1 = k → w.category = 1)
    (h : lv_has ls nL ((k, zren b v) :: (zlv b 0 L).filter (fun q => !(q.1 == k) && !(q.1 + 1 == k && q.2.category == 2)))) : lv_has ls nL (zlv b 0 (L.set k v)) := by
  refine ⟨h.1, h.2.1, fun q hq => h.2.2 q ?_⟩
  obtain ⟨j, w, h1, h2, h3⟩ := zlv_mem.mp hq
  rw [Nat.zero_add] at h3
  by_cases hj : k = j
  · subst hj
    have hl : k < L.length := by
      have := (List.getElem?_eq_some_iff.mp h1).1
      rwa [List.length_set] at this
    rw [List.getElem?_set_self hl] at h1
    cases h1
    rw [h3]
    exact List.mem_cons_self
  · rw [List.getElem?_set_ne hj] at h1
    refine List.mem_cons_of_mem _ (List.mem_filter.mpr ⟨zlv_mem.mpr ⟨j, w, h1, h2, by rw [h3, Nat.zero_add]⟩, ?_⟩)
    rw [h3]
    have hjk : (j == k) = false := by simp; omega
    by_cases hc : j + 1 = k
    · have := hg j w h1 hc
      simp [zren_cat, this, hjk]
    · simp [hc]; omega
theorem zlv_st2 {b nL k : Nat} {ls : Array Slot} {L : List Value} {v : Value} (hg : ∀ j w, L[j]? = some w → j + 1 = k → w.category = 1)
    (h : lv_has ls nL ((k, zren b v) :: (zlv b 0 L).filter (fun q => !(q.1 == k) && (!(q.1 == k + 1) && !(q.1 + 1 == k && q.2.category == 2))))) : lv_has ls nL (zlv b 0 ((L.set k v).set (k + 1) zj)) := by
  refine ⟨h.1, h.2.1, fun q hq => h.2.2 q ?_⟩
  obtain ⟨j, w, h1, h2, h3⟩ := zlv_mem.mp hq
  rw [Nat.zero_add] at h3
  by_cases hj1 : k + 1 = j
  · subst hj1
    have hl : k + 1 < (L.set k v).length := by
      have := (List.getElem?_eq_some_iff.mp h1).1
      rwa [List.length_set] at this
    rw [List.getElem?_set_self hl] at h1
    cases h1
    cases h2
  · rw [List.getElem?_set_ne hj1] at h1
    by_cases hj : k = j
    · subst hj
      have hl : k < L.length := by
        have := (List.getElem?_eq_some_iff.mp h1).1
        rwa [List.length_set] at this
      rw [List.getElem?_set_self hl] at h1
      cases h1
      rw [h3]
      exact List.mem_cons_self
    · rw [List.getElem?_set_ne hj] at h1
      refine List.mem_cons_of_mem _ (List.mem_filter.mpr ⟨zlv_mem.mpr ⟨j, w, h1, h2, by rw [h3, Nat.zero_add]⟩, ?_⟩)
      rw [h3]
      have hjk : (j == k) = false := by simp; omega
      have hjk1 : (j == k + 1) = false := by simp; omega
      by_cases hc : j + 1 = k
      · have := hg j w h1 hc
        simp [zren_cat, this, hjk, hjk1]
      · simp [hc]; omega
theorem zlv_fg {b nL : Nat} {ls : Array Slot} {L L' : List Value} (hL : ∀ (j : Nat) (w : Value), L'[j]? = some w → zknown w = true → L[j]? = some w) (h : lv_has ls nL (zlv b 0 L)) : lv_has ls nL (zlv b 0 L') := by
  refine ⟨h.1, h.2.1, fun q hq => h.2.2 q ?_⟩
  obtain ⟨j, w, h1, h2, h3⟩ := zlv_mem.mp hq
  exact zlv_mem.mpr ⟨j, w, hL j w h1 h2, h2, h3⟩
def zent : List Value → List Value
  | [] => []
  | v :: vs => if v.category = 2 then v :: zj :: zent vs else v :: zent vs
theorem zlv_app (b : Nat) (n : Nat) : ∀ (L : List Value) (i : Nat), zlv b i (L ++ List.replicate n zj) = zlv b i L
  | [], i => by
    induction n generalizing i with
    | zero => rfl
    | succ n ih => rw [List.nil_append, List.replicate_succ, zlv_cons, if_neg (by decide), ← List.nil_append (List.replicate n zj), ih]; rfl
  | v :: L, i => by
    rw [List.cons_append, zlv_cons, zlv_cons, zlv_app b n L (i + 1)]
theorem zent_args (b : Nat) : ∀ (vs : List Value) (i : Nat), (∀ v ∈ vs, zknown v = true) → zlv b i (zent vs) = lv_args i (vs.map (zren b))
  | [], i, _ => rfl
  | v :: vs, i, h => by
    have hv := h v List.mem_cons_self
    have ih := fun j => zent_args b vs j (fun u hu => h u (List.mem_cons_of_mem _ hu))
    rw [List.map_cons, lv_args, zent, zren_cat]
    by_cases hc : v.category = 2
    · rw [if_pos hc, if_pos hc, zlv_cons, if_pos hv, zlv_cons, if_neg (by decide), ih]
    · rw [if_neg hc, if_neg hc, zlv_cons, if_pos hv, ih]
/-! the goal -/
abbrev ZX : Type := Program × Launch × Env × Room × State × MethodId × Array Value × List Frame × Method × Code × (State → Prop) × (Nat → ClassId) × va_G × Nat
def ZOK (X : ZX) (own : String) (cc : ByteArray) (nL d mc ms : Nat) : Prop := match X with
  | (p, _, _, R, s, m, _, _, meth, c, _, cy, D, b) =>
    p.tables.exec = Jvm.exec ∧ c.code = cc ∧ c.maxLocals = nL ∧ s.vm.findClass own = some m.cls ∧ (∀ w ∈ ZW, w.before X.2.2.2.2.2.2.1 s = true) ∧ ZT cy D s ∧ b ≤ s.heap.size ∧ meth.locks = false ∧ d ≤ R.frames ∧ 40 * d ≤ R.locals ∧ mc ≤ R.cells ∧ ms ≤ R.slots
def ZG (X : ZX) (own : String) (cc : ByteArray) (nL d mc ms kc ks pc : Nat) (L st : List Value) (σ : List ZC) (I : ZI) : Prop := match X with
  | (p, l, e, R, s, m, args, below, meth, c, Q, cy, D, b) =>
    ZOK (p, l, e, R, s, m, args, below, meth, c, Q, cy, D, b) own cc nL d mc ms → ∀ (H : Heap) (locs : List Loc) (ls : Array Slot), ZH cy D b σ I H → b + σ.length = s.heap.size + kc → va_S (ZA b) s.heap H locs → lv_has ls nL (zlv b 0 L) →
      W p l e R s m args below meth c H locs kc ks Q (F0 m pc ls (st.map (zren b)))
section ZR
variable {X : ZX} {own : String} {cc : ByteArray} {nL d mc ms kc ks pc : Nat} {L st : List Value} {σ : List ZC} {I : ZI}
/-- fewer locals known -/
theorem z_forget {L' : List Value} (hL : ∀ (j : Nat) (w : Value), L'[j]? = some w → zknown w = true → L[j]? = some w) (k : ZG X own cc nL d mc ms kc ks pc L' st σ I) : ZG X own cc nL d mc ms kc ks pc L st σ I := by
  obtain ⟨p, l, e, R, s, m, args, below, meth, c, Q, cy, D, b⟩ := X
  intro hX H locs ls hH hz hS hl
  exact k hX H locs ls hH hz hS (zlv_fg hL hl)
theorem z_eq {I' : ZI} (h : I = I') (k : ZG X own cc nL d mc ms kc ks pc L st σ I') : ZG X own cc nL d mc ms kc ks pc L st σ I := h ▸ k

theorem z_iconst {n : Int} {v : Int32} (hd : decode cc pc = .ok (.iconst n, 1)) (hv : Int32.ofInt n = v)
    (k : ZG X own cc nL d mc ms kc ks (pc + 1) L (.int v :: st) σ I) : ZG X own cc nL d mc ms kc ks pc L (st) σ I := by
  obtain ⟨p, l, e, R, s, m, args, below, meth, c, Q, cy, D, b⟩ := X
  intro hX H locs ls hH hz hS hl
  exact lv_iconst hX.1 hX.2.1 hd hv (k hX H locs ls hH hz hS hl)
theorem z_bipush {n : Int} {v : Int32} (hd : decode cc pc = .ok (.bipush n, 2)) (hv : (Int8.ofInt n).toInt32 = v)
    (k : ZG X own cc nL d mc ms kc ks (pc + 2) L (.int v :: st) σ I) : ZG X own cc nL d mc ms kc ks pc L (st) σ I := by
  obtain ⟨p, l, e, R, s, m, args, below, meth, c, Q, cy, D, b⟩ := X
  intro hX H locs ls hH hz hS hl
  exact lv_bipush hX.1 hX.2.1 hd hv (k hX H locs ls hH hz hS hl)
theorem z_sipush {n : Int} {v : Int32} (hd : decode cc pc = .ok (.sipush n, 3)) (hv : (Int16.ofInt n).toInt32 = v)
    (k : ZG X own cc nL d mc ms kc ks (pc + 3) L (.int v :: st) σ I) : ZG X own cc nL d mc ms kc ks pc L (st) σ I := by
  obtain ⟨p, l, e, R, s, m, args, below, meth, c, Q, cy, D, b⟩ := X
  intro hX H locs ls hH hz hS hl
  exact lv_sipush hX.1 hX.2.1 hd hv (k hX H locs ls hH hz hS hl)
theorem z_iadd {x y : Int32} (hd : decode cc pc = .ok (.iadd, 1)) 
    (k : ZG X own cc nL d mc ms kc ks (pc + 1) L (.int (x + y) :: st) σ I) : ZG X own cc nL d mc ms kc ks pc L (.int y :: .int x :: st) σ I := by
  obtain ⟨p, l, e, R, s, m, args, below, meth, c, Q, cy, D, b⟩ := X
  intro hX H locs ls hH hz hS hl
  exact lv_iadd hX.1 hX.2.1 hd  (k hX H locs ls hH hz hS hl)
theorem z_isub {x y : Int32} (hd : decode cc pc = .ok (.isub, 1)) 
    (k : ZG X own cc nL d mc ms kc ks (pc + 1) L (.int (x - y) :: st) σ I) : ZG X own cc nL d mc ms kc ks pc L (.int y :: .int x :: st) σ I := by
  obtain ⟨p, l, e, R, s, m, args, below, meth, c, Q, cy, D, b⟩ := X
  intro hX H locs ls hH hz hS hl
  exact lv_isub hX.1 hX.2.1 hd  (k hX H locs ls hH hz hS hl)
theorem z_imul {x y : Int32} (hd : decode cc pc = .ok (.imul, 1)) 
    (k : ZG X own cc nL d mc ms kc ks (pc + 1) L (.int (x * y) :: st) σ I) : ZG X own cc nL d mc ms kc ks pc L (.int y :: .int x :: st) σ I := by
  obtain ⟨p, l, e, R, s, m, args, below, meth, c, Q, cy, D, b⟩ := X
  intro hX H locs ls hH hz hS hl
  exact lv_imul hX.1 hX.2.1 hd  (k hX H locs ls hH hz hS hl)
theorem z_iand {x y : Int32} (hd : decode cc pc = .ok (.iand, 1)) 
    (k : ZG X own cc nL d mc ms kc ks (pc + 1) L (.int (x &&& y) :: st) σ I) : ZG X own cc nL d mc ms kc ks pc L (.int y :: .int x :: st) σ I := by
  obtain ⟨p, l, e, R, s, m, args, below, meth, c, Q, cy, D, b⟩ := X
  intro hX H locs ls hH hz hS hl
  exact lv_iand hX.1 hX.2.1 hd  (k hX H locs ls hH hz hS hl)
theorem z_ishl {x y : Int32} (hd : decode cc pc = .ok (.ishl, 1)) 
    (k : ZG X own cc nL d mc ms kc ks (pc + 1) L (.int (x <<< (y &&& 31)) :: st) σ I) : ZG X own cc nL d mc ms kc ks pc L (.int y :: .int x :: st) σ I := by
  obtain ⟨p, l, e, R, s, m, args, below, meth, c, Q, cy, D, b⟩ := X
  intro hX H locs ls hH hz hS hl
  exact lv_ishl hX.1 hX.2.1 hd  (k hX H locs ls hH hz hS hl)
theorem z_ishr {x y : Int32} (hd : decode cc pc = .ok (.ishr, 1)) 
    (k : ZG X own cc nL d mc ms kc ks (pc + 1) L (.int (x >>> (y &&& 31)) :: st) σ I) : ZG X own cc nL d mc ms kc ks pc L (.int y :: .int x :: st) σ I := by
  obtain ⟨p, l, e, R, s, m, args, below, meth, c, Q, cy, D, b⟩ := X
  intro hX H locs ls hH hz hS hl
  exact lv_ishr hX.1 hX.2.1 hd  (k hX H locs ls hH hz hS hl)
theorem z_idiv {x y : Int32} (hd : decode cc pc = .ok (.idiv, 1)) (hne : ¬ y = 0)
    (k : ZG X own cc nL d mc ms kc ks (pc + 1) L (.int (x / y) :: st) σ I) : ZG X own cc nL d mc ms kc ks pc L (.int y :: .int x :: st) σ I := by
  obtain ⟨p, l, e, R, s, m, args, below, meth, c, Q, cy, D, b⟩ := X
  intro hX H locs ls hH hz hS hl
  exact lv_idiv hX.1 hX.2.1 hd hne (k hX H locs ls hH hz hS hl)
theorem z_irem {x y : Int32} (hd : decode cc pc = .ok (.irem, 1)) (hne : ¬ y = 0)
    (k : ZG X own cc nL d mc ms kc ks (pc + 1) L (.int (x - x / y * y) :: st) σ I) : ZG X own cc nL d mc ms kc ks pc L (.int y :: .int x :: st) σ I := by
  obtain ⟨p, l, e, R, s, m, args, below, meth, c, Q, cy, D, b⟩ := X
  intro hX H locs ls hH hz hS hl
  exact lv_irem hX.1 hX.2.1 hd hne (k hX H locs ls hH hz hS hl)
theorem z_iushr {x y : Int32} (hd : decode cc pc = .ok (.iushr, 1)) 
    (k : ZG X own cc nL d mc ms kc ks (pc + 1) L (.int ((x.toUInt32 >>> (y.toUInt32 &&& Int32.toUInt32 31)).toInt32) :: st) σ I) : ZG X own cc nL d mc ms kc ks pc L (.int y :: .int x :: st) σ I := by
  obtain ⟨p, l, e, R, s, m, args, below, meth, c, Q, cy, D, b⟩ := X
  intro hX H locs ls hH hz hS hl
  exact lv_iushr hX.1 hX.2.1 hd rfl (k hX H locs ls hH hz hS hl)
theorem z_i2l {x : Int32} (hd : decode cc pc = .ok (.i2l, 1)) 
    (k : ZG X own cc nL d mc ms kc ks (pc + 1) L (.long x.toInt64 :: st) σ I) : ZG X own cc nL d mc ms kc ks pc L (.int x :: st) σ I := by
  obtain ⟨p, l, e, R, s, m, args, below, meth, c, Q, cy, D, b⟩ := X
  intro hX H locs ls hH hz hS hl
  exact lv_i2l hX.1 hX.2.1 hd rfl (k hX H locs ls hH hz hS hl)
theorem z_ladd {x y : Int64} (hd : decode cc pc = .ok (.ladd, 1)) 
    (k : ZG X own cc nL d mc ms kc ks (pc + 1) L (.long (x + y) :: st) σ I) : ZG X own cc nL d mc ms kc ks pc L (.long y :: .long x :: st) σ I := by
  obtain ⟨p, l, e, R, s, m, args, below, meth, c, Q, cy, D, b⟩ := X
  intro hX H locs ls hH hz hS hl
  exact lv_ladd hX.1 hX.2.1 hd  (k hX H locs ls hH hz hS hl)
theorem z_lmul {x y : Int64} (hd : decode cc pc = .ok (.lmul, 1)) 
    (k : ZG X own cc nL d mc ms kc ks (pc + 1) L (.long (x * y) :: st) σ I) : ZG X own cc nL d mc ms kc ks pc L (.long y :: .long x :: st) σ I := by
  obtain ⟨p, l, e, R, s, m, args, below, meth, c, Q, cy, D, b⟩ := X
  intro hX H locs ls hH hz hS hl
  exact lv_lmul hX.1 hX.2.1 hd  (k hX H locs ls hH hz hS hl)
theorem z_i2f {x : Int32} (hd : decode cc pc = .ok (.i2f, 1)) 
    (k : ZG X own cc nL d mc ms kc ks (pc + 1) L (.float (FP.i2f x) :: st) σ I) : ZG X own cc nL d mc ms kc ks pc L (.int x :: st) σ I := by
  obtain ⟨p, l, e, R, s, m, args, below, meth, c, Q, cy, D, b⟩ := X
  intro hX H locs ls hH hz hS hl
  exact lv_i2f hX.1 hX.2.1 hd  (k hX H locs ls hH hz hS hl)
theorem z_fdiv {x y : UInt32} (hd : decode cc pc = .ok (.fdiv, 1)) (hne : vf_n32 (FP.fdiv x y))
    (k : ZG X own cc nL d mc ms kc ks (pc + 1) L (.float (FP.fdiv x y) :: st) σ I) : ZG X own cc nL d mc ms kc ks pc L (.float y :: .float x :: st) σ I := by
  obtain ⟨p, l, e, R, s, m, args, below, meth, c, Q, cy, D, b⟩ := X
  intro hX H locs ls hH hz hS hl
  exact lv_fdiv hX.1 hX.2.1 hd hne (k hX H locs ls hH hz hS hl)
theorem z_f2d {x : UInt32} (hd : decode cc pc = .ok (.f2d, 1)) (hne : vf_n64 (FP.f2d x))
    (k : ZG X own cc nL d mc ms kc ks (pc + 1) L (.double (FP.f2d x) :: st) σ I) : ZG X own cc nL d mc ms kc ks pc L (.float x :: st) σ I := by
  obtain ⟨p, l, e, R, s, m, args, below, meth, c, Q, cy, D, b⟩ := X
  intro hX H locs ls hH hz hS hl
  exact lv_f2d hX.1 hX.2.1 hd hne (k hX H locs ls hH hz hS hl)
theorem z_dcmp {x y : UInt64} {op : CmpOp} (hd : decode cc pc = .ok (.dcmp op, 1)) 
    (k : ZG X own cc nL d mc ms kc ks (pc + 1) L (.int (Op.cmpValue (FP.dcmp x y) op) :: st) σ I) : ZG X own cc nL d mc ms kc ks pc L (.double y :: .double x :: st) σ I := by
  obtain ⟨p, l, e, R, s, m, args, below, meth, c, Q, cy, D, b⟩ := X
  intro hX H locs ls hH hz hS hl
  exact lv_dcmp hX.1 hX.2.1 hd  (k hX H locs ls hH hz hS hl)
theorem z_fconst0  (hd : decode cc pc = .ok (.fconst 0, 1)) 
    (k : ZG X own cc nL d mc ms kc ks (pc + 1) L (.float FP.fconst0 :: st) σ I) : ZG X own cc nL d mc ms kc ks pc L (st) σ I := by
  obtain ⟨p, l, e, R, s, m, args, below, meth, c, Q, cy, D, b⟩ := X
  intro hX H locs ls hH hz hS hl
  exact lv_fconst0 hX.1 hX.2.1 hd  (k hX H locs ls hH hz hS hl)
theorem z_null  (hd : decode cc pc = .ok (.aconst_null, 1)) 
    (k : ZG X own cc nL d mc ms kc ks (pc + 1) L (.null :: st) σ I) : ZG X own cc nL d mc ms kc ks pc L (st) σ I := by
  obtain ⟨p, l, e, R, s, m, args, below, meth, c, Q, cy, D, b⟩ := X
  intro hX H locs ls hH hz hS hl
  exact lv_null hX.1 hX.2.1 hd  (k hX H locs ls hH hz hS hl)
theorem z_dup {v : Value} (hd : decode cc pc = .ok (.dup, 1)) (hv : v.category = 1)
    (k : ZG X own cc nL d mc ms kc ks (pc + 1) L (v :: v :: st) σ I) : ZG X own cc nL d mc ms kc ks pc L (v :: st) σ I := by
  obtain ⟨p, l, e, R, s, m, args, below, meth, c, Q, cy, D, b⟩ := X
  intro hX H locs ls hH hz hS hl
  exact lv_dup hX.1 hX.2.1 hd (by rw [zren_cat]; exact hv) (k hX H locs ls hH hz hS hl)
theorem z_dup2 {u v : Value} (hd : decode cc pc = .ok (.dup2, 1)) (hu : u.category = 1) (hv : v.category = 1)
    (k : ZG X own cc nL d mc ms kc ks (pc + 1) L (u :: v :: u :: v :: st) σ I) : ZG X own cc nL d mc ms kc ks pc L (u :: v :: st) σ I := by
  obtain ⟨p, l, e, R, s, m, args, below, meth, c, Q, cy, D, b⟩ := X
  intro hX H locs ls hH hz hS hl
  exact lv_dup2_11 hX.1 hX.2.1 hd (by rw [zren_cat]; exact hu) (by rw [zren_cat]; exact hv) (k hX H locs ls hH hz hS hl)
theorem z_lcmp {x y : Int64} (hd : decode cc pc = .ok (.lcmp, 1))
    (k : ZG X own cc nL d mc ms kc ks (pc + 1) L (.int (lg_cmp x y) :: st) σ I) : ZG X own cc nL d mc ms kc ks pc L (.long y :: .long x :: st) σ I := by
  obtain ⟨p, l, e, R, s, m, args, below, meth, c, Q, cy, D, b⟩ := X
  intro hX H locs ls hH hz hS hl
  exact W.lcmp hX.1 hX.2.1 hd (k hX H locs ls hH hz hS hl)
theorem z_ldc {index : Nat} {v : Int32} (hw : Cond.constant own index v ∈ lw_tbl) (hd : decode cc pc = .ok (.ldc index, 2))
    (k : ZG X own cc nL d mc ms kc ks (pc + 2) L (.int v :: st) σ I) : ZG X own cc nL d mc ms kc ks pc L st σ I := by
  obtain ⟨p, l, e, R, s, m, args, below, meth, c, Q, cy, D, b⟩ := X
  intro hX H locs ls hH hz hS hl
  exact lv_ldc hX.1 hX.2.1 hX.2.2.2.1 (hX.2.2.2.2.1 _ (zw_in hw rfl)) hd (k hX H locs ls hH hz hS hl)
theorem z_ldc2 {index : Nat} {v : Int64} (hw : Cond.constantLong own index v ∈ lw_tbl) (hd : decode cc pc = .ok (.ldc2_w index, 3))
    (k : ZG X own cc nL d mc ms kc ks (pc + 3) L (.long v :: st) σ I) : ZG X own cc nL d mc ms kc ks pc L st σ I := by
  obtain ⟨p, l, e, R, s, m, args, below, meth, c, Q, cy, D, b⟩ := X
  intro hX H locs ls hH hz hS hl
  exact lv_ldc2 hX.1 hX.2.1 hX.2.2.2.1 (hX.2.2.2.2.1 _ (zw_in hw rfl)) hd (k hX H locs ls hH hz hS hl)
theorem z_ldcf {index : Nat} {v : UInt32} (hw : Cond.constantFloat own index v ∈ lw_tbl) (hd : decode cc pc = .ok (.ldc index, 2))
    (k : ZG X own cc nL d mc ms kc ks (pc + 2) L (.float v :: st) σ I) : ZG X own cc nL d mc ms kc ks pc L st σ I := by
  obtain ⟨p, l, e, R, s, m, args, below, meth, c, Q, cy, D, b⟩ := X
  intro hX H locs ls hH hz hS hl
  exact lv_ldcf hX.1 hX.2.1 hX.2.2.2.1 (hX.2.2.2.2.1 _ (zw_in hw rfl)) hd (k hX H locs ls hH hz hS hl)
-- branches
theorem z_if_eq {x : Int32} {off : Int} {tgt : Nat} (hd : decode cc pc = .ok (.ifCond .eq off, 3)) (ht : (pc : Int) + off = (tgt : Int))
    (kt : x = 0 → ZG X own cc nL d mc ms kc ks tgt L st σ I) (kf : ¬ x = 0 → ZG X own cc nL d mc ms kc ks (pc + 3) L st σ I) : ZG X own cc nL d mc ms kc ks pc L (.int x :: st) σ I := by
  obtain ⟨p, l, e, R, s, m, args, below, meth, c, Q, cy, D, b⟩ := X
  intro hX H locs ls hH hz hS hl
  exact lv_if_eq hX.1 hX.2.1 hd ht (fun h => kt h hX H locs ls hH hz hS hl) (fun h => kf h hX H locs ls hH hz hS hl)
theorem z_icmp_eq {x y : Int32} {off : Int} {tgt : Nat} (hd : decode cc pc = .ok (.if_icmp .eq off, 3)) (ht : (pc : Int) + off = (tgt : Int))
    (kt : x = y → ZG X own cc nL d mc ms kc ks tgt L st σ I) (kf : ¬ x = y → ZG X own cc nL d mc ms kc ks (pc + 3) L st σ I) : ZG X own cc nL d mc ms kc ks pc L (.int y :: .int x :: st) σ I := by
  obtain ⟨p, l, e, R, s, m, args, below, meth, c, Q, cy, D, b⟩ := X
  intro hX H locs ls hH hz hS hl
  exact lv_icmp_eq hX.1 hX.2.1 hd ht (fun h => kt h hX H locs ls hH hz hS hl) (fun h => kf h hX H locs ls hH hz hS hl)
theorem z_if_ne {x : Int32} {off : Int} {tgt : Nat} (hd : decode cc pc = .ok (.ifCond .ne off, 3)) (ht : (pc : Int) + off = (tgt : Int))
    (kt : ¬ x = 0 → ZG X own cc nL d mc ms kc ks tgt L st σ I) (kf : x = 0 → ZG X own cc nL d mc ms kc ks (pc + 3) L st σ I) : ZG X own cc nL d mc ms kc ks pc L (.int x :: st) σ I := by
  obtain ⟨p, l, e, R, s, m, args, below, meth, c, Q, cy, D, b⟩ := X
  intro hX H locs ls hH hz hS hl
  exact lv_if_ne hX.1 hX.2.1 hd ht (fun h => kt h hX H locs ls hH hz hS hl) (fun h => kf h hX H locs ls hH hz hS hl)
theorem z_icmp_ne {x y : Int32} {off : Int} {tgt : Nat} (hd : decode cc pc = .ok (.if_icmp .ne off, 3)) (ht : (pc : Int) + off = (tgt : Int))
    (kt : ¬ x = y → ZG X own cc nL d mc ms kc ks tgt L st σ I) (kf : x = y → ZG X own cc nL d mc ms kc ks (pc + 3) L st σ I) : ZG X own cc nL d mc ms kc ks pc L (.int y :: .int x :: st) σ I := by
  obtain ⟨p, l, e, R, s, m, args, below, meth, c, Q, cy, D, b⟩ := X
  intro hX H locs ls hH hz hS hl
  exact lv_icmp_ne hX.1 hX.2.1 hd ht (fun h => kt h hX H locs ls hH hz hS hl) (fun h => kf h hX H locs ls hH hz hS hl)
theorem z_if_lt {x : Int32} {off : Int} {tgt : Nat} (hd : decode cc pc = .ok (.ifCond .lt off, 3)) (ht : (pc : Int) + off = (tgt : Int))
    (kt : x < 0 → ZG X own cc nL d mc ms kc ks tgt L st σ I) (kf : ¬ x < 0 → ZG X own cc nL d mc ms kc ks (pc + 3) L st σ I) : ZG X own cc nL d mc ms kc ks pc L (.int x :: st) σ I := by
  obtain ⟨p, l, e, R, s, m, args, below, meth, c, Q, cy, D, b⟩ := X
  intro hX H locs ls hH hz hS hl
  exact lv_if_lt hX.1 hX.2.1 hd ht (fun h => kt h hX H locs ls hH hz hS hl) (fun h => kf h hX H locs ls hH hz hS hl)
theorem z_icmp_lt {x y : Int32} {off : Int} {tgt : Nat} (hd : decode cc pc = .ok (.if_icmp .lt off, 3)) (ht : (pc : Int) + off = (tgt : Int))
    (kt : x < y → ZG X own cc nL d mc ms kc ks tgt L st σ I) (kf : ¬ x < y → ZG X own cc nL d mc ms kc ks (pc + 3) L st σ I) : ZG X own cc nL d mc ms kc ks pc L (.int y :: .int x :: st) σ I := by
  obtain ⟨p, l, e, R, s, m, args, below, meth, c, Q, cy, D, b⟩ := X
  intro hX H locs ls hH hz hS hl
  exact lv_icmp_lt hX.1 hX.2.1 hd ht (fun h => kt h hX H locs ls hH hz hS hl) (fun h => kf h hX H locs ls hH hz hS hl)
theorem z_if_ge {x : Int32} {off : Int} {tgt : Nat} (hd : decode cc pc = .ok (.ifCond .ge off, 3)) (ht : (pc : Int) + off = (tgt : Int))
    (kt : 0 ≤ x → ZG X own cc nL d mc ms kc ks tgt L st σ I) (kf : ¬ 0 ≤ x → ZG X own cc nL d mc ms kc ks (pc + 3) L st σ I) : ZG X own cc nL d mc ms kc ks pc L (.int x :: st) σ I := by
  obtain ⟨p, l, e, R, s, m, args, below, meth, c, Q, cy, D, b⟩ := X
  intro hX H locs ls hH hz hS hl
  exact lv_if_ge hX.1 hX.2.1 hd ht (fun h => kt h hX H locs ls hH hz hS hl) (fun h => kf h hX H locs ls hH hz hS hl)
theorem z_icmp_ge {x y : Int32} {off : Int} {tgt : Nat} (hd : decode cc pc = .ok (.if_icmp .ge off, 3)) (ht : (pc : Int) + off = (tgt : Int))
    (kt : y ≤ x → ZG X own cc nL d mc ms kc ks tgt L st σ I) (kf : ¬ y ≤ x → ZG X own cc nL d mc ms kc ks (pc + 3) L st σ I) : ZG X own cc nL d mc ms kc ks pc L (.int y :: .int x :: st) σ I := by
  obtain ⟨p, l, e, R, s, m, args, below, meth, c, Q, cy, D, b⟩ := X
  intro hX H locs ls hH hz hS hl
  exact lv_icmp_ge hX.1 hX.2.1 hd ht (fun h => kt h hX H locs ls hH hz hS hl) (fun h => kf h hX H locs ls hH hz hS hl)
theorem z_if_gt {x : Int32} {off : Int} {tgt : Nat} (hd : decode cc pc = .ok (.ifCond .gt off, 3)) (ht : (pc : Int) + off = (tgt : Int))
    (kt : 0 < x → ZG X own cc nL d mc ms kc ks tgt L st σ I) (kf : ¬ 0 < x → ZG X own cc nL d mc ms kc ks (pc + 3) L st σ I) : ZG X own cc nL d mc ms kc ks pc L (.int x :: st) σ I := by
  obtain ⟨p, l, e, R, s, m, args, below, meth, c, Q, cy, D, b⟩ := X
  intro hX H locs ls hH hz hS hl
  exact lv_if_gt hX.1 hX.2.1 hd ht (fun h => kt h hX H locs ls hH hz hS hl) (fun h => kf h hX H locs ls hH hz hS hl)
theorem z_icmp_gt {x y : Int32} {off : Int} {tgt : Nat} (hd : decode cc pc = .ok (.if_icmp .gt off, 3)) (ht : (pc : Int) + off = (tgt : Int))
    (kt : y < x → ZG X own cc nL d mc ms kc ks tgt L st σ I) (kf : ¬ y < x → ZG X own cc nL d mc ms kc ks (pc + 3) L st σ I) : ZG X own cc nL d mc ms kc ks pc L (.int y :: .int x :: st) σ I := by
  obtain ⟨p, l, e, R, s, m, args, below, meth, c, Q, cy, D, b⟩ := X
  intro hX H locs ls hH hz hS hl
  exact lv_icmp_gt hX.1 hX.2.1 hd ht (fun h => kt h hX H locs ls hH hz hS hl) (fun h => kf h hX H locs ls hH hz hS hl)
theorem z_if_le {x : Int32} {off : Int} {tgt : Nat} (hd : decode cc pc = .ok (.ifCond .le off, 3)) (ht : (pc : Int) + off = (tgt : Int))
    (kt : x ≤ 0 → ZG X own cc nL d mc ms kc ks tgt L st σ I) (kf : ¬ x ≤ 0 → ZG X own cc nL d mc ms kc ks (pc + 3) L st σ I) : ZG X own cc nL d mc ms kc ks pc L (.int x :: st) σ I := by
  obtain ⟨p, l, e, R, s, m, args, below, meth, c, Q, cy, D, b⟩ := X
  intro hX H locs ls hH hz hS hl
  exact lv_if_le hX.1 hX.2.1 hd ht (fun h => kt h hX H locs ls hH hz hS hl) (fun h => kf h hX H locs ls hH hz hS hl)
theorem z_icmp_le {x y : Int32} {off : Int} {tgt : Nat} (hd : decode cc pc = .ok (.if_icmp .le off, 3)) (ht : (pc : Int) + off = (tgt : Int))
    (kt : x ≤ y → ZG X own cc nL d mc ms kc ks tgt L st σ I) (kf : ¬ x ≤ y → ZG X own cc nL d mc ms kc ks (pc + 3) L st σ I) : ZG X own cc nL d mc ms kc ks pc L (.int y :: .int x :: st) σ I := by
  obtain ⟨p, l, e, R, s, m, args, below, meth, c, Q, cy, D, b⟩ := X
  intro hX H locs ls hH hz hS hl
  exact lv_icmp_le hX.1 hX.2.1 hd ht (fun h => kt h hX H locs ls hH hz hS hl) (fun h => kf h hX H locs ls hH hz hS hl)
theorem z_goto {off : Int} {tgt : Nat} (hd : decode cc pc = .ok (.goto off, 3)) (ht : (pc : Int) + off = (tgt : Int)) (k : ZG X own cc nL d mc ms kc ks tgt L st σ I) : ZG X own cc nL d mc ms kc ks pc L st σ I := by
  obtain ⟨p, l, e, R, s, m, args, below, meth, c, Q, cy, D, b⟩ := X
  intro hX H locs ls hH hz hS hl
  exact lv_goto hX.1 hX.2.1 hd ht (k hX H locs ls hH hz hS hl)
theorem z_ifnull {a : Nat} {off : Int} (hd : decode cc pc = .ok (.ifnull off, 3)) (k : ZG X own cc nL d mc ms kc ks (pc + 3) L st σ I) : ZG X own cc nL d mc ms kc ks pc L (.ref a :: st) σ I := by
  obtain ⟨p, l, e, R, s, m, args, below, meth, c, Q, cy, D, b⟩ := X
  intro hX H locs ls hH hz hS hl
  exact lv_ifnull hX.1 hX.2.1 hd (k hX H locs ls hH hz hS hl)
theorem z_ifnullN {off : Int} {tgt : Nat} (hd : decode cc pc = .ok (.ifnull off, 3)) (ht : (pc : Int) + off = (tgt : Int)) (k : ZG X own cc nL d mc ms kc ks tgt L st σ I) : ZG X own cc nL d mc ms kc ks pc L (.null :: st) σ I := by
  obtain ⟨p, l, e, R, s, m, args, below, meth, c, Q, cy, D, b⟩ := X
  intro hX H locs ls hH hz hS hl
  exact lv_ifnullN hX.1 hX.2.1 hd ht (k hX H locs ls hH hz hS hl)
theorem z_ifnonnull {a : Nat} {off : Int} {tgt : Nat} (hd : decode cc pc = .ok (.ifnonnull off, 3)) (ht : (pc : Int) + off = (tgt : Int)) (k : ZG X own cc nL d mc ms kc ks tgt L st σ I) : ZG X own cc nL d mc ms kc ks pc L (.ref a :: st) σ I := by
  obtain ⟨p, l, e, R, s, m, args, below, meth, c, Q, cy, D, b⟩ := X
  intro hX H locs ls hH hz hS hl
  exact lv_ifnonnull hX.1 hX.2.1 hd ht (k hX H locs ls hH hz hS hl)
theorem z_ifnonnullN {off : Int} (hd : decode cc pc = .ok (.ifnonnull off, 3)) (k : ZG X own cc nL d mc ms kc ks (pc + 3) L st σ I) : ZG X own cc nL d mc ms kc ks pc L (.null :: st) σ I := by
  obtain ⟨p, l, e, R, s, m, args, below, meth, c, Q, cy, D, b⟩ := X
  intro hX H locs ls hH hz hS hl
  exact lv_ifnonnullN hX.1 hX.2.1 hd (k hX H locs ls hH hz hS hl)
theorem z_tableIn {dflt lo hi : Int} {offs : Array Int} {len : Nat} {x : Int32} {off : Int} {tgt : Nat} (hd : decode cc pc = .ok (.tableswitch dflt lo hi offs, len)) (h1 : ¬ x.toInt < lo) (h2 : ¬ hi < x.toInt) (ho : offs[(x.toInt - lo).toNat]? = some off) (ht : (pc : Int) + off = (tgt : Int))
    (k : ZG X own cc nL d mc ms kc ks tgt L st σ I) : ZG X own cc nL d mc ms kc ks pc L (.int x :: st) σ I := by
  obtain ⟨p, l, e, R, s, m, args, below, meth, c, Q, cy, D, b⟩ := X
  intro hX H locs ls hH hz hS hl
  exact lv_tableIn hX.1 hX.2.1 hd h1 h2 ho ht (k hX H locs ls hH hz hS hl)
theorem z_tableOut {dflt lo hi : Int} {offs : Array Int} {len : Nat} {x : Int32} {tgt : Nat} (hd : decode cc pc = .ok (.tableswitch dflt lo hi offs, len)) (h : x.toInt < lo ∨ hi < x.toInt) (ht : (pc : Int) + dflt = (tgt : Int))
    (k : ZG X own cc nL d mc ms kc ks tgt L st σ I) : ZG X own cc nL d mc ms kc ks pc L (.int x :: st) σ I := by
  obtain ⟨p, l, e, R, s, m, args, below, meth, c, Q, cy, D, b⟩ := X
  intro hX H locs ls hH hz hS hl
  exact lv_tableOut hX.1 hX.2.1 hd h ht (k hX H locs ls hH hz hS hl)
theorem z_iload_n {j : Fin 4} {x : Int32} (hd : decode cc pc = .ok (.iload_n j, 1)) (hk : L[(j : Nat)]? = some (.int x)) (k : ZG X own cc nL d mc ms kc ks (pc + 1) L (.int x :: st) σ I) : ZG X own cc nL d mc ms kc ks pc L st σ I := by
  obtain ⟨p, l, e, R, s, m, args, below, meth, c, Q, cy, D, b⟩ := X
  intro hX H locs ls hH hz hS hl
  exact lv_iload_n hX.1 hX.2.1 hd rfl (zlv_at hl hk rfl) (k hX H locs ls hH hz hS hl)
theorem z_iload {j : Nat} {x : Int32} (hd : decode cc pc = .ok (.iload j, 2)) (hk : L[j]? = some (.int x)) (k : ZG X own cc nL d mc ms kc ks (pc + 2) L (.int x :: st) σ I) : ZG X own cc nL d mc ms kc ks pc L st σ I := by
  obtain ⟨p, l, e, R, s, m, args, below, meth, c, Q, cy, D, b⟩ := X
  intro hX H locs ls hH hz hS hl
  exact lv_iload hX.1 hX.2.1 hd (zlv_at hl hk rfl) (k hX H locs ls hH hz hS hl)
theorem z_lload_n {j : Fin 4} {x : Int64} (hd : decode cc pc = .ok (.lload_n j, 1)) (hk : L[(j : Nat)]? = some (.long x)) (k : ZG X own cc nL d mc ms kc ks (pc + 1) L (.long x :: st) σ I) : ZG X own cc nL d mc ms kc ks pc L st σ I := by
  obtain ⟨p, l, e, R, s, m, args, below, meth, c, Q, cy, D, b⟩ := X
  intro hX H locs ls hH hz hS hl
  exact lv_lload_n hX.1 hX.2.1 hd rfl (zlv_at hl hk rfl) (k hX H locs ls hH hz hS hl)
theorem z_lload {j : Nat} {x : Int64} (hd : decode cc pc = .ok (.lload j, 2)) (hk : L[j]? = some (.long x)) (k : ZG X own cc nL d mc ms kc ks (pc + 2) L (.long x :: st) σ I) : ZG X own cc nL d mc ms kc ks pc L st σ I := by
  obtain ⟨p, l, e, R, s, m, args, below, meth, c, Q, cy, D, b⟩ := X
  intro hX H locs ls hH hz hS hl
  exact lv_lload hX.1 hX.2.1 hd (zlv_at hl hk rfl) (k hX H locs ls hH hz hS hl)
theorem z_dload_n {j : Fin 4} {x : UInt64} (hd : decode cc pc = .ok (.dload_n j, 1)) (hk : L[(j : Nat)]? = some (.double x)) (k : ZG X own cc nL d mc ms kc ks (pc + 1) L (.double x :: st) σ I) : ZG X own cc nL d mc ms kc ks pc L st σ I := by
  obtain ⟨p, l, e, R, s, m, args, below, meth, c, Q, cy, D, b⟩ := X
  intro hX H locs ls hH hz hS hl
  exact lv_dload_n hX.1 hX.2.1 hd rfl (zlv_at hl hk rfl) (k hX H locs ls hH hz hS hl)
theorem z_dload {j : Nat} {x : UInt64} (hd : decode cc pc = .ok (.dload j, 2)) (hk : L[j]? = some (.double x)) (k : ZG X own cc nL d mc ms kc ks (pc + 2) L (.double x :: st) σ I) : ZG X own cc nL d mc ms kc ks pc L st σ I := by
  obtain ⟨p, l, e, R, s, m, args, below, meth, c, Q, cy, D, b⟩ := X
  intro hX H locs ls hH hz hS hl
  exact lv_dload hX.1 hX.2.1 hd (zlv_at hl hk rfl) (k hX H locs ls hH hz hS hl)
theorem z_aload_n {j : Fin 4} {x : Nat} (hd : decode cc pc = .ok (.aload_n j, 1)) (hk : L[(j : Nat)]? = some (.ref x)) (k : ZG X own cc nL d mc ms kc ks (pc + 1) L (.ref x :: st) σ I) : ZG X own cc nL d mc ms kc ks pc L st σ I := by
  obtain ⟨p, l, e, R, s, m, args, below, meth, c, Q, cy, D, b⟩ := X
  intro hX H locs ls hH hz hS hl
  exact lv_aload_n hX.1 hX.2.1 hd rfl (zlv_at hl hk rfl) (k hX H locs ls hH hz hS hl)
theorem z_aload {j : Nat} {x : Nat} (hd : decode cc pc = .ok (.aload j, 2)) (hk : L[j]? = some (.ref x)) (k : ZG X own cc nL d mc ms kc ks (pc + 2) L (.ref x :: st) σ I) : ZG X own cc nL d mc ms kc ks pc L st σ I := by
  obtain ⟨p, l, e, R, s, m, args, below, meth, c, Q, cy, D, b⟩ := X
  intro hX H locs ls hH hz hS hl
  exact lv_aload hX.1 hX.2.1 hd (zlv_at hl hk rfl) (k hX H locs ls hH hz hS hl)
theorem z_aload_nN {j : Fin 4} (hd : decode cc pc = .ok (.aload_n j, 1)) (hk : L[(j : Nat)]? = some .null) (k : ZG X own cc nL d mc ms kc ks (pc + 1) L (.null :: st) σ I) : ZG X own cc nL d mc ms kc ks pc L st σ I := by
  obtain ⟨p, l, e, R, s, m, args, below, meth, c, Q, cy, D, b⟩ := X
  intro hX H locs ls hH hz hS hl
  exact lv_aload_nN hX.1 hX.2.1 hd rfl (zlv_at hl hk rfl) (k hX H locs ls hH hz hS hl)
theorem z_aloadN {j : Nat} (hd : decode cc pc = .ok (.aload j, 2)) (hk : L[j]? = some .null) (k : ZG X own cc nL d mc ms kc ks (pc + 2) L (.null :: st) σ I) : ZG X own cc nL d mc ms kc ks pc L st σ I := by
  obtain ⟨p, l, e, R, s, m, args, below, meth, c, Q, cy, D, b⟩ := X
  intro hX H locs ls hH hz hS hl
  exact lv_aloadN hX.1 hX.2.1 hd (zlv_at hl hk rfl) (k hX H locs ls hH hz hS hl)
theorem z_istore_n {j : Fin 4} {x : Int32} (hd : decode cc pc = .ok (.istore_n j, 1)) (hj : (j : Nat) < nL) (hg : ∀ i u, L[i]? = some u → i + 1 = (j : Nat) → u.category = 1) (k : ZG X own cc nL d mc ms kc ks (pc + 1) (L.set j (.int x)) st σ I) : ZG X own cc nL d mc ms kc ks pc L (.int x :: st) σ I := by
  obtain ⟨p, l, e, R, s, m, args, below, meth, c, Q, cy, D, b⟩ := X
  intro hX H locs ls hH hz hS hl
  exact lv_istore_n hX.1 hX.2.1 hd rfl hl hj rfl (fun ls' hl' => k hX H locs ls' hH hz hS (zlv_st1 (v := .int x) hg hl'))
theorem z_istore {j : Nat} {x : Int32} (hd : decode cc pc = .ok (.istore j, 2)) (hj : j < nL) (hg : ∀ i u, L[i]? = some u → i + 1 = j → u.category = 1) (k : ZG X own cc nL d mc ms kc ks (pc + 2) (L.set j (.int x)) st σ I) : ZG X own cc nL d mc ms kc ks pc L (.int x :: st) σ I := by
  obtain ⟨p, l, e, R, s, m, args, below, meth, c, Q, cy, D, b⟩ := X
  intro hX H locs ls hH hz hS hl
  exact lv_istore hX.1 hX.2.1 hd hl hj rfl (fun ls' hl' => k hX H locs ls' hH hz hS (zlv_st1 (v := .int x) hg hl'))
theorem z_astore_n {j : Fin 4} {x : Nat} (hd : decode cc pc = .ok (.astore_n j, 1)) (hj : (j : Nat) < nL) (hg : ∀ i u, L[i]? = some u → i + 1 = (j : Nat) → u.category = 1) (k : ZG X own cc nL d mc ms kc ks (pc + 1) (L.set j (.ref x)) st σ I) : ZG X own cc nL d mc ms kc ks pc L (.ref x :: st) σ I := by
  obtain ⟨p, l, e, R, s, m, args, below, meth, c, Q, cy, D, b⟩ := X
  intro hX H locs ls hH hz hS hl
  exact lv_astore_n hX.1 hX.2.1 hd rfl hl hj rfl (fun ls' hl' => k hX H locs ls' hH hz hS (zlv_st1 (v := .ref x) hg hl'))
theorem z_astore {j : Nat} {x : Nat} (hd : decode cc pc = .ok (.astore j, 2)) (hj : j < nL) (hg : ∀ i u, L[i]? = some u → i + 1 = j → u.category = 1) (k : ZG X own cc nL d mc ms kc ks (pc + 2) (L.set j (.ref x)) st σ I) : ZG X own cc nL d mc ms kc ks pc L (.ref x :: st) σ I := by
  obtain ⟨p, l, e, R, s, m, args, below, meth, c, Q, cy, D, b⟩ := X
  intro hX H locs ls hH hz hS hl
  exact lv_astore hX.1 hX.2.1 hd hl hj rfl (fun ls' hl' => k hX H locs ls' hH hz hS (zlv_st1 (v := .ref x) hg hl'))
theorem z_astore_nN {j : Fin 4} (hd : decode cc pc = .ok (.astore_n j, 1)) (hj : (j : Nat) < nL) (hg : ∀ i u, L[i]? = some u → i + 1 = (j : Nat) → u.category = 1) (k : ZG X own cc nL d mc ms kc ks (pc + 1) (L.set j .null) st σ I) : ZG X own cc nL d mc ms kc ks pc L (.null :: st) σ I := by
  obtain ⟨p, l, e, R, s, m, args, below, meth, c, Q, cy, D, b⟩ := X
  intro hX H locs ls hH hz hS hl
  exact lv_astore_nN hX.1 hX.2.1 hd rfl hl hj rfl (fun ls' hl' => k hX H locs ls' hH hz hS (zlv_st1 (v := .null) hg hl'))
theorem z_astoreN {j : Nat} (hd : decode cc pc = .ok (.astore j, 2)) (hj : j < nL) (hg : ∀ i u, L[i]? = some u → i + 1 = j → u.category = 1) (k : ZG X own cc nL d mc ms kc ks (pc + 2) (L.set j .null) st σ I) : ZG X own cc nL d mc ms kc ks pc L (.null :: st) σ I := by
  obtain ⟨p, l, e, R, s, m, args, below, meth, c, Q, cy, D, b⟩ := X
  intro hX H locs ls hH hz hS hl
  exact lv_astoreN hX.1 hX.2.1 hd hl hj rfl (fun ls' hl' => k hX H locs ls' hH hz hS (zlv_st1 (v := .null) hg hl'))
theorem z_lstore_n {j : Fin 4} {x : Int64} (hd : decode cc pc = .ok (.lstore_n j, 1)) (hj : (j : Nat) + 1 < nL) (hg : ∀ i u, L[i]? = some u → i + 1 = (j : Nat) → u.category = 1) (k : ZG X own cc nL d mc ms kc ks (pc + 1) ((L.set j (.long x)).set (j + 1) zj) st σ I) : ZG X own cc nL d mc ms kc ks pc L (.long x :: st) σ I := by
  obtain ⟨p, l, e, R, s, m, args, below, meth, c, Q, cy, D, b⟩ := X
  intro hX H locs ls hH hz hS hl
  exact lv_lstore_n hX.1 hX.2.1 hd rfl hl hj rfl (fun ls' hl' => k hX H locs ls' hH hz hS (zlv_st2 (v := .long x) hg hl'))
theorem z_lstore {j : Nat} {x : Int64} (hd : decode cc pc = .ok (.lstore j, 2)) (hj : j + 1 < nL) (hg : ∀ i u, L[i]? = some u → i + 1 = j → u.category = 1) (k : ZG X own cc nL d mc ms kc ks (pc + 2) ((L.set j (.long x)).set (j + 1) zj) st σ I) : ZG X own cc nL d mc ms kc ks pc L (.long x :: st) σ I := by
  obtain ⟨p, l, e, R, s, m, args, below, meth, c, Q, cy, D, b⟩ := X
  intro hX H locs ls hH hz hS hl
  exact lv_lstore hX.1 hX.2.1 hd hl hj rfl (fun ls' hl' => k hX H locs ls' hH hz hS (zlv_st2 (v := .long x) hg hl'))
theorem z_dstore_n {j : Fin 4} {x : UInt64} (hd : decode cc pc = .ok (.dstore_n j, 1)) (hj : (j : Nat) + 1 < nL) (hg : ∀ i u, L[i]? = some u → i + 1 = (j : Nat) → u.category = 1) (k : ZG X own cc nL d mc ms kc ks (pc + 1) ((L.set j (.double x)).set (j + 1) zj) st σ I) : ZG X own cc nL d mc ms kc ks pc L (.double x :: st) σ I := by
  obtain ⟨p, l, e, R, s, m, args, below, meth, c, Q, cy, D, b⟩ := X
  intro hX H locs ls hH hz hS hl
  exact lv_dstore_n hX.1 hX.2.1 hd rfl hl hj rfl (fun ls' hl' => k hX H locs ls' hH hz hS (zlv_st2 (v := .double x) hg hl'))
theorem z_dstore {j : Nat} {x : UInt64} (hd : decode cc pc = .ok (.dstore j, 2)) (hj : j + 1 < nL) (hg : ∀ i u, L[i]? = some u → i + 1 = j → u.category = 1) (k : ZG X own cc nL d mc ms kc ks (pc + 2) ((L.set j (.double x)).set (j + 1) zj) st σ I) : ZG X own cc nL d mc ms kc ks pc L (.double x :: st) σ I := by
  obtain ⟨p, l, e, R, s, m, args, below, meth, c, Q, cy, D, b⟩ := X
  intro hX H locs ls hH hz hS hl
  exact lv_dstore hX.1 hX.2.1 hd hl hj rfl (fun ls' hl' => k hX H locs ls' hH hz hS (zlv_st2 (v := .double x) hg hl'))
theorem z_iinc {j : Nat} {n : Int} {x v : Int32} (hd : decode cc pc = .ok (.iinc j n, 3)) (hk : L[j]? = some (.int x)) (hv : x + Int32.ofInt n = v) (hj : j < nL) (hg : ∀ i u, L[i]? = some u → i + 1 = j → u.category = 1) (k : ZG X own cc nL d mc ms kc ks (pc + 3) (L.set j (.int v)) st σ I) : ZG X own cc nL d mc ms kc ks pc L st σ I := by
  obtain ⟨p, l, e, R, s, m, args, below, meth, c, Q, cy, D, b⟩ := X
  intro hX H locs ls hH hz hS hl
  obtain ⟨i, hi⟩ : ∃ i, (zlv b 0 L)[i]? = some (j, Value.int x) := List.getElem?_of_mem (zlv_mem.mpr ⟨j, .int x, hk, rfl, by rw [Nat.zero_add]; rfl⟩)
  exact lv_iinc hX.1 hX.2.1 hd hl hi hv hj rfl (fun ls' hl' => k hX H locs ls' hH hz hS (zlv_st1 (v := .int v) hg hl'))
end ZR

