/-! ===== the law from its entry ===== -/
theorem l_ZT {s : State} {A : Array Value} (hts : ∀ w ∈ lw_tbl, w.before A s = true) : ∃ (cy : Nat → ClassId) (D : va_G), ZT cy D s := by
  have htz : ∀ w ∈ ZW, w.before A s = true := fun w hw => hts w (List.mem_filter.mp hw).1
  have hk : ∀ ci : Nat, ∃ z : ClassId × (Nat → Nat), ∀ q, vwCl[ci]? = some q → u_Kn s q.1 q.2.1 q.2.2 z.1 z.2 := by
    intro ci
    cases hq : vwCl[ci]? with
    | none => exact ⟨(0, fun _ => 0), fun q h => by cases h⟩
    | some q0 =>
      obtain ⟨C, T, N, ty, e1, e2, e3, e4, e5, e6, -, -⟩ := zcl_all hq
      cases hq.symm.trans e1
      obtain ⟨cC, iS, hKn⟩ := u_known (n := N) htz e2 (htz _ e5)
      exact ⟨(cC, iS), fun q h => by cases h; exact hKn⟩
  have a4 : va_AO RX4 s := va_AO.of (hts _ (z_tab1 (i := 156) (by decide +kernel)))
  have a8 : va_AO RX8 s := va_AO.of (hts _ (z_tab1 (i := 111) (by decide +kernel)))
  obtain ⟨c0, k0, m0, g1, g2, g3⟩ := Cond.arrayClass_spec (hts _ zac)
  obtain ⟨m1, c1, k1, f1, f2, f3, f4, f5⟩ := Cond.arrayOver_spec a4
  obtain ⟨m2, c2, k2, e1, e2, e3, e4, e5⟩ := Cond.arrayOver_spec a8
  refine ⟨fun k => if k = 0 then c0 else if k = 1 then c1 else c2, (fun ci => (Classical.choose (hk ci)).1, fun ci => (Classical.choose (hk ci)).2), ⟨fun ci q hq => Classical.choose_spec (hk ci) q hq, fun k q hq => ?_⟩, fun w hw hn => ?_, a4, a8⟩
  · match k, hq with
    | 0, hq =>
      cases hq
      exact ⟨fun n z => ⟨fun k h => (by cases h), k0, g2, m0, g3⟩, g1⟩
    | 1, hq =>
      cases hq
      exact ⟨fun n z => ⟨fun k h => (by cases h), k1, f3, m1, f4⟩, k1, m1, f3, f4, f1, f5⟩
    | 2, hq =>
      cases hq
      exact ⟨fun n z => ⟨fun k h => (by cases h), k2, e3, m2, e4⟩, k2, m2, e3, e4, e1, e5⟩
    | n + 3, hq => cases hq
  · cases w <;> first | (cases hn; done) | exact va_Nw.of rfl (hts _ hw)
theorem whole_start {p : Program} {e : Env} {s : State} {m : MethodId} {below : List Frame} {meth : Method} {c : Code} (l : Launch) (hflags : l.flags = flags0) {b L : Nat} {xs : Nat → Int32} (hL : L ≤ 260) (C0 : lw_At p s m meth c b L xs) : W p l e room_1 s m #[Value.ref b] below meth c s.heap [] 0 0 (lw_Z below #[Value.ref b] s) (entryFrame m ([Value.ref b] : List Value).toArray 9) := by
  obtain ⟨hx, hb, hr, hml, hown, hts, hX, hbl, hlocks, hgv⟩ := C0
  obtain ⟨cy, D, hZ⟩ := l_ZT hts
  have hl := lv_entry ([.ref b]) (n := 9) (Nat.le_of_ble_eq_true rfl)
  rw [lg_entry_eq]
  generalize (lg_sl ([.ref b]) ++ List.replicate (9 - (lg_sl ([.ref b])).length) Slot.unset).toArray = ls at hl ⊢
  have hl : lv_has ls 9 [(0, .ref b)] := hl
  have fin : ∀ (pc : Nat), decode code pc = .ok (.ireturn, 1) → ∀ (L2 : List Value) (J : ZI), YG b (p, l, e, room_1, s, m, #[Value.ref b], below, meth, c, lw_Z below #[Value.ref b] s, cy, D, s.heap.size) RL code 9 11 600000 7302250 259 8016 pc L2 [.int 1] Sg J := by
    intro pc hd L2 J hX' H locs ls hH hz hS hl h0
    refine va_forget (fun q hq => hS.2.2 q hq) ?_
    refine W.widen (k := 600000) (n := 7302250) (Nat.le_of_ble_eq_true rfl) (Nat.le_of_ble_eq_true rfl) ?_
    refine W.base ?_
    exact lw_ret (Drawn.sameBut.refl s.drawn lw_cs) hx hb hr hlocks hd
  have hY : YS b L xs (p, l, e, room_1, s, m, #[Value.ref b], below, meth, c, lw_Z below #[Value.ref b] s, cy, D, s.heap.size) := ⟨hX, hbl, Nat.not_le.mpr hbl⟩
  have hZK : ZOK (p, l, e, room_1, s, m, #[Value.ref b], below, meth, c, lw_Z below #[Value.ref b] s, cy, D, s.heap.size) RL code 9 11 600000 7302250 := ⟨hx, hb, hml, hown, fun w hw => hts w (List.mem_filter.mp hw).1, hZ, Nat.le_refl _, hlocks, Nat.le_of_ble_eq_true rfl, Nat.le_of_ble_eq_true rfl, Nat.le_refl _, Nat.le_refl _⟩
  refine w_start hY hL fin hZK s.heap [] ls ⟨rfl, fun k q h => ?_⟩ rfl va_S.rf ⟨hl.1, hl.2.1, fun q hq => ?_⟩ (hl.2.2 (0, .ref b) List.mem_cons_self)
  · have h : ([] : va_W)[k]? = some q := h
    cases h
  · have hq : q ∈ ([] : List (Nat × Value)) := hq
    cases hq
