/-! ===== the law's cell: a number of the script ===== -/
def cellF (xs : Nat → Int32) (Ls k : Nat) : Int32 := if k < Ls then xs k else 763049417 * (nI k + 3)
theorem c_body {bs Ls k : Nat} {xs : Nat → Int32} {X : ZX} {σ : List ZC} {I : ZI} (hY : YS bs Ls xs X) (hL : Ls ≤ 260) (hk : k < 1000) (hE : ZEnd X (some .int) 0 0 (fun r σ' I' => r = some (.int (cellF xs Ls k)) ∧ σ' = σ ∧ I' = I)) : YG bs X RL cL_cell 2 0 0 0 0 0 0 [zj, .int (nI k)] [] σ I := by
  refine y_iload_n dL_cell_0 rfl ?_
  refine y_len hY dL_cell_1 dL_cell_2 ?_
  refine y_icmp_ge (tgt := 12) dL_cell_3 (by decide) (fun hb => ?_) (fun hb => ?_)
  · have h1 : Ls ≤ k := (nI_leI (by omega) (by omega)).mp hb
    refine y_ldc kRL_7 dL_cell_12 ?_
    refine y_iload_n dL_cell_14 rfl ?_
    refine y_iconst (v := 3) dL_cell_15 rfl ?_
    refine y_iadd dL_cell_16 ?_
    refine y_imul dL_cell_17 ?_
    refine y_iret hE dL_cell_18 ⟨?_, rfl, rfl⟩
    rw [cellF, if_neg (by omega)]
  · have h1 : k < Ls := by
      rcases Nat.lt_or_ge k Ls with q | q
      · exact q
      · exact absurd ((nI_leI (by omega) (by omega)).mpr q) hb
    refine y_argn hY dL_cell_6 dL_cell_7 dL_cell_8 rfl h1 (by omega) ?_
    refine y_goto (tgt := 18) dL_cell_9 (by decide) ?_
    refine y_iret hE dL_cell_18 ⟨?_, rfl, rfl⟩
    rw [cellF, if_pos h1]
theorem l_cell {bs Ls k : Nat} {xs : Nat → Int32} (hL : Ls ≤ 260) (hk : k < 1000) (l : Launch) (cy : Nat → ClassId) (D : va_G) (b : Nat) (hb : bs < b) (σ : List ZC) (I : ZI) :
    Met l yL_cell (zws yL_cell cL_cell 2 (some .int)) ({ frames := 0, cells := 0, slots := 0, locals := 40 * 0 }) (va_Pc [.ref bs, .int (nI k)] (fun U => va_X bs Ls xs U U.heap ∧ ZH cy D b σ I U.heap ∧ ZT cy D U)) (ZQ cy D b (fun r σ' I' => r = some (.int (cellF xs Ls k)) ∧ σ' = σ ∧ I' = I)) 0 0 (ZA b) := by
  refine Met.ofW (cc := cL_cell) (maxL := 2) (ret := some .int) mL_cell.2.1.1 rfl ?_
  intro p e s m ar below meth c s₁ B hml hv
  obtain ⟨rfl, hX, hH, hT⟩ := hv
  have hl := lv_entry ([.ref bs, .int (nI k)]) (n := 2) (Nat.le_of_ble_eq_true rfl)
  rw [lg_entry_eq]
  generalize (lg_sl ([.ref bs, .int (nI k)]) ++ List.replicate (2 - (lg_sl ([.ref bs, .int (nI k)])).length) Slot.unset).toArray = ls at hl ⊢
  have hl : lv_has ls 2 [(0, .ref bs), (1, .int (nI k))] := hl
  have hts : ∀ w ∈ ZW, w.before ([.ref bs, .int (nI k)] : List Value).toArray s = true := fun w hw => atoms_spec (ws := zws yL_cell cL_cell 2 (some .int)) B.pre w (List.mem_cons_of_mem _ hw)
  have hown : s.vm.findClass RL = some m.cls := findClass_of_methodNamed B.named
  have hbl : bs < s.heap.size := by
    obtain ⟨scr, h1, -⟩ := hX
    exact (Array.getElem?_eq_some_iff.mp h1).1
  exact c_body (X := (p, l, e, (headSpec (zws yL_cell cL_cell 2 (some .int)) ({ frames := 0, cells := 0, slots := 0, locals := 40 * 0 })).room, s, m, ([.ref bs, .int (nI k)] : List Value).toArray, below, meth, c, MQ below (ZQ cy D b (fun r σ' I' => r = some (.int (cellF xs Ls k)) ∧ σ' = σ ∧ I' = I)) ([.ref bs, .int (nI k)] : List Value).toArray s 0 0 (ZA b), cy, D, b)) ⟨hX, hbl, Nat.not_le.mpr hb⟩ hL hk ⟨B.returns, rfl⟩
    ⟨B.exec, B.bytes, hml, hown, hts, hT, by have := hH.1; omega, B.notSynchronized, Nat.le_refl _, Nat.le_refl _, Nat.le_refl _, Nat.le_refl _⟩ s.heap [] ls hH (by have := hH.1; omega) va_S.rf ⟨hl.1, hl.2.1, fun q hq => hl.2.2 q (List.mem_cons_of_mem _ hq)⟩ (hl.2.2 (0, .ref bs) List.mem_cons_self)
theorem c_blind {bs Ls : Nat} {xs : Nat → Int32} {cy : Nat → ClassId} {D : va_G} {b : Nat} {As : List Value} {σ : List ZC} {I : ZI} : FrameBlind (va_Pc As (fun U => va_X bs Ls xs U U.heap ∧ ZH cy D b σ I U.heap ∧ ZT cy D U)) := fun a U g mk q => ⟨q.1, va_X.moved (Vm.Alike.refl U.vm) q.2.1, q.2.2.1, ZT.same (s := U) (U := U.calling g mk a) rfl q.2.2.2⟩
section YC
variable {bs : Nat} {X : ZX} {own : String} {cc : ByteArray} {nL d mc ms kc ks pc : Nat} {L st : List Value} {σ : List ZC} {I : ZI}
/-- a number of the script, its place a constant -/
theorem y_cell {Ls k idx len : Nat} {xs : Nat → Int32} (hY : YS bs Ls xs X) (hL : Ls ≤ 260) (hk : k < 1000) (hd0 : decode cc pc = .ok (.aload_n 0, 1))
    (hp : ∀ (p : Program) (l : Launch) (e : Env) (R : Room) (s : State) (m : MethodId) (args : Array Value) (below : List Frame) (meth : Method) (c : Code) (Q : State → Prop) (b : Nat) (H : Heap) (locs : List Loc) (ls : Array Slot) (rest : List Value), p.tables.exec = Jvm.exec → c.code = cc → lv_has ls nL (zlv b 0 L) → W p l e R s m args below meth c H locs kc ks Q (F0 m (pc + 1 + len) ls (.int (nI k) :: rest)) → W p l e R s m args below meth c H locs kc ks Q (F0 m (pc + 1) ls rest))
    (hd : decode cc (pc + 1 + len) = .ok (.invokestatic idx, 3)) (hV : ZS own idx yL_cell) (hd1 : 1 ≤ d) (hst : (st.map fun v => v.category).sum ≤ 8) (h1 : kc ≤ mc) (h2 : ks ≤ ms)
    (kk : YG bs X own cc nL d mc ms kc ks (pc + 1 + len + 3) L (.int (cellF xs Ls k) :: st) σ I) : YG bs X own cc nL d mc ms kc ks pc L st σ I := by
  obtain ⟨p, l, e, R, s, m, args, below, meth, c, Q, cy, D, b⟩ := X
  intro hX H locs ls hH hz hS hl h0
  have hf := hX.2.2.2.2.2.2.2.2.1
  have hlc := hX.2.2.2.2.2.2.2.2.2.1
  have hb : bs < b := Nat.not_le.mp hY.2.2
  have hM := mL_cell
  refine lv_aload_n hX.1 hX.2.1 hd0 rfl h0 ?_
  refine hp _ _ _ _ _ _ _ _ _ _ _ b _ _ _ _ hX.1 hX.2.1 hl ?_
  refine z_after (kc := kc) (ks := ks) (mc2 := 0) (ms2 := 0) (rest := st.map (zren b)) (va_runS (As := [.ref bs, .int (nI k)]) ⟨hX.1, hX.2.1, hX.2.2.1, hX.2.2.2.1, hX.2.2.2.2.1⟩ (l_cell (xs := xs) hL hk l cy D b hb σ I) ⟨callB_of 2 hX.2.2.2.2.1 (z_good hM.1) rfl rfl rfl (hX.2.2.2.2.1 _ (zw_in hM.2.1.2 rfl)) (hX.2.2.2.2.1 _ (zw_in hV.1 rfl)) ⟨hM.2.2.2.1, hM.2.2.2.2.1, hM.2.2.2.2.2⟩ ⟨by show 0 + 1 ≤ R.frames; omega, by show 8 + (2 + 11) + 40 * 0 ≤ R.locals; omega⟩, hX.2.2.2.2.1 _ (zw_in hV.2 rfl)⟩
    ⟨c_blind, fun U hU hW => ⟨rfl, by rw [hU]; exact (hY.1.kept (hS.2.1 bs hY.2.1 hY.2.2)).moved hW.alike, by rw [hU]; exact hH, hX.2.2.2.2.2.1.warm hW⟩⟩ rfl rfl hl.1 rfl (lv_room (z_cats b st hst)) hd ⟨Nat.le_trans h1 hX.2.2.2.2.2.2.2.2.2.2.1, Nat.le_trans h2 hX.2.2.2.2.2.2.2.2.2.2.2⟩) hS (fun r σ' I' H1 locs1 hQ hH1 hS1 => ?_)
  obtain ⟨rfl, rfl, rfl⟩ := hQ
  exact kk hX H1 locs1 ls hH1 hz hS1 hl h0
theorem y_cellK {Ls k idx : Nat} {n : Int} {xs : Nat → Int32} (hY : YS bs Ls xs X) (hL : Ls ≤ 260) (hk : k < 1000) (hd0 : decode cc pc = .ok (.aload_n 0, 1)) (hdk : decode cc (pc + 1) = .ok (.iconst n, 1)) (hn : Int32.ofInt n = nI k)
    (hd : decode cc (pc + 2) = .ok (.invokestatic idx, 3)) (hV : ZS own idx yL_cell) (hd1 : 1 ≤ d) (hst : (st.map fun v => v.category).sum ≤ 8) (h1 : kc ≤ mc) (h2 : ks ≤ ms)
    (kk : YG bs X own cc nL d mc ms kc ks (pc + 5) L (.int (cellF xs Ls k) :: st) σ I) : YG bs X own cc nL d mc ms kc ks pc L st σ I :=
  y_cell (len := 1) hY hL hk hd0 (fun p l e R s m args below meth c Q b H locs ls rest g1 g2 _ q => lv_iconst g1 g2 hdk hn q) hd hV hd1 hst h1 h2 kk
theorem y_cellB {Ls k idx : Nat} {n : Int} {xs : Nat → Int32} (hY : YS bs Ls xs X) (hL : Ls ≤ 260) (hk : k < 1000) (hd0 : decode cc pc = .ok (.aload_n 0, 1)) (hdk : decode cc (pc + 1) = .ok (.bipush n, 2)) (hn : (Int8.ofInt n).toInt32 = nI k)
    (hd : decode cc (pc + 3) = .ok (.invokestatic idx, 3)) (hV : ZS own idx yL_cell) (hd1 : 1 ≤ d) (hst : (st.map fun v => v.category).sum ≤ 8) (h1 : kc ≤ mc) (h2 : ks ≤ ms)
    (kk : YG bs X own cc nL d mc ms kc ks (pc + 6) L (.int (cellF xs Ls k) :: st) σ I) : YG bs X own cc nL d mc ms kc ks pc L st σ I :=
  y_cell (len := 2) hY hL hk hd0 (fun p l e R s m args below meth c Q b H locs ls rest g1 g2 _ q => lv_bipush g1 g2 hdk hn q) hd hV hd1 hst h1 h2 kk
/-- its place a constant and a local's number -/
theorem y_cellC {Ls k0 k1 idx : Nat} {j : Fin 4} {n : Int} {xs : Nat → Int32} (hY : YS bs Ls xs X) (hL : Ls ≤ 260) (hk : k0 + k1 < 1000) (hd0 : decode cc pc = .ok (.aload_n 0, 1)) (hdk : decode cc (pc + 1) = .ok (.iconst n, 1)) (hn : Int32.ofInt n = nI k0)
    (hdl : decode cc (pc + 2) = .ok (.iload_n j, 1)) (hj : L[(j : Nat)]? = some (.int (nI k1))) (hda : decode cc (pc + 3) = .ok (.iadd, 1)) (hd : decode cc (pc + 4) = .ok (.invokestatic idx, 3)) (hV : ZS own idx yL_cell) (hd1 : 1 ≤ d) (hst : (st.map fun v => v.category).sum ≤ 8) (h1 : kc ≤ mc) (h2 : ks ≤ ms)
    (kk : YG bs X own cc nL d mc ms kc ks (pc + 7) L (.int (cellF xs Ls (k0 + k1)) :: st) σ I) : YG bs X own cc nL d mc ms kc ks pc L st σ I :=
  y_cell (len := 3) hY hL hk hd0 (fun p l e R s m args below meth c Q b H locs ls rest g1 g2 g3 q => by
    refine lv_iconst g1 g2 hdk hn ?_
    refine lv_iload_n g1 g2 hdl rfl (zlv_at g3 hj rfl) ?_
    refine lv_iadd g1 g2 hda ?_
    rw [nI_add]
    exact q) hd hV hd1 hst h1 h2 kk
theorem y_cellD {Ls k0 k1 idx j : Nat} {n : Int} {xs : Nat → Int32} (hY : YS bs Ls xs X) (hL : Ls ≤ 260) (hk : k0 + k1 < 1000) (hd0 : decode cc pc = .ok (.aload_n 0, 1)) (hdk : decode cc (pc + 1) = .ok (.bipush n, 2)) (hn : (Int8.ofInt n).toInt32 = nI k0)
    (hdl : decode cc (pc + 3) = .ok (.iload j, 2)) (hj : L[j]? = some (.int (nI k1))) (hda : decode cc (pc + 5) = .ok (.iadd, 1)) (hd : decode cc (pc + 6) = .ok (.invokestatic idx, 3)) (hV : ZS own idx yL_cell) (hd1 : 1 ≤ d) (hst : (st.map fun v => v.category).sum ≤ 8) (h1 : kc ≤ mc) (h2 : ks ≤ ms)
    (kk : YG bs X own cc nL d mc ms kc ks (pc + 9) L (.int (cellF xs Ls (k0 + k1)) :: st) σ I) : YG bs X own cc nL d mc ms kc ks pc L st σ I :=
  y_cell (len := 5) hY hL hk hd0 (fun p l e R s m args below meth c Q b H locs ls rest g1 g2 g3 q => by
    refine lv_bipush g1 g2 hdk hn ?_
    refine lv_iload g1 g2 hdl (zlv_at g3 hj rfl) ?_
    refine lv_iadd g1 g2 hda ?_
    rw [nI_add]
    exact q) hd hV hd1 hst h1 h2 kk
end YC

