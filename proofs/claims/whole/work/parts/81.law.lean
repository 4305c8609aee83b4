/-! ===== the law: its start, its loop ===== -/
def A0 : AS := (0, fun _ _ => 0, 0, fun _ => 0, 30, 0, fun _ => 0, fun _ _ => none)
theorem A0_av : AV A0 := ⟨⟨Nat.zero_le _, fun q hq => absurd hq (Nat.not_lt_zero q)⟩, Nat.zero_le _, by decide, by decide, Nat.zero_le _, fun t ht => absurd ht (Nat.not_lt_zero t)⟩
theorem b_init {J : ZI} (c1 : J 0 8 = 0) (c2 : J 1 3 = 0) (c3 : J 1 4 = 30) (c4 : J 2 1 = 0) (c5 : J 7 5 = 0) (c6 : J 18 1 = 0) (c7 : J 18 2 = 0) (c8 : ∀ v, v < 6 → J (139 + 20 * v) 6 = 0) (d1 : J 259 2 = 0) (d2 : J 259 16 = 0) (d3 : J 260 0 = 0) (d4 : J 260 1 = 0) (d5 : J 260 2 = 30) (d6 : J 260 3 = 0) : BI J := by
  have e30 : (30 : Int32) = nI 30 := by decide
  refine ⟨A0, 0, fun _ => A0, 0, fun _ => 0, ⟨⟨⟨c4.trans nI_0.symm, fun i hi => absurd hi (Nat.not_lt_zero i)⟩, c2.trans nI_0.symm, fun v hv => absurd hv (Nat.not_lt_zero v), c3.trans e30, c5.trans nI_0.symm, fun t ht => absurd ht (Nat.not_lt_zero t)⟩, A0_av, ⟨0, by decide, c6.trans nI_0.symm, c7.trans nI_0.symm, Nat.zero_le _, fun i hi => absurd hi (Nat.not_lt_zero i)⟩, fun v hv => Or.inl (c8 v hv), c1.trans nI_0.symm, Nat.zero_le _, fun k hk => absurd hk (Nat.not_lt_zero k)⟩, ?_⟩
  exact ⟨⟨d3.trans nI_0.symm, d4.trans nI_0.symm, d5.trans e30, d6.trans nI_0.symm, fun i hi => absurd hi (Nat.not_lt_zero i), fun v hv => absurd hv (Nat.not_lt_zero v), fun t ht => absurd ht (Nat.not_lt_zero t)⟩, A0_av, ⟨d1.trans nI_0.symm, Nat.zero_le _, fun i hi => absurd hi (Nat.not_lt_zero i)⟩, d2.trans nI_0.symm, Nat.zero_le _, fun k hk => absurd hk (Nat.not_lt_zero k)⟩
theorem l_loop {bs Ls : Nat} {xs : Nat → Int32} {X : ZX} (hY : YS bs Ls xs X) (hL : Ls ≤ 3072) (fin : ∀ (j : Nat) (J : ZI), YG bs X RL code 8 11 600000 7302250 272 11553 1104 (LL j) [] Sg J) : ∀ (n j : Nat) (I : ZI), Ls ≤ j + n → j ≤ 3078 → BI I → YG bs X RL code 8 11 600000 7302250 272 11553 18 (LL j) [] Sg I := by
  intro n
  have hd : ∀ (j : Nat) (I : ZI), j ≤ 3078 → (j + 6 ≤ Ls → YG bs X RL code 8 11 600000 7302250 272 11553 27 (LL j) [] Sg I) → YG bs X RL code 8 11 600000 7302250 272 11553 18 (LL j) [] Sg I := by
    intro j I hj k
    refine y_iload_n dL_law_18 rfl ?_
    refine y_len hY dL_law_19 dL_law_20 ?_
    refine y_bipush (v := 6) dL_law_21 rfl ?_
    refine y_isub dL_law_23 ?_
    refine y_icmp_gt (tgt := 1104) dL_law_24 (by decide) (fun _ => fin j I) (fun hb => k ?_)
    rcases Nat.lt_or_ge Ls (j + 6) with q | q
    · refine absurd ?_ hb
      rw [Int32.lt_iff_toInt_lt, show nI Ls - 6 = nI Ls - nI 6 from rfl, pk_sub_toInt (by omega) (by decide), nI_toInt (by omega)]
      omega
    · exact q
  induction n with
  | zero =>
    intro j I h1 h2 h
    exact hd j I h2 (fun q => absurd q (by omega))
  | succ n ih =>
    intro j I h1 h2 h
    refine hd j I h2 (fun hj => ?_)
    have nxt : ∀ J, BI J → YG bs X RL code 8 11 600000 7302250 272 11553 1098 (LL j) [] Sg J := by
      intro J hB
      refine y_iinc (v := nI (j + 6)) dL_law_1098 rfl (by rw [← nI_add]; rfl) (by decide) rfl (zgd (l := .ref 259) (j := 2) rfl rfl) ?_
      refine y_goto (tgt := 18) dL_law_1101 (by decide) ?_
      exact ih (j + 6) J (by omega) (by omega) hB
    refine y_arg0 hY dL_law_27 dL_law_28 dL_law_29 rfl (by omega) (by omega) ?_
    refine y_bipush (v := 31) dL_law_30 rfl ?_
    refine y_iand dL_law_32 ?_
    obtain ⟨k, hk, e⟩ := pk_andE (xs j) (m := 31) 5 rfl
    rw [e]
    clear e
    match k, hk with
    | 0, _ => exact y_tableIn (off := 139) (tgt := 172) dL_law_33 (by decide) (by decide) (by decide) (by decide) (l_case0 hY hj hL h nxt)
    | 1, _ => exact y_tableIn (off := 202) (tgt := 235) dL_law_33 (by decide) (by decide) (by decide) (by decide) (l_case1 hY hj hL h nxt)
    | 2, _ => exact y_tableIn (off := 225) (tgt := 258) dL_law_33 (by decide) (by decide) (by decide) (by decide) (l_case2 hY hj hL h nxt)
    | 3, _ => exact y_tableIn (off := 268) (tgt := 301) dL_law_33 (by decide) (by decide) (by decide) (by decide) (l_case3 hY hj hL h nxt)
    | 4, _ => exact y_tableIn (off := 301) (tgt := 334) dL_law_33 (by decide) (by decide) (by decide) (by decide) (l_case4 hY hj hL h nxt)
    | 5, _ => exact y_tableIn (off := 314) (tgt := 347) dL_law_33 (by decide) (by decide) (by decide) (by decide) (l_case5 hY hj hL h nxt)
    | 6, _ => exact y_tableIn (off := 337) (tgt := 370) dL_law_33 (by decide) (by decide) (by decide) (by decide) (l_case6 hY hj hL h nxt)
    | 7, _ => exact y_tableIn (off := 351) (tgt := 384) dL_law_33 (by decide) (by decide) (by decide) (by decide) (l_case7 hY hj hL h nxt)
    | 8, _ => exact y_tableIn (off := 364) (tgt := 397) dL_law_33 (by decide) (by decide) (by decide) (by decide) (l_case8 hY hj hL h nxt)
    | 9, _ => exact y_tableIn (off := 407) (tgt := 440) dL_law_33 (by decide) (by decide) (by decide) (by decide) (l_case9 hY hj hL h nxt)
    | 10, _ => exact y_tableIn (off := 440) (tgt := 473) dL_law_33 (by decide) (by decide) (by decide) (by decide) (l_case10 hY hj hL h nxt)
    | 11, _ => exact y_tableIn (off := 483) (tgt := 516) dL_law_33 (by decide) (by decide) (by decide) (by decide) (l_case11 hY hj hL h nxt)
    | 12, _ => exact y_tableIn (off := 526) (tgt := 559) dL_law_33 (by decide) (by decide) (by decide) (by decide) (l_case12 hY hj hL h nxt)
    | 13, _ => exact y_tableIn (off := 560) (tgt := 593) dL_law_33 (by decide) (by decide) (by decide) (by decide) (l_case13 hY hj hL h nxt)
    | 14, _ => exact y_tableIn (off := 583) (tgt := 616) dL_law_33 (by decide) (by decide) (by decide) (by decide) (l_case14 hY hj hL h nxt)
    | 15, _ => exact y_tableIn (off := 606) (tgt := 639) dL_law_33 (by decide) (by decide) (by decide) (by decide) (l_case15 hY hj hL h nxt)
    | 16, _ => exact y_tableIn (off := 649) (tgt := 682) dL_law_33 (by decide) (by decide) (by decide) (by decide) (l_case16 hY hj hL h nxt)
    | 17, _ => exact y_tableIn (off := 672) (tgt := 705) dL_law_33 (by decide) (by decide) (by decide) (by decide) (l_case17 hY hj hL h nxt)
    | 18, _ => exact y_tableIn (off := 685) (tgt := 718) dL_law_33 (by decide) (by decide) (by decide) (by decide) (l_case18 hY hj hL h nxt)
    | 19, _ => exact y_tableIn (off := 708) (tgt := 741) dL_law_33 (by decide) (by decide) (by decide) (by decide) (l_case19 hY hj hL h nxt)
    | 20, _ => exact y_tableIn (off := 751) (tgt := 784) dL_law_33 (by decide) (by decide) (by decide) (by decide) (l_case20 hY hj hL h nxt)
    | 21, _ => exact y_tableIn (off := 764) (tgt := 797) dL_law_33 (by decide) (by decide) (by decide) (by decide) (l_case21 hY hj hL h nxt)
    | 22, _ => exact y_tableIn (off := 797) (tgt := 830) dL_law_33 (by decide) (by decide) (by decide) (by decide) (l_case22 hY hj hL h nxt)
    | 23, _ => exact y_tableIn (off := 830) (tgt := 863) dL_law_33 (by decide) (by decide) (by decide) (by decide) (l_case23 hY hj hL h nxt)
    | 24, _ => exact y_tableIn (off := 863) (tgt := 896) dL_law_33 (by decide) (by decide) (by decide) (by decide) (l_case24 hY hj hL h nxt)
    | 25, _ => exact y_tableIn (off := 916) (tgt := 949) dL_law_33 (by decide) (by decide) (by decide) (by decide) (l_case25 hY hj hL h nxt)
    | 26, _ => exact y_tableIn (off := 959) (tgt := 992) dL_law_33 (by decide) (by decide) (by decide) (by decide) (l_case26 hY hj hL h nxt)
    | 27, _ => exact y_tableIn (off := 992) (tgt := 1025) dL_law_33 (by decide) (by decide) (by decide) (by decide) (l_case27 hY hj hL h nxt)
    | 28, _ => exact y_tableIn (off := 1005) (tgt := 1038) dL_law_33 (by decide) (by decide) (by decide) (by decide) (l_case28 hY hj hL h nxt)
    | 29, _ => exact y_tableIn (off := 1038) (tgt := 1071) dL_law_33 (by decide) (by decide) (by decide) (by decide) (l_case29 hY hj hL h nxt)
    | 30, _ => exact y_tableIn (off := 1051) (tgt := 1084) dL_law_33 (by decide) (by decide) (by decide) (by decide) (l_case30 hY hj hL h nxt)
    | 31, _ => exact y_tableOut (tgt := 1098) dL_law_33 (Or.inr (by decide)) (by decide) (nxt I h)
    | n + 32, hk => exact absurd hk (by omega)
theorem l_start {bs Ls : Nat} {xs : Nat → Int32} {X : ZX} (hY : YS bs Ls xs X) (hL : Ls ≤ 3072) (fin : ∀ (j : Nat) (J : ZI), YG bs X RL code 8 11 600000 7302250 272 11553 1104 (LL j) [] Sg J) : YG bs X RL code 8 11 600000 7302250 0 0 0 [zj, zj, zj, zj, zj, zj, zj, zj] [] [] (fun _ _ => 0) := by
  refine y_nob (ci := 9) (N := 9) (a := 0) rfl nRL_7 ⟨_, rfl⟩ dL_law_0 (Nat.le_of_ble_eq_true rfl) (Nat.le_of_ble_eq_true rfl) ?_
  refine y_dup dL_law_3 rfl ?_
  refine y_init0 (a := 0) mX9_init gRL_9 dL_law_4 n_X9 rfl (by decide +kernel) (by decide) (Nat.le_of_ble_eq_true rfl) (Nat.le_of_ble_eq_true rfl) (Nat.le_of_ble_eq_true rfl) (fun J1 f1 p1 => ?_)
  refine y_astore_n dL_law_7 (by decide) rfl (zgd (l := zj) (j := 0) rfl rfl) ?_
  refine y_nob (ci := 10) (N := 17) (a := 259) (by decide +kernel) nRL_10 ⟨_, rfl⟩ dL_law_8 (Nat.le_of_ble_eq_true rfl) (Nat.le_of_ble_eq_true rfl) ?_
  refine y_dup dL_law_11 rfl ?_
  refine y_init0 (a := 259) mX10_init gRL_12 dL_law_12 n_X10 (by decide +kernel) (by decide +kernel) (by decide) (Nat.le_of_ble_eq_true rfl) (Nat.le_of_ble_eq_true rfl) (Nat.le_of_ble_eq_true rfl) (fun J2 f2 p2 => ?_)
  refine y_astore_n dL_law_15 (by decide) rfl (zgd (l := .ref 0) (j := 1) rfl rfl) ?_
  refine y_iconst (v := 0) dL_law_16 rfl ?_
  refine y_istore_n dL_law_17 (by decide) rfl (zgd (l := .ref 259) (j := 2) rfl rfl) ?_
  refine y_sg (σ' := Sg) (by decide +kernel) ?_
  refine y_k (kc' := 272) (ks' := 11553) rfl rfl ?_
  obtain ⟨q1, ⟨q2, q3, q4, q5⟩, ⟨q6, q7⟩, q8⟩ := p1
  obtain ⟨r1, r2, r3, r4, r5, r6⟩ := p2
  have q1 : J1 0 8 = 0 := q1
  have q2 : J1 1 3 = 0 := q2
  have q3 : J1 1 4 = 30 := q3
  have q4 : J1 2 1 = 0 := q4
  have q5 : J1 7 5 = 0 := q5
  have q6 : J1 18 1 = 0 := q6
  have q7 : J1 18 2 = 0 := q7
  have q8 : ∀ v, v < 6 → J1 (139 + 20 * v) 6 = 0 := fun v hv => by
    have := q8 v hv
    rw [show 0 + 139 + 20 * v = 139 + 20 * v by omega] at this
    exact this
  refine l_loop hY hL fin Ls 0 J2 (by omega) (by decide) (b_init ?_ ?_ ?_ ?_ ?_ ?_ ?_ ?_ r1 r2 r3 r4 r5 r6)
  · rw [f2 0 (by decide)]; exact q1
  · rw [f2 1 (by decide)]; exact q2
  · rw [f2 1 (by decide)]; exact q3
  · rw [f2 2 (by decide)]; exact q4
  · rw [f2 7 (by decide)]; exact q5
  · rw [f2 18 (by decide)]; exact q6
  · rw [f2 18 (by decide)]; exact q7
  · intro v hv
    rw [f2 _ (by omega)]
    exact q8 v hv
theorem l_ZT {s : State} {A : Array Value} (hts : ∀ w ∈ lw_tbl, w.before A s = true) : ∃ (cy : Nat → ClassId) (D : va_G), ZT cy D s := by
  have htz : ∀ w ∈ ZW, w.before A s = true := fun w hw => hts w (List.mem_filter.mp hw).1
  have hk : ∀ ci : Nat, ∃ z : ClassId × (Nat → Nat), ∀ q, vwCl[ci]? = some q → u_Kn s q.1 q.2.1 q.2.2 z.1 z.2 := by
    intro ci
    cases hq : vwCl[ci]? with
    | none => exact ⟨(0, fun _ => 0), fun q h => by cases h⟩
    | some q0 =>
      obtain ⟨C, T, N, ty, e1, e2, e3, e4, e5, e6, -, -⟩ := zcl_all hq
      cases hq.symm.trans e1
      obtain ⟨cC, iS, hKn⟩ := u_known (n := N) htz e2 (htz _ e5)
      exact ⟨(cC, iS), fun q h => by cases h; exact hKn⟩
  have a4 : va_AO RX4 s := va_AO.of (hts _ (z_tab1 (i := 157) (by decide +kernel)))
  have a8 : va_AO RX8 s := va_AO.of (hts _ (z_tab1 (i := 112) (by decide +kernel)))
  obtain ⟨c0, k0, m0, g1, g2, g3⟩ := Cond.arrayClass_spec (hts _ zac)
  obtain ⟨m1, c1, k1, f1, f2, f3, f4, f5⟩ := Cond.arrayOver_spec a4
  obtain ⟨m2, c2, k2, e1, e2, e3, e4, e5⟩ := Cond.arrayOver_spec a8
  refine ⟨fun k => if k = 0 then c0 else if k = 1 then c1 else c2, (fun ci => (Classical.choose (hk ci)).1, fun ci => (Classical.choose (hk ci)).2), ⟨fun ci q hq => Classical.choose_spec (hk ci) q hq, fun k q hq => ?_⟩, fun w hw hn => ?_, a4, a8⟩
  · match k, hq with
    | 0, hq =>
      cases hq
      exact ⟨fun n z => ⟨fun k h => (by cases h), k0, g2, m0, g3⟩, g1⟩
    | 1, hq =>
      cases hq
      exact ⟨fun n z => ⟨fun k h => (by cases h), k1, f3, m1, f4⟩, k1, m1, f3, f4, f1, f5⟩
    | 2, hq =>
      cases hq
      exact ⟨fun n z => ⟨fun k h => (by cases h), k2, e3, m2, e4⟩, k2, m2, e3, e4, e1, e5⟩
    | n + 3, hq => cases hq
  · cases w <;> first | (cases hn; done) | exact va_Nw.of rfl (hts _ hw)
theorem whole_start {p : Program} {e : Env} {s : State} {m : MethodId} {below : List Frame} {meth : Method} {c : Code} (l : Launch) (hflags : l.flags = flags0) {b L : Nat} {xs : Nat → Int32} (hL : L ≤ 3072) (C0 : lw_At p s m meth c b L xs) : W p l e room_1 s m #[Value.ref b] below meth c s.heap [] 0 0 (lw_Z below #[Value.ref b] s) (entryFrame m ([Value.ref b] : List Value).toArray 8) := by
  obtain ⟨hx, hb, hr, hml, hown, hts, hX, hbl, hlocks, hgv⟩ := C0
  obtain ⟨cy, D, hZ⟩ := l_ZT hts
  have hl := lv_entry ([.ref b]) (n := 8) (Nat.le_of_ble_eq_true rfl)
  rw [lg_entry_eq]
  generalize (lg_sl ([.ref b]) ++ List.replicate (8 - (lg_sl ([.ref b])).length) Slot.unset).toArray = ls at hl ⊢
  have hl : lv_has ls 8 [(0, .ref b)] := hl
  have fin : ∀ (j : Nat) (J : ZI), YG b (p, l, e, room_1, s, m, #[Value.ref b], below, meth, c, lw_Z below #[Value.ref b] s, cy, D, s.heap.size) RL code 8 11 600000 7302250 272 11553 1104 (LL j) [] Sg J := by
    intro j J hX' H locs ls hH hz hS hl h0
    refine lv_iconst (v := 1) hx hb dL_law_1104 (by decide) ?_
    refine va_forget (fun q hq => hS.2.2 q hq) ?_
    refine W.widen (k := 600000) (n := 7302250) (Nat.le_of_ble_eq_true rfl) (Nat.le_of_ble_eq_true rfl) ?_
    refine W.base ?_
    exact lw_ret (Drawn.sameBut.refl s.drawn lw_cs) hx hb hr hlocks dL_law_1105
  have hY : YS b L xs (p, l, e, room_1, s, m, #[Value.ref b], below, meth, c, lw_Z below #[Value.ref b] s, cy, D, s.heap.size) := ⟨hX, hbl, Nat.not_le.mpr hbl⟩
  have hZK : ZOK (p, l, e, room_1, s, m, #[Value.ref b], below, meth, c, lw_Z below #[Value.ref b] s, cy, D, s.heap.size) RL code 8 11 600000 7302250 := ⟨hx, hb, hml, hown, fun w hw => hts w (List.mem_filter.mp hw).1, hZ, Nat.le_refl _, hlocks, Nat.le_of_ble_eq_true rfl, Nat.le_of_ble_eq_true rfl, Nat.le_refl _, Nat.le_refl _⟩
  refine l_start hY hL fin hZK s.heap [] ls ⟨rfl, fun k q h => ?_⟩ rfl va_S.rf ⟨hl.1, hl.2.1, fun q hq => ?_⟩ (hl.2.2 (0, .ref b) List.mem_cons_self)
  · have h : ([] : va_W)[k]? = some q := h
    cases h
  · have hq : q ∈ ([] : List (Nat × Value)) := hq
    cases hq
