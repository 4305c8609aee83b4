/-! ===== the acts of the law: what they answer, the state behind them ===== -/
/-- the state behind an act: A', the one before it in the history -/
abbrev nxT (T : CT) (A' : AS) : CT := (A', phc T.2.1, pHh T.2.1 T.2.2.1 T.1, T.2.2.2)
section KA
variable {T : CT} {I : ZI} {x y z u w : Int32}
theorem k_add (h : KI T I) (hf : ∃ f, vQ x y z u w f) (h0 : ans T.1 = 0) (h20 : anq T.1 < 20) : ZP yX9_add cX9_add 6 (some FieldType.int) 6 [.ref 0, .int x, .int y, .int z, .int u, .int w] Sg I (fun r J => ∃ f, r = some (.int (nI (anq T.1))) ∧ KI (nxT T (adA T.1 f)) J) := (s_add h).mono (fun r J q => by
  rcases q.2 with ⟨a, -, ha, -⟩ | ⟨f, -, -, -, e, hC⟩
  · exfalso
    rcases ha with ⟨g, -⟩ | ⟨-, g, -⟩ | ⟨-, -, g, -⟩
    · exact g hf
    · exact g h0
    · omega
  · exact ⟨f, e, hC⟩)
theorem k_undo {A' : AS} (h : KI (nxT T A') I) : ZP yX9_undo cX9_undo 1 (some FieldType.int) 5 [.ref 0] Sg I (fun r J => ∃ c Hh, r = some (.int (nI c)) ∧ phc T.2.1 = c + 1 ∧ KI (T.1, c, Hh, T.2.2.2) J) := (s_undo h).mono (fun r J q => by
  obtain ⟨c0, e1, e2⟩ := ph_last T.2.1 T.2.2.1 T.1
  rcases q.2 with ⟨g, -⟩ | ⟨c, g, e, hC⟩
  · exfalso
    have g : phc T.2.1 = 0 := g
    omega
  · have g : phc T.2.1 = c + 1 := g
    have : c = c0 := by omega
    subst this
    have hC : CI J (pHh T.2.1 T.2.2.1 T.1 c) c (pHh T.2.1 T.2.2.1 T.1) T.2.2.2.1 T.2.2.2.2 := hC
    rw [e2] at hC
    exact ⟨c, _, e, g, hC⟩)
theorem k_undoN (h : KI T I) (h0 : T.2.1 = 0) : ZK yX9_undo cX9_undo 1 (some FieldType.int) 5 [.ref 0] T I (.int (-1009)) := (s_undo h).mono (fun r J q => by
  rcases q.2 with ⟨-, e, hC⟩ | ⟨c, g, -⟩
  · exact ⟨e, hC⟩
  · omega)
theorem KI.hc5 (h : KI T I) : T.2.1 ≤ 5 := by
  obtain ⟨old, -, -, -, h5, -⟩ := h.2.2.1
  exact h5
theorem k_setLines {n : Nat} (h : KI T I) (hx : x = nI n) (h9 : 9 ≤ n) (h60 : n ≤ 60) : ZP yX9_setLines cX9_setLines 3 (some FieldType.int) 6 [.ref 0, .int x] Sg I (fun r J => r = some (.int (nI (aln T.1))) ∧ KI (nxT T (lnA T.1 n)) J) := (s_setLines h).mono (fun r J q => by
  rcases q.2 with ⟨g, -⟩ | ⟨m, h1, h2, h3, e, hC⟩
  · exact absurd ⟨n, h9, h60, hx⟩ g
  · have : n = m := nI_inj (m := 61) (by omega) (by omega) (by decide) (hx.symm.trans h3)
    subst this
    exact ⟨e, hC⟩)
theorem k_version (h : KI T I) (h0 : ans T.1 = 0) (h6 : anv T.1 < 6) : ZP yX9_version cX9_version 3 (some FieldType.int) 6 [.ref 0, .int x] Sg I (fun r J => r = some (.int (nI (anv T.1))) ∧ KI (nxT T (vrA T.1 x)) J) := (s_version h).mono (fun r J q => by
  rcases q.2 with ⟨a, -, ha, -⟩ | ⟨-, -, e, hC⟩
  · exfalso
    rcases ha with ⟨g, -⟩ | ⟨-, g, -⟩
    · exact g h0
    · omega
  · exact ⟨e, hC⟩)
theorem k_change (h : KI T I) (h0 : ans T.1 = 0) (hq : ∃ q j n, vC2 T.1 x y z q j n) : ZP yX9_change cX9_change 5 (some FieldType.int) 6 [.ref 0, .int x, .int y, .int z] Sg I (fun r J => ∃ q j n, q < anq T.1 ∧ j < 4 ∧ r = some (.int (nI (aqd T.1 q j))) ∧ KI (nxT T (chA T.1 q j n)) J) := (s_change h).mono (fun r J q => by
  rcases q.2 with ⟨a, -, ha, -⟩ | ⟨q, j, n, g, -, e, hC⟩
  · exfalso
    rcases ha with ⟨g, -⟩ | ⟨-, g, -⟩
    · exact g hq
    · exact g h0
  · exact ⟨q, j, n, g.1, g.2.2.1, e, hC⟩)
theorem k_remove {k : Nat} (h : KI T I) (h0 : ans T.1 = 0) (hx : x = nI k) (hk : k < anq T.1) : ZP yX9_remove cX9_remove 2 (some FieldType.int) 6 [.ref 0, .int x] Sg I (fun r J => ∃ q, r = some (.int (nI (anq T.1 - 1))) ∧ KI (nxT T (rmA T.1 q)) J) := (s_remove h).mono (fun r J q => by
  rcases q.2 with ⟨g, -⟩ | ⟨-, g, -⟩ | ⟨q, -, -, -, e, hC⟩
  · exact absurd ⟨k, hk, hx⟩ g
  · exact absurd h0 g
  · exact ⟨q, e, hC⟩)
theorem k_guess {v sk : Nat} (h : KI T I) (hx : x = nI v) (hv : v < anv T.1) (hz : z = nI sk) (hs : sk ≤ 10) (h20 : ans T.1 < 20) : ZP yX9_guess cX9_guess 7 (some FieldType.int) 6 [.ref 0, .int x, .int y, .int z] Sg I (fun r J => ∃ v m, r = some (.int (nI (ans T.1))) ∧ KI (nxT T (shA T.1 v m)) J) := (s_guess h).mono (fun r J q => by
  rcases q.2 with ⟨g, -⟩ | ⟨-, -, g, -⟩ | ⟨v, sk, -, -, -, -, -, e, hC⟩
  · exfalso
    rcases g with g | g
    · exact g ⟨v, hv, hx⟩
    · exact g ⟨sk, hs, hz⟩
  · omega
  · exact ⟨_, _, e, hC⟩)
theorem k_forget (h : KI T I) : ZP yX9_forget cX9_forget 2 (some FieldType.int) 5 [.ref 0] Sg I (fun r J => r = some (.int (nI (ans T.1))) ∧ KI (nxT T (fgA T.1)) J) := (s_forget h).mono (fun r J q => ⟨q.2.1, q.2.2⟩)
/-- F, typed into an empty buffer -/
theorem k_type (h : KI T I) (h0 : T.2.2.2.1 = 0) : ZP yX9_type cX9_type 2 (some FieldType.int) 1 [.ref 0, .int 70] Sg I (fun r J => r = some (.int 1) ∧ KI (T.1, T.2.1, T.2.2.1, 1, bfP 0 T.2.2.2.2 70) J) := (s_type h).mono (fun r J q => by
  rcases q.2 with ⟨a, -, ha, -⟩ | ⟨n, h1, h2, h3, h4, e, hC⟩
  · exfalso
    rcases ha with ⟨g, -⟩ | ⟨-, g, -⟩
    · exact g ⟨70, by decide, by decide, rfl⟩
    · omega
  · have e70 : n = 70 := (nI_inj (a := 70) (b := n) (m := 200) (by decide) (by omega) (by decide) h3).symm
    subst e70
    rw [h0] at e hC
    exact ⟨e, hC⟩)
/-- a buffer with F alone is wrong at its first sign -/
theorem k_sheet {bf : Nat → Nat} {hc : Nat} {Hh : Nat → AS} {A : AS} (h : KI (A, hc, Hh, 1, bfP 0 bf 70) I) (hv : 0 < anv A) (hq : 0 < anq A) (h20 : ans A < 20) : ZK yX9_sheet cX9_sheet 4 (some FieldType.int) 6 [.ref 0, .int 0] (A, hc, Hh, 1, bfP 0 bf 70) I (.int (-100)) := (s_sheet h).mono (fun r J q => by
  have hV : AV A := h.av
  have hok : ∀ v, v < anv A → ¬ okC (bfP 0 bf 70 0) (aqd A (vO A v 0) 4) := by
    intro v hv g
    have h5 := (aqd5 hV (vO_lt (v := v) hq)).1
    have e : bfP 0 bf 70 0 = 70 := if_pos rfl
    rw [e] at g
    rcases g with g | ⟨-, g⟩
    · exact absurd g (by decide)
    · omega
  rcases q.2 with ⟨g, -⟩ | ⟨-, g, -⟩ | ⟨v, i, h1, h2, h3, hb, e, hC⟩ | ⟨v, h1, h2, h3, hb, -⟩
  · exact absurd ⟨0, hv, rfl⟩ g
  · have g : ans A = 20 := g
    omega
  · have h1 : v < anv A := h1
    have i0 : i = 0 := by
      rcases Nat.eq_zero_or_pos i with c | c
      · exact c
      · exact absurd (hb.2.2.1 0 c) (hok v h1)
    subst i0
    exact ⟨e, hC⟩
  · have h1 : v < anv A := h1
    have g : okC (bfP 0 bf 70 0) (aqd A (vO A v 0) 4) := hb.2 0 hq
    exact absurd g (hok v h1))
theorem k_clear (h : KI T I) : ZP yX9_clear cX9_clear 2 (some FieldType.int) 0 [.ref 0] Sg I (fun r J => r = some (.int (nI T.2.2.2.1)) ∧ True) := (s_clear h).mono (fun r J q => ⟨q.2.1, trivial⟩)
theorem l_failsX (h : KI T I) (h0 : ans T.1 ≠ 0 → 0 < anq T.1) (hx : x = nI (anq T.1)) (hy : y = nI (anv T.1)) (hz : z = nI (ans T.1)) : ZK yL_fails cL_fails 7 (some FieldType.boolean) 8 [.ref 0, .int x, .int y, .int z] T I (.int 1) := by
  subst hx; subst hy; subst hz
  exact l_fails h h0
theorem l_versionX {v : Nat} (h : KI T I) (hx : x = nI v) (hv : v < anv T.1) (hy : y = nI (anq T.1)) : ZK yL_version cL_version 13 (some FieldType.boolean) 8 [.ref 0, .int x, .int y] T I (.int 1) := by
  subst hx; subst hy
  exact l_version h hv
theorem l_sheetsX (h : KI T I) (h2 : 2 ≤ ans T.1) (h6 : ans T.1 ≤ 6) (hx : x = nI (anq T.1)) (hy : y = nI (ans T.1)) : ZK yL_sheets cL_sheets 10 (some FieldType.boolean) 7 [.ref 0, .int x, .int y] T I (.int 1) := by
  subst hx; subst hy
  exact l_sheets h h2 h6
end KA

