/-! ===== groups stand together; choices are a permutation that keeps what keeps its place ===== -/
theorem mxO_con {nq : Nat} {qd : Qd} {u : Nat → Nat} {x : Int32} {m : Nat} (hu : En u m (fun q => q < nq ∧ lead qd q = true)) : ∀ k, k ≤ m → ∀ a b c, a ≤ b → b ≤ c → c < (mxO nq qd u x k).2.1 → tog qd ((mxO nq qd u x k).2.2 a) ((mxO nq qd u x k).2.2 c) = true → tog qd ((mxO nq qd u x k).2.2 a) ((mxO nq qd u x k).2.2 b) = true := by
  intro k
  induction k with
  | zero => intro _ a b c _ _ hc; exact absurd hc (Nat.not_lt_zero c)
  | succ k ih =>
    intro hk a b c hab hbc hc ht
    have hold := mxO_en (x := x) hu k (by omega)
    have hnew := mxM_en nq qd (mxO nq qd u x k).1 (u k)
    have ec : ∀ z, (mxO nq qd u x (k + 1)).2.2 z = if z < (mxO nq qd u x k).2.1 then (mxO nq qd u x k).2.2 z else (mxM nq qd (mxO nq qd u x k).1 (u k)).2 (z - (mxO nq qd u x k).2.1) := fun z => rfl
    have en : (mxO nq qd u x (k + 1)).2.1 = (mxO nq qd u x k).2.1 + (col (tog qd (u k)) nq).1 := rfl
    rw [en] at hc
    rw [ec, ec] at ht
    rw [ec, ec]
    rcases Nat.lt_or_ge c (mxO nq qd u x k).2.1 with c1 | c1
    · rw [if_pos (show a < (mxO nq qd u x k).2.1 by omega), if_pos c1] at ht
      rw [if_pos (show a < (mxO nq qd u x k).2.1 by omega), if_pos (show b < (mxO nq qd u x k).2.1 by omega)]
      exact ih (by omega) a b c hab hbc c1 ht
    · rw [if_neg (show ¬ c < (mxO nq qd u x k).2.1 by omega)] at ht
      have tc := (hnew.1 (c - (mxO nq qd u x k).2.1) (by omega)).2
      rcases Nat.lt_or_ge a (mxO nq qd u x k).2.1 with a1 | a1
      · rw [if_pos a1] at ht
        obtain ⟨-, i, hi, ti⟩ := hold.1 a a1
        have t2 := tog_trans ti ht
        have e := lead_one (hu.1 i (by omega)).2 (hu.1 k (by omega)).2 t2 tc
        exact absurd e (hu.2.2 i k hi (by omega))
      · rw [if_neg (show ¬ a < (mxO nq qd u x k).2.1 by omega), if_neg (show ¬ b < (mxO nq qd u x k).2.1 by omega)]
        have ta := (hnew.1 (a - (mxO nq qd u x k).2.1) (by omega)).2
        have tb := (hnew.1 (b - (mxO nq qd u x k).2.1) (by omega)).2
        exact tog_trans (tog_symm ta) tb
theorem Od_con {nq : Nat} {qd : Qd} {seed : Int32} {a b c : Nat} (hab : a ≤ b) (hbc : b ≤ c) (hc : c < nq) (ht : tog qd (Od nq qd seed a) (Od nq qd seed c) = true) : tog qd (Od nq qd seed a) (Od nq qd seed b) = true :=
  mxO_con (mxU_en nq qd seed) _ (Nat.le_refl _) a b c hab hbc (by rw [← Ord3_n nq qd seed] at hc; exact hc) ht
/-- a group that stood before and isn't the last one's does not come again -/
theorem gr_con {A : AS} {v a b c : Nat} (hab : a ≤ b) (hbc : b ≤ c) (hc : c < anq A) (hg : aqd A (vO A v c) 3 ≠ 0) (he : aqd A (vO A v a) 3 = aqd A (vO A v c) 3) : aqd A (vO A v b) 3 = aqd A (vO A v c) 3 := by
  have ht : tog (aqd A) (vO A v a) (vO A v c) = true := by
    unfold tog
    exact decide_eq_true (Or.inr ⟨by rw [he]; exact hg, he⟩)
  have h2 : tog (aqd A) (vO A v a) (vO A v b) = true := Od_con hab hbc hc ht
  unfold tog at h2
  rcases of_decide_eq_true h2 with e | ⟨-, e⟩
  · rw [← e]; exact he
  · rw [← e]; exact he
theorem col_lt {P : Nat → Bool} {k l : Nat} (hk : P k = true) (h : k < l) : (col P k).1 < (col P l).1 := by
  have h1 : (col P (k + 1)).1 = (col P k).1 + 1 := by rw [col_yes hk]
  have h2 := col_mono P (m := k + 1) (n := l) h
  omega
theorem chq_inj {qd : Qd} {x : Int32} {q k l : Nat} (hk : k < qd q 4) (hl : l < qd q 4) (h : chq qd x q k = chq qd x q l) : k = l := by
  have hE := mxL_en qd x q
  have key : ∀ {k l : Nat}, k < qd q 4 → l < qd q 4 → k < l → chq qd x q k ≠ chq qd x q l := by
    intro k l hk hl hkl h
    unfold chq at h
    by_cases a : loose qd q k = true
    · have ik := col_lt a hk
      rw [if_pos a] at h
      by_cases b : loose qd q l = true
      · rw [if_pos b] at h
        have il := col_lt b hl
        have := hE.inj ik il h
        have := col_lt a hkl
        omega
      · rw [if_neg b] at h
        have := (hE.1 _ ik).2
        rw [h] at this
        exact b this
    · rw [if_neg a] at h
      by_cases b : loose qd q l = true
      · rw [if_pos b] at h
        have := (hE.1 _ (col_lt b hl)).2
        rw [← h] at this
        exact a this
      · rw [if_neg b] at h
        omega
  rcases Nat.lt_trichotomy k l with c | c | c
  · exact absurd h (key hk hl c)
  · exact c
  · exact absurd h.symm (key hl hk c)
theorem vC_inj {A : AS} {v p k l : Nat} (hk : k < aqd A (vO A v p) 4) (hl : l < aqd A (vO A v p) 4) (h : vC A v p k = vC A v p l) : k = l := chq_inj hk hl h
theorem vC_keep {A : AS} {v p k : Nat} (h : (aqd A (vO A v p) 2).testBit k = true) : vC A v p k = k := by
  have e : loose (aqd A) (vO A v p) k = false := by unfold loose; rw [h]; rfl
  show (if loose (aqd A) (vO A v p) k = true then _ else k) = k
  rw [if_neg (by rw [e]; decide)]
theorem vK_iff {A : AS} {v p k : Nat} (hV : AV A) (hp : p < anq A) (hk : k < aqd A (vO A v p) 4) : vC A v p k = aqd A (vO A v p) 1 ↔ vK A v p = k := by
  obtain ⟨h1, h2⟩ := Ky_lt (seed := asd A v) hV.1 hp
  have h1 : vK A v p < aqd A (vO A v p) 4 := h1
  have h2 : vC A v p (vK A v p) = aqd A (vO A v p) 1 := h2
  constructor
  · intro h
    exact vC_inj h1 hk (h2.trans h.symm)
  · intro h
    rw [← h]; exact h2
theorem vO_lt {A : AS} {v p : Nat} (hp : p < anq A) : vO A v p < anq A := (Od_en (anq A) (aqd A) (asd A v)).1 p hp
theorem vO_inj {A : AS} {v p r : Nat} (hp : p < anq A) (hr : r < anq A) (h : vO A v p = vO A v r) : p = r := (Od_en (anq A) (aqd A) (asd A v)).inj hp hr h
theorem vC_lt {A : AS} {v p k : Nat} (hk : k < aqd A (vO A v p) 4) : vC A v p k < aqd A (vO A v p) 4 := Ch_lt hk

