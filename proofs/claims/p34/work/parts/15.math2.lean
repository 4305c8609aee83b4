/-! ===== a version lists each question once (fb_holes: out of kit/laws/COUNTS) ===== -/
theorem fb_holes : ∀ (m n : Nat) (f : Nat → Nat), (∀ i, i < n → f i < m) → (∀ i j, i < j → j < n → f i ≠ f j) → n ≤ m := by
  intro m
  induction m with
  | zero =>
    intro n f h1 _
    rcases Nat.eq_zero_or_pos n with h | h
    · omega
    · exact absurd (h1 0 h) (Nat.not_lt_zero _)
  | succ m ih =>
    intro n f h1 h2
    by_cases hx : ∃ i, i < n ∧ f i = m
    · obtain ⟨a, ha, hfa⟩ := hx
      have hg := ih (n - 1) (fun i => if i < a then f i else f (i + 1)) (by
        intro i hi
        by_cases q : i < a
        · simp only [if_pos q]
          have b1 := h1 i (by omega)
          have b2 := h2 i a q ha
          omega
        · simp only [if_neg q]
          have b1 := h1 (i + 1) (by omega)
          have b2 := h2 a (i + 1) (by omega) (by omega)
          omega) (by
        intro i j hij hj
        by_cases q : i < a
        · by_cases r : j < a
          · simp only [if_pos q, if_pos r]
            exact h2 i j hij (by omega)
          · simp only [if_pos q, if_neg r]
            exact h2 i (j + 1) (by omega) (by omega)
        · have r : ¬ j < a := by omega
          simp only [if_neg q, if_neg r]
          exact h2 (i + 1) (j + 1) (by omega) (by omega))
      omega
    · have hg := ih n f (fun i hi => by
        have b1 := h1 i hi
        have b2 : f i ≠ m := fun e => hx ⟨i, hi, e⟩
        omega) h2
      omega
theorem tog_refl (qd : Qd) (a : Nat) : tog qd a a = true := by simp [tog]
theorem tog_symm {qd : Qd} {a b : Nat} (h : tog qd a b = true) : tog qd b a = true := by
  simp only [tog, decide_eq_true_eq] at h ⊢
  rcases h with h | ⟨h1, h2⟩
  · exact Or.inl h.symm
  · exact Or.inr ⟨by rw [← h2]; exact h1, h2.symm⟩
theorem tog_trans {qd : Qd} {a b c : Nat} (h : tog qd a b = true) (h' : tog qd b c = true) : tog qd a c = true := by
  simp only [tog, decide_eq_true_eq] at h h' ⊢
  rcases h with rfl | ⟨h1, h2⟩
  · exact h'
  · rcases h' with rfl | ⟨h3, h4⟩
    · exact Or.inr ⟨h1, h2⟩
    · exact Or.inr ⟨h1, h2.trans h4⟩
theorem col_none {P : Nat → Bool} : ∀ {n : Nat}, (∀ k, k < n → P k = false) → (col P n).1 = 0
  | 0, _ => rfl
  | n + 1, h => by
    rw [col_no (by rw [h n (Nat.lt_succ_self n)]; decide)]
    exact col_none (fun k hk => h k (by omega))
theorem col_idx {P : Nat → Bool} : ∀ {n i : Nat}, i < (col P n).1 → ∃ j, j < n ∧ P j = true ∧ (col P j).1 = i
  | 0, i, h => absurd h (Nat.not_lt_zero i)
  | n + 1, i, h => by
    by_cases h1 : P n = true
    · rw [col_yes h1] at h
      have h2 : i < (col P n).1 + 1 := h
      by_cases h3 : i = (col P n).1
      · exact ⟨n, Nat.lt_succ_self n, h1, h3.symm⟩
      · obtain ⟨j, a, b, c⟩ := col_idx (P := P) (n := n) (i := i) (by omega)
        exact ⟨j, by omega, b, c⟩
    · rw [col_no h1] at h
      obtain ⟨j, a, b, c⟩ := col_idx (P := P) (n := n) (i := i) h
      exact ⟨j, by omega, b, c⟩
theorem lead_none {qd : Qd} {u : Nat} (h : lead qd u = true) : (col (tog qd u) u).1 = 0 := by
  simp only [lead, decide_eq_true_eq] at h
  refine col_none (fun k hk => ?_)
  by_cases h1 : tog qd u k = true
  · have := tog_symm h1
    rw [h k hk] at this
    cases this
  · exact Bool.eq_false_iff.mpr h1
theorem lead_one {qd : Qd} {u v q : Nat} (hu : lead qd u = true) (hv : lead qd v = true) (h1 : tog qd u q = true) (h2 : tog qd v q = true) : u = v := by
  have h3 := tog_trans h1 (tog_symm h2)
  simp only [lead, decide_eq_true_eq] at hu hv
  rcases Nat.lt_trichotomy u v with h | h | h
  · rw [hv u h] at h3; cases h3
  · exact h
  · have h4 := tog_symm h3
    rw [hu v h] at h4; cases h4
theorem lead_some (qd : Qd) (q : Nat) : ∃ u, u ≤ q ∧ lead qd u = true ∧ tog qd u q = true := by
  obtain ⟨u, h1, h2⟩ := pk_least (fun u => tog qd u q = true) ⟨q, tog_refl qd q⟩
  refine ⟨u, ?_, ?_, h1⟩
  · rcases Nat.lt_or_ge q u with h | h
    · exact absurd (tog_refl qd q) (h2 q h)
    · exact h
  · simp only [lead, decide_eq_true_eq]
    intro k hk
    by_cases h3 : tog qd k u = true
    · exact absurd (tog_trans h3 h1) (h2 k hk)
    · exact Bool.eq_false_iff.mpr h3
theorem En.count {f : Nat → Nat} {m n : Nat} (h : En f m (fun q => q < n)) : m = n := by
  have h1 : m ≤ n := fb_holes n m f h.1 h.2.2
  have h2 : n ≤ m := by
    have hx : ∀ s, s < n → ∃ k, k < m ∧ f k = s := h.2.1
    refine fb_holes m n (fun s => if hs : s < n then Classical.choose (hx s hs) else 0) (fun s hs => ?_) (fun s t hst ht he => ?_)
    · simp only [dif_pos hs]
      exact (Classical.choose_spec (hx s hs)).1
    · have hs : s < n := by omega
      simp only [dif_pos hs, dif_pos ht] at he
      have e1 := (Classical.choose_spec (hx s hs)).2
      have e2 := (Classical.choose_spec (hx t ht)).2
      rw [he, e2] at e1
      omega
  omega
theorem mxU_en (nq : Nat) (qd : Qd) (seed : Int32) : En (mxU nq qd seed).2 (col (lead qd) nq).1 (fun q => q < nq ∧ lead qd q = true) := by
  refine En.mix _ _ _ _ _ ?_ (col_en (lead qd) nq).1
  omega
theorem mxM_en (nq : Nat) (qd : Qd) (x : Int32) (u : Nat) : En (mxM nq qd x u).2 (col (tog qd u) nq).1 (fun q => q < nq ∧ tog qd u q = true) := by
  refine En.mix _ _ _ _ _ ?_ (col_en (tog qd u) nq).1
  omega
theorem mxL_en (qd : Qd) (x : Int32) (q : Nat) : En (mxL qd x q).2 (col (loose qd q) (qd q 4)).1 (fun k => k < qd q 4 ∧ loose qd q k = true) := by
  refine En.mix _ _ _ _ _ ?_ (col_en (loose qd q) (qd q 4)).1
  omega
theorem mxO_en {nq : Nat} {qd : Qd} {u : Nat → Nat} {x : Int32} {m : Nat} (hu : En u m (fun q => q < nq ∧ lead qd q = true)) : ∀ k, k ≤ m → En (mxO nq qd u x k).2.2 (mxO nq qd u x k).2.1 (fun q => q < nq ∧ ∃ i, i < k ∧ tog qd (u i) q = true)
  | 0, _ => ⟨fun k hk => absurd hk (Nat.not_lt_zero k), fun s hs => by obtain ⟨-, i, hi, -⟩ := hs; exact absurd hi (Nat.not_lt_zero i), fun k l _ hl => absurd hl (Nat.not_lt_zero l)⟩
  | k + 1, hk => by
    have ih := mxO_en (nq := nq) (qd := qd) (u := u) (x := x) hu k (by omega)
    have hm := mxM_en nq qd (mxO nq qd u x k).1 (u k)
    have hlk := hu.1 k (by omega)
    rw [mxO]
    generalize mxO nq qd u x k = M at ih hm ⊢
    obtain ⟨x1, pl, o⟩ := M
    show En (fun p => if p < pl then o p else (mxM nq qd x1 (u k)).2 (p - pl)) (pl + (col (tog qd (u k)) nq).1) _
    generalize (col (tog qd (u k)) nq).1 = c at hm ⊢
    generalize (mxM nq qd x1 (u k)).2 = g at hm ⊢
    have ih : En o pl (fun q => q < nq ∧ ∃ i, i < k ∧ tog qd (u i) q = true) := ih
    have f1 : ∀ p, p < pl → (fun p => if p < pl then o p else g (p - pl)) p = o p := fun p h => if_pos h
    have f2 : ∀ p, ¬ p < pl → (fun p => if p < pl then o p else g (p - pl)) p = g (p - pl) := fun p h => if_neg h
    generalize (fun p => if p < pl then o p else g (p - pl)) = F at f1 f2 ⊢
    refine ⟨fun p hp => ?_, fun s hs => ?_, fun p r hpr hr he => ?_⟩
    · by_cases h1 : p < pl
      · rw [f1 p h1]
        obtain ⟨a, i, b, d⟩ := ih.1 p h1
        exact ⟨a, i, by omega, d⟩
      · rw [f2 p h1]
        obtain ⟨a, b⟩ := hm.1 (p - pl) (by omega)
        exact ⟨a, k, Nat.lt_succ_self k, b⟩
    · obtain ⟨a, i, b, d⟩ := hs
      by_cases h1 : i = k
      · subst h1
        obtain ⟨j, e1, e2⟩ := hm.2.1 s ⟨a, d⟩
        exact ⟨pl + j, by omega, by rw [f2 _ (by omega), Nat.add_sub_cancel_left, e2]⟩
      · obtain ⟨j, e1, e2⟩ := ih.2.1 s ⟨a, i, by omega, d⟩
        exact ⟨j, by omega, by rw [f1 _ e1, e2]⟩
    · by_cases h1 : p < pl
      · rw [f1 p h1] at he
        by_cases h2 : r < pl
        · rw [f1 r h2] at he
          exact ih.2.2 p r hpr h2 he
        · rw [f2 r h2] at he
          obtain ⟨-, i, hi, b⟩ := ih.1 p h1
          obtain ⟨-, d⟩ := hm.1 (r - pl) (by omega)
          rw [← he] at d
          have e1 := lead_one (hu.1 i (by omega)).2 hlk.2 b d
          exact hu.2.2 i k hi (by omega) e1
      · rw [f2 p h1, f2 r (by omega)] at he
        exact hm.2.2 (p - pl) (r - pl) (by omega) (by omega) he
theorem Od_en0 (nq : Nat) (qd : Qd) (seed : Int32) : En (Od nq qd seed) (Ord3 nq qd seed).2.1 (fun q => q < nq) := by
  have hu := mxU_en nq qd seed
  refine (mxO_en (x := (mxU nq qd seed).1) hu _ (Nat.le_refl _)).congr (fun _ _ => rfl) (fun s => ⟨fun h => h.1, fun h => ⟨h, ?_⟩⟩)
  obtain ⟨u, h1, h2, h3⟩ := lead_some qd s
  obtain ⟨i, h4, h5⟩ := hu.2.1 u ⟨by omega, h2⟩
  exact ⟨i, h4, by rw [h5]; exact h3⟩
theorem Ord3_n (nq : Nat) (qd : Qd) (seed : Int32) : (Ord3 nq qd seed).2.1 = nq := (Od_en0 nq qd seed).count
theorem Od_en (nq : Nat) (qd : Qd) (seed : Int32) : En (Od nq qd seed) nq (fun q => q < nq) := by
  have h := Od_en0 nq qd seed
  rw [Ord3_n] at h
  exact h
theorem chq_lt {qd : Qd} {x : Int32} {q k : Nat} (hk : k < qd q 4) : chq qd x q k < qd q 4 := by
  unfold chq
  by_cases h : loose qd q k = true
  · rw [if_pos h]
    refine ((mxL_en qd x q).1 _ ?_).1
    have h1 : (col (loose qd q) (k + 1)).1 ≤ (col (loose qd q) (qd q 4)).1 := col_mono _ hk
    rw [col_yes h] at h1
    have h2 : (col (loose qd q) k).1 + 1 ≤ (col (loose qd q) (qd q 4)).1 := h1
    omega
  · rw [if_neg h]; exact hk
theorem chq_onto {qd : Qd} {x : Int32} {q r : Nat} (hr : r < qd q 4) : ∃ k, k < qd q 4 ∧ chq qd x q k = r := by
  by_cases h : loose qd q r = true
  · obtain ⟨i, h1, h2⟩ := (mxL_en qd x q).2.1 r ⟨hr, h⟩
    obtain ⟨j, h3, h4, h5⟩ := col_idx h1
    exact ⟨j, h3, by rw [chq, if_pos h4, h5, h2]⟩
  · exact ⟨r, hr, by rw [chq, if_neg h]⟩
theorem kyq_spec {c : Nat → Nat} {r : Nat} : ∀ {n : Nat}, (∃ k, k < n ∧ c k = r) → kyq c r n < n ∧ c (kyq c r n) = r
  | 0, h => by obtain ⟨k, hk, -⟩ := h; exact absurd hk (Nat.not_lt_zero k)
  | n + 1, h => by
    rw [kyq]
    by_cases h1 : c n = r
    · rw [if_pos h1]; exact ⟨Nat.lt_succ_self n, h1⟩
    · rw [if_neg h1]
      obtain ⟨k, hk, e⟩ := h
      have hkn : k ≠ n := fun e2 => h1 (e2 ▸ e)
      obtain ⟨a, b⟩ := kyq_spec (c := c) (r := r) (n := n) ⟨k, by omega, e⟩
      exact ⟨by omega, b⟩
theorem Ky_lt {nq : Nat} {qd : Qd} {seed : Int32} {p : Nat} (hV : QV nq qd) (hp : p < nq) : Ky nq qd seed p < qd (Od nq qd seed p) 4 ∧ Ch nq qd seed p (Ky nq qd seed p) = qd (Od nq qd seed p) 1 := by
  have h1 := (Od_en nq qd seed).1 p hp
  exact kyq_spec (chq_onto (hV.2 _ h1).2.2.2.2.1)
theorem Ch_lt {nq : Nat} {qd : Qd} {seed : Int32} {p k : Nat} (hk : k < qd (Od nq qd seed p) 4) : Ch nq qd seed p k < qd (Od nq qd seed p) 4 := chq_lt hk
theorem z_bit : ∀ K, K < 32 → ∀ c, c < 5 → ((nI K >>> (nI c &&& 31)) &&& 1 = (0 : Int32) ↔ K.testBit c = false) := by decide +kernel
