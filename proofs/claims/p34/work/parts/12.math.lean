/-! ===== numbers: lots, mixing, collecting; what a version is ===== -/
def lx (x : Int32) : Int32 := 1103515245 * x + 12345
def lvv (x : Int32) (m : Nat) : Nat := (x.toBitVec.toNat / 65536) % m
theorem lvv_lt (x : Int32) {m : Nat} (h : 0 < m) : lvv x m < m := Nat.mod_lt _ h
def mixA : Nat → Int32 × (Nat → Int32) → Int32 × (Nat → Int32)
  | 0, p => p
  | i + 1, p => mixA i (lx p.1, swI p.2 (i + 1) (lvv (lx p.1) (i + 2)))
def swN (f : Nat → Nat) (i j : Nat) : Nat → Nat := fun k => if k = j then f i else if k = i then f j else f k
def mixN : Nat → Int32 × (Nat → Nat) → Int32 × (Nat → Nat)
  | 0, p => p
  | i + 1, p => mixN i (lx p.1, swN p.2 (i + 1) (lvv (lx p.1) (i + 2)))
/-- the row f holds the numbers g below n -/
def Rp (f : Nat → Int32) (g : Nat → Nat) (n : Nat) : Prop := ∀ k, k < n → f k = nI (g k)
theorem Rp.sw {f : Nat → Int32} {g : Nat → Nat} {n i j : Nat} (h : Rp f g n) (hi : i < n) (hj : j < n) : Rp (swI f i j) (swN g i j) n := by
  intro k hk
  unfold swI swN
  by_cases h1 : k = j
  · rw [if_pos h1, if_pos h1, h i hi]
  · rw [if_neg h1, if_neg h1]
    by_cases h2 : k = i
    · rw [if_pos h2, if_pos h2, h j hj]
    · rw [if_neg h2, if_neg h2, h k hk]
theorem mix_rp : ∀ (i : Nat) (x : Int32) (f : Nat → Int32) (g : Nat → Nat) (n : Nat), i < n ∨ i = 0 → Rp f g n → (mixA i (x, f)).1 = (mixN i (x, g)).1 ∧ Rp (mixA i (x, f)).2 (mixN i (x, g)).2 n
  | 0, x, f, g, n, _, h => ⟨rfl, h⟩
  | i + 1, x, f, g, n, hi, h => by
    have hi : i + 1 < n := by omega
    have hl := lvv_lt (lx x) (show 0 < i + 2 by omega)
    exact mix_rp i (lx x) _ _ n (Or.inl (by omega)) (h.sw hi (show lvv (lx x) (i + 2) < n by omega))
/-- f lists just the numbers of S, each once -/
def En (f : Nat → Nat) (n : Nat) (S : Nat → Prop) : Prop := (∀ k, k < n → S (f k)) ∧ (∀ s, S s → ∃ k, k < n ∧ f k = s) ∧ ∀ k l, k < l → l < n → f k ≠ f l
theorem En.inj {f : Nat → Nat} {n : Nat} {S : Nat → Prop} (h : En f n S) {k l : Nat} (hk : k < n) (hl : l < n) (e : f k = f l) : k = l := by
  rcases Nat.lt_trichotomy k l with h1 | h1 | h1
  · exact absurd e (h.2.2 k l h1 hl)
  · exact h1
  · exact absurd e.symm (h.2.2 l k h1 hk)
theorem En.sw {f : Nat → Nat} {n i j : Nat} {S : Nat → Prop} (h : En f n S) (hi : i < n) (hj : j < n) : En (swN f i j) n S := by
  have key : ∀ k, k < n → ∃ k', k' < n ∧ swN f i j k = f k' ∧ swN f i j k' = f k ∧ (∀ l, l < n → ∀ l', l' < n → swN f i j l = f l' → l' = k' → l = k ∨ True) := by
    intro k hk
    unfold swN
    by_cases h1 : k = j
    · subst h1
      refine ⟨i, hi, by simp, ?_, fun _ _ _ _ _ _ => Or.inr trivial⟩
      by_cases h2 : i = k
      · subst h2; simp
      · simp [h2]
    · by_cases h2 : k = i
      · subst h2
        exact ⟨j, hj, by simp [h1], by simp, fun _ _ _ _ _ _ => Or.inr trivial⟩
      · exact ⟨k, hk, by simp [h1, h2], by simp [h1, h2], fun _ _ _ _ _ _ => Or.inr trivial⟩
  refine ⟨fun k hk => ?_, fun s hs => ?_, fun k l hkl hl he => ?_⟩
  · obtain ⟨k', h1, h2, -⟩ := key k hk
    rw [h2]
    exact h.1 k' h1
  · obtain ⟨k, h1, h2⟩ := h.2.1 s hs
    obtain ⟨k', h3, -, h4, -⟩ := key k h1
    exact ⟨k', h3, by rw [h4, h2]⟩
  · have hk : k < n := by omega
    unfold swN at he
    by_cases a1 : k = j
    · have a2 : l ≠ j := by omega
      rw [if_pos a1, if_neg a2] at he
      by_cases a3 : l = i
      · rw [if_pos a3] at he
        have := h.inj hi hj he
        omega
      · rw [if_neg a3] at he
        have := h.inj hi hl he
        omega
    · rw [if_neg a1] at he
      by_cases a2 : l = j
      · rw [if_pos a2] at he
        by_cases a3 : k = i
        · rw [if_pos a3] at he
          have := h.inj hj hi he
          omega
        · rw [if_neg a3] at he
          have := h.inj hk hi he
          omega
      · rw [if_neg a2] at he
        by_cases a3 : k = i
        · rw [if_pos a3] at he
          have a4 : l ≠ i := by omega
          rw [if_neg a4] at he
          have := h.inj hj hl he
          omega
        · rw [if_neg a3] at he
          by_cases a4 : l = i
          · rw [if_pos a4] at he
            have := h.inj hk hj he
            omega
          · rw [if_neg a4] at he
            have := h.inj hk hl he
            omega
theorem En.mix : ∀ (i : Nat) (x : Int32) (f : Nat → Nat) (n : Nat) (S : Nat → Prop), i < n ∨ i = 0 → En f n S → En (mixN i (x, f)).2 n S
  | 0, x, f, n, S, _, h => h
  | i + 1, x, f, n, S, hi, h => by
    have hi : i + 1 < n := by omega
    have hl := lvv_lt (lx x) (show 0 < i + 2 by omega)
    exact En.mix i (lx x) _ n S (Or.inl (by omega)) (h.sw hi (show lvv (lx x) (i + 2) < n by omega))
theorem En.congr {f g : Nat → Nat} {n : Nat} {S S' : Nat → Prop} (h : En f n S) (hf : ∀ k, k < n → g k = f k) (hS : ∀ s, S s ↔ S' s) : En g n S' := by
  refine ⟨fun k hk => ?_, fun s hs => ?_, fun k l hkl hl he => ?_⟩
  · rw [hf k hk]; exact (hS _).mp (h.1 k hk)
  · obtain ⟨k, h1, h2⟩ := h.2.1 s ((hS s).mpr hs)
    exact ⟨k, h1, by rw [hf k h1, h2]⟩
  · rw [hf k (by omega), hf l hl] at he
    exact h.2.2 k l hkl hl he
/-- the numbers below n with P, in ascending order -/
def col (P : Nat → Bool) : Nat → Nat × (Nat → Nat)
  | 0 => (0, fun _ => 0)
  | n + 1 => if P n = true then ((col P n).1 + 1, fun k => if k = (col P n).1 then n else (col P n).2 k) else col P n
theorem col_yes {P : Nat → Bool} {n : Nat} (h : P n = true) : col P (n + 1) = ((col P n).1 + 1, fun k => if k = (col P n).1 then n else (col P n).2 k) := by rw [col, if_pos h]
theorem col_no {P : Nat → Bool} {n : Nat} (h : ¬ P n = true) : col P (n + 1) = col P n := by rw [col, if_neg h]
theorem col_le (P : Nat → Bool) : ∀ n, (col P n).1 ≤ n
  | 0 => Nat.le_refl _
  | n + 1 => by
    have := col_le P n
    by_cases h : P n = true
    · rw [col_yes h]; show (col P n).1 + 1 ≤ n + 1; omega
    · rw [col_no h]; omega
theorem col_mono (P : Nat → Bool) {m : Nat} : ∀ {n : Nat}, m ≤ n → (col P m).1 ≤ (col P n).1
  | 0, h => by rw [show m = 0 by omega]; exact Nat.le_refl _
  | n + 1, h => by
    rcases Nat.lt_or_ge m (n + 1) with h1 | h1
    · have := col_mono P (m := m) (n := n) (by omega)
      by_cases h2 : P n = true
      · rw [col_yes h2]; show _ ≤ (col P n).1 + 1; omega
      · rw [col_no h2]; exact this
    · rw [show m = n + 1 by omega]; exact Nat.le_refl _
theorem col_en (P : Nat → Bool) : ∀ n, En (col P n).2 (col P n).1 (fun q => q < n ∧ P q = true) ∧ ∀ k, k < (col P n).1 → (col P n).2 k < n
  | 0 => ⟨⟨fun k hk => absurd hk (Nat.not_lt_zero k), fun s hs => absurd hs.1 (Nat.not_lt_zero s), fun k l _ hl => absurd hl (Nat.not_lt_zero l)⟩, fun k hk => absurd hk (Nat.not_lt_zero k)⟩
  | n + 1 => by
    obtain ⟨⟨h1, h2, h3⟩, h4⟩ := col_en P n
    by_cases h : P n = true
    · rw [col_yes h]
      refine ⟨⟨fun k hk => ?_, fun s hs => ?_, fun k l hkl hl => ?_⟩, fun k hk => ?_⟩
      · show (if k = _ then n else _) < n + 1 ∧ P (if k = _ then n else _) = true
        by_cases hk2 : k = (col P n).1
        · rw [if_pos hk2]; exact ⟨Nat.lt_succ_self n, h⟩
        · rw [if_neg hk2]
          have hk3 : k < (col P n).1 + 1 := hk
          obtain ⟨a, b⟩ := h1 k (by omega)
          exact ⟨by omega, b⟩
      · by_cases hs2 : s = n
        · exact ⟨(col P n).1, Nat.lt_succ_self _, by show (if (col P n).1 = (col P n).1 then n else _) = s; rw [if_pos rfl, hs2]⟩
        · obtain ⟨k, a, b⟩ := h2 s ⟨by omega, hs.2⟩
          exact ⟨k, Nat.lt_succ_of_lt a, by show (if k = _ then n else _) = s; rw [if_neg (by omega), b]⟩
      · show (if k = _ then n else _) ≠ (if l = _ then n else _)
        have hl3 : l < (col P n).1 + 1 := hl
        rw [if_neg (show ¬ k = (col P n).1 by omega)]
        by_cases hl2 : l = (col P n).1
        · rw [if_pos hl2]
          have := h4 k (by omega)
          omega
        · rw [if_neg hl2]
          exact h3 k l hkl (by omega)
      · show (if k = _ then n else _) < n + 1
        have hk3 : k < (col P n).1 + 1 := hk
        by_cases hk2 : k = (col P n).1
        · rw [if_pos hk2]; omega
        · rw [if_neg hk2]
          have := h4 k (by omega)
          omega
    · rw [col_no h]
      refine ⟨⟨fun k hk => ⟨by have := (h1 k hk).1; omega, (h1 k hk).2⟩, fun s hs => ?_, h3⟩, fun k hk => by have := h4 k hk; omega⟩
      by_cases hs2 : s = n
      · rw [hs2] at hs; exact absurd hs.2 h
      · exact h2 s ⟨by omega, hs.2⟩
theorem col_congr {P Q : Nat → Bool} : ∀ {n : Nat}, (∀ k, k < n → P k = Q k) → col P n = col Q n
  | 0, _ => rfl
  | n + 1, h => by
    have ih := col_congr (P := P) (Q := Q) (n := n) (fun k hk => h k (by omega))
    by_cases h1 : P n = true
    · rw [col_yes h1, col_yes (by rw [← h n (Nat.lt_succ_self n)]; exact h1), ih]
    · rw [col_no h1, col_no (by rw [← h n (Nat.lt_succ_self n)]; exact h1), ih]
/-! questions: qd q w is the number w of question q (0 height, 1 right, 2 keeps, 3 group, 4 choices) -/
abbrev Qd : Type := Nat → Nat → Nat
def QV (nq : Nat) (qd : Qd) : Prop := nq ≤ 20 ∧ ∀ q, q < nq → 1 ≤ qd q 0 ∧ qd q 0 ≤ 9 ∧ 2 ≤ qd q 4 ∧ qd q 4 ≤ 5 ∧ qd q 1 < qd q 4 ∧ qd q 2 < 2 ^ qd q 4 ∧ qd q 3 ≤ 5
def tog (qd : Qd) (a b : Nat) : Bool := decide (a = b ∨ (qd a 3 ≠ 0 ∧ qd a 3 = qd b 3))
def lead (qd : Qd) (q : Nat) : Bool := decide (∀ k, k < q → tog qd k q = false)
def loose (qd : Qd) (q : Nat) (k : Nat) : Bool := !(qd q 2).testBit k
/-- the units in their mixed order, and the lots' state behind it -/
def mxU (nq : Nat) (qd : Qd) (seed : Int32) : Int32 × (Nat → Nat) := mixN ((col (lead qd) nq).1 - 1) (seed, (col (lead qd) nq).2)
def mxM (nq : Nat) (qd : Qd) (x : Int32) (u : Nat) : Int32 × (Nat → Nat) := mixN ((col (tog qd u) nq).1 - 1) (x, (col (tog qd u) nq).2)
def mxO (nq : Nat) (qd : Qd) (u : Nat → Nat) (x : Int32) : Nat → Int32 × Nat × (Nat → Nat)
  | 0 => (x, 0, fun _ => 0)
  | k + 1 => ((mxM nq qd (mxO nq qd u x k).1 (u k)).1, (mxO nq qd u x k).2.1 + (col (tog qd (u k)) nq).1, fun p => if p < (mxO nq qd u x k).2.1 then (mxO nq qd u x k).2.2 p else (mxM nq qd (mxO nq qd u x k).1 (u k)).2 (p - (mxO nq qd u x k).2.1))
def Ord3 (nq : Nat) (qd : Qd) (seed : Int32) : Int32 × Nat × (Nat → Nat) := mxO nq qd (mxU nq qd seed).2 (mxU nq qd seed).1 (col (lead qd) nq).1
/-- the order of a version -/
def Od (nq : Nat) (qd : Qd) (seed : Int32) : Nat → Nat := (Ord3 nq qd seed).2.2
def mxL (qd : Qd) (x : Int32) (q : Nat) : Int32 × (Nat → Nat) := mixN ((col (loose qd q) (qd q 4)).1 - 1) (x, (col (loose qd q) (qd q 4)).2)
def mxX (qd : Qd) (O : Nat → Nat) (x : Int32) : Nat → Int32
  | 0 => x
  | p + 1 => (mxL qd (mxX qd O x p) (O p)).1
/-- the choice at the place k of a question q whose loose choices are mixed from x on -/
def chq (qd : Qd) (x : Int32) (q k : Nat) : Nat := if loose qd q k = true then (mxL qd x q).2 (col (loose qd q) k).1 else k
/-- the last place below n with the right choice -/
def kyq (c : Nat → Nat) (r : Nat) : Nat → Nat
  | 0 => 0
  | n + 1 => if c n = r then n else kyq c r n
/-- the lots' state at the choices of a place; the choices and the key of a version -/
def Xs (nq : Nat) (qd : Qd) (seed : Int32) (p : Nat) : Int32 := mxX qd (Od nq qd seed) (Ord3 nq qd seed).1 p
def Ch (nq : Nat) (qd : Qd) (seed : Int32) (p k : Nat) : Nat := chq qd (Xs nq qd seed p) (Od nq qd seed p) k
def Ky (nq : Nat) (qd : Qd) (seed : Int32) (p : Nat) : Nat := kyq (Ch nq qd seed p) (qd (Od nq qd seed p) 1) (qd (Od nq qd seed p) 4)
