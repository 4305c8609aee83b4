/-! ===== pages in numbers ===== -/
/-- how many more pages k places from p on need, with l lines left on the page at hand, pages of L lines -/
def nd (h : Nat → Nat) (L : Nat) : Nat → Nat → Nat → Nat
  | 0, _, _ => 0
  | k + 1, p, l => if l < h p then 1 + nd h L k (p + 1) (L - h p) else nd h L k (p + 1) (l - h p)
def ndp (h : Nat → Nat) (L n p : Nat) : Nat := nd h L (n - p) p 0
def lmf (h : Nat → Nat) (n M : Nat) : Nat → Nat → Nat
  | 0, l => l
  | k + 1, l => if M < ndp h l n 0 then lmf h n M k (l + 1) else l
def eef (h : Nat → Nat) (L n left : Nat) : Nat → Nat → Nat
  | 0, e => e
  | k + 1, e => if left < ndp h L n e then eef h L n left k (e + 1) else e
def mxh (h : Nat → Nat) : Nat → Nat
  | 0 => 0
  | n + 1 => if mxh h n < h n then h n else mxh h n
def pst (h : Nat → Nat) (L n M : Nat) : Nat → Nat
  | 0 => 0
  | i + 1 => eef h L n (M - i - 1) (n - (pst h L n M i + 1)) (pst h L n M i + 1)
/-- the heights of k places from s on, together -/
def smh (h : Nat → Nat) (s : Nat) : Nat → Nat
  | 0 => 0
  | k + 1 => smh h s k + h (s + k)
theorem nd_two (h : Nat → Nat) (L : Nat) : ∀ (k p : Nat), (∀ l l', l ≤ l' → l' ≤ L → nd h L k p l' ≤ nd h L k p l) ∧ ∀ l l', l ≤ L → l' ≤ L → nd h L k p l' ≤ 1 + nd h L k p l
  | 0, p => ⟨fun _ _ _ _ => Nat.le_refl _, fun _ _ _ _ => Nat.zero_le _⟩
  | k + 1, p => by
    obtain ⟨a, b⟩ := nd_two h L k (p + 1)
    refine ⟨fun l l' h1 h2 => ?_, fun l l' h1 h2 => ?_⟩
    · rw [nd, nd]
      by_cases c1 : l' < h p
      · rw [if_pos c1, if_pos (by omega)]; exact Nat.le_refl _
      · rw [if_neg c1]
        by_cases c2 : l < h p
        · rw [if_pos c2]; exact b _ _ (by omega) (by omega)
        · rw [if_neg c2]; exact a _ _ (by omega) (by omega)
    · rw [nd, nd]
      by_cases c1 : l' < h p
      · rw [if_pos c1]
        by_cases c2 : l < h p
        · rw [if_pos c2]; omega
        · rw [if_neg c2]
          have := a (l - h p) (L - h p) (by omega) (by omega)
          omega
      · rw [if_neg c1]
        by_cases c2 : l < h p
        · rw [if_pos c2]
          have := b (L - h p) (l' - h p) (by omega) (by omega)
          omega
        · rw [if_neg c2]; exact b _ _ (by omega) (by omega)
theorem nd_L (h : Nat → Nat) {L L' : Nat} (hL : L ≤ L') : ∀ (k p l l' : Nat), l ≤ l' → l' ≤ L' → nd h L' k p l' ≤ nd h L k p l
  | 0, _, _, _, _, _ => Nat.le_refl _
  | k + 1, p, l, l', h1, h2 => by
    rw [nd, nd]
    by_cases c1 : l' < h p
    · rw [if_pos c1, if_pos (by omega)]
      have := nd_L h hL k (p + 1) (L - h p) (L' - h p) (by omega) (by omega)
      omega
    · rw [if_neg c1]
      by_cases c2 : l < h p
      · rw [if_pos c2]
        have e1 := (nd_two h L' k (p + 1)).2 (L' - h p) (l' - h p) (by omega) (by omega)
        have e2 := nd_L h hL k (p + 1) (L - h p) (L' - h p) (by omega) (by omega)
        omega
      · rw [if_neg c2]
        exact nd_L h hL k (p + 1) (l - h p) (l' - h p) (by omega) (by omega)
theorem nd_le (h : Nat → Nat) (L : Nat) : ∀ (k p l : Nat), nd h L k p l ≤ k
  | 0, _, _ => Nat.le_refl _
  | k + 1, p, l => by
    rw [nd]
    by_cases c : l < h p
    · rw [if_pos c]; have := nd_le h L k (p + 1) (L - h p); omega
    · rw [if_neg c]; have := nd_le h L k (p + 1) (l - h p); omega
theorem ndp_le (h : Nat → Nat) (L n p : Nat) : ndp h L n p ≤ n - p := nd_le h L _ _ _
theorem ndp_end (h : Nat → Nat) (L n : Nat) : ndp h L n n = 0 := by rw [ndp, Nat.sub_self]; rfl
theorem ndp_pos {h : Nat → Nat} {L n p : Nat} (hp : p < n) (h1 : 1 ≤ h p) : ndp h L n p = 1 + nd h L (n - (p + 1)) (p + 1) (L - h p) := by
  rw [ndp, show n - p = (n - (p + 1)) + 1 by omega, nd, if_pos (by omega)]
theorem mxh_le {h : Nat → Nat} : ∀ {n i : Nat}, i < n → h i ≤ mxh h n
  | 0, i, hi => absurd hi (Nat.not_lt_zero i)
  | n + 1, i, hi => by
    rw [mxh]
    by_cases c : mxh h n < h n
    · rw [if_pos c]
      by_cases e : i = n
      · rw [e]; exact Nat.le_refl _
      · have := mxh_le (h := h) (n := n) (i := i) (by omega); omega
    · rw [if_neg c]
      by_cases e : i = n
      · rw [e]; omega
      · exact mxh_le (h := h) (n := n) (i := i) (by omega)
theorem mxh_ub {h : Nat → Nat} {m : Nat} : ∀ {n : Nat}, (∀ i, i < n → h i ≤ m) → mxh h n ≤ m
  | 0, _ => Nat.zero_le _
  | n + 1, hm => by
    rw [mxh]
    have := mxh_ub (h := h) (m := m) (n := n) (fun i hi => hm i (by omega))
    have := hm n (Nat.lt_succ_self n)
    by_cases c : mxh h n < h n
    · rw [if_pos c]; exact this
    · rw [if_neg c]; omega
theorem lmf_spec {h : Nat → Nat} {n M lines : Nat} (hM : M = ndp h lines n 0) : ∀ (k l : Nat), l + k = lines → l ≤ lmf h n M k l ∧ lmf h n M k l ≤ lines ∧ ndp h (lmf h n M k l) n 0 ≤ M
  | 0, l, hl => by
    have : l = lines := by omega
    subst this
    exact ⟨Nat.le_refl _, Nat.le_refl _, by rw [hM]; exact Nat.le_refl _⟩
  | k + 1, l, hl => by
    rw [lmf]
    by_cases c : M < ndp h l n 0
    · rw [if_pos c]
      obtain ⟨a, b, d⟩ := lmf_spec hM k (l + 1) (by omega)
      exact ⟨by omega, b, d⟩
    · rw [if_neg c]
      exact ⟨Nat.le_refl _, by omega, by omega⟩
/-- the earliest end of a page from s on, with left pages behind it -/
theorem eef_spec {h : Nat → Nat} {L n s left : Nat} (hs : ndp h L n s = left + 1) : ∀ (k e l : Nat), e + k = n → s < e → l ≤ L → ndp h L n s = 1 + nd h L (n - e) e l → s < eef h L n left k e ∧ eef h L n left k e ≤ n ∧ ndp h L n (eef h L n left k e) = left
  | 0, e, l, he, hse, hl, hnd => by
    have : e = n := by omega
    subst this
    rw [Nat.sub_self] at hnd
    have e0 : nd h L 0 e l = 0 := rfl
    rw [e0] at hnd
    exact ⟨hse, Nat.le_refl _, by rw [eef, ndp_end]; omega⟩
  | k + 1, e, l, he, hse, hl, hnd => by
    rw [eef]
    have hen : n - e = (n - (e + 1)) + 1 := by omega
    by_cases c : left < ndp h L n e
    · rw [if_pos c]
      have c2 : ¬ l < h e := by
        intro c2
        rw [ndp, hen, nd] at c
        rw [hen, nd, if_pos c2] at hnd
        by_cases c3 : 0 < h e
        · rw [if_pos c3] at c; omega
        · omega
      rw [hen, nd, if_neg c2] at hnd
      exact eef_spec hs k (e + 1) (l - h e) (by omega) (by omega) (by omega) hnd
    · rw [if_neg c]
      have h1 := (nd_two h L (n - e) e).1 0 l (Nat.zero_le _) hl
      have h2 : nd h L (n - e) e 0 = ndp h L n e := rfl
      exact ⟨hse, by omega, by omega⟩
theorem pst_spec {h : Nat → Nat} {L n M : Nat} (hh : ∀ i, i < n → 1 ≤ h i ∧ h i ≤ L) (hM : ndp h L n 0 = M) : ∀ i, i ≤ M → pst h L n M i ≤ n ∧ ndp h L n (pst h L n M i) = M - i ∧ (i < M → pst h L n M i < pst h L n M (i + 1) ∧ pst h L n M (i + 1) ≤ n)
  | 0, _ => by
    refine ⟨Nat.zero_le _, hM, fun h0 => ?_⟩
    have hn : 0 < n := by
      rcases Nat.eq_zero_or_pos n with e | e
      · subst e; rw [ndp_end] at hM; omega
      · exact e
    have := eef_spec (left := M - 0 - 1) (show ndp h L n 0 = M - 0 - 1 + 1 by omega) (n - (0 + 1)) (0 + 1) (L - h 0) (by omega) (by omega) (by omega) (ndp_pos hn (hh 0 hn).1)
    exact ⟨this.1, this.2.1⟩
  | i + 1, hi => by
    obtain ⟨a, b, c⟩ := pst_spec hh hM i (by omega)
    have hp : pst h L n M i < n := by
      rcases Nat.lt_or_ge (pst h L n M i) n with e | e
      · exact e
      · have : pst h L n M i = n := by omega
        rw [this, ndp_end] at b
        omega
    have h1 := eef_spec (left := M - i - 1) (show ndp h L n (pst h L n M i) = M - i - 1 + 1 by omega) (n - (pst h L n M i + 1)) (pst h L n M i + 1) (L - h (pst h L n M i)) (by omega) (by omega) (by omega) (ndp_pos hp (hh _ hp).1)
    have h1 : pst h L n M i < pst h L n M (i + 1) ∧ pst h L n M (i + 1) ≤ n ∧ ndp h L n (pst h L n M (i + 1)) = M - i - 1 := h1
    refine ⟨h1.2.1, by rw [h1.2.2]; omega, fun h2 => ?_⟩
    have hp2 : pst h L n M (i + 1) < n := by
      rcases Nat.lt_or_ge (pst h L n M (i + 1)) n with e | e
      · exact e
      · have e2 : pst h L n M (i + 1) = n := by omega
        have e3 := h1.2.2
        rw [e2, ndp_end] at e3
        omega
    have h3 := eef_spec (left := M - (i + 1) - 1) (show ndp h L n (pst h L n M (i + 1)) = M - (i + 1) - 1 + 1 by omega) (n - (pst h L n M (i + 1) + 1)) (pst h L n M (i + 1) + 1) (L - h (pst h L n M (i + 1))) (by omega) (by omega) (by omega) (ndp_pos hp2 (hh _ hp2).1)
    exact ⟨h3.1, h3.2.1⟩
theorem pst_end {h : Nat → Nat} {L n M : Nat} (hh : ∀ i, i < n → 1 ≤ h i ∧ h i ≤ L) (hM : ndp h L n 0 = M) : pst h L n M M = n := by
  obtain ⟨a, b, -⟩ := pst_spec hh hM M (Nat.le_refl _)
  rcases Nat.lt_or_ge (pst h L n M M) n with e | e
  · rw [ndp_pos e (hh _ e).1] at b; omega
  · omega
/-! the pages of a version -/
def Hq (nq : Nat) (qd : Qd) (seed : Int32) (p : Nat) : Nat := qd (Od nq qd seed p) 0
def Pn (nq : Nat) (qd : Qd) (seed : Int32) (lines : Nat) : Nat := ndp (Hq nq qd seed) lines nq 0
def Lm (nq : Nat) (qd : Qd) (seed : Int32) (lines : Nat) : Nat := lmf (Hq nq qd seed) nq (Pn nq qd seed lines) (lines - mxh (Hq nq qd seed) nq) (mxh (Hq nq qd seed) nq)
def Ps (nq : Nat) (qd : Qd) (seed : Int32) (lines : Nat) : Nat → Nat := pst (Hq nq qd seed) (Lm nq qd seed lines) nq (Pn nq qd seed lines)
theorem Hq_in {nq : Nat} {qd : Qd} {seed : Int32} (hV : QV nq qd) {p : Nat} (hp : p < nq) : 1 ≤ Hq nq qd seed p ∧ Hq nq qd seed p ≤ 9 := by
  have := hV.2 _ ((Od_en nq qd seed).1 p hp)
  exact ⟨this.1, this.2.1⟩
theorem Lm_spec {nq : Nat} {qd : Qd} {seed : Int32} {lines : Nat} (hV : QV nq qd) (hl : 9 ≤ lines) : (∀ i, i < nq → 1 ≤ Hq nq qd seed i ∧ Hq nq qd seed i ≤ Lm nq qd seed lines) ∧ Lm nq qd seed lines ≤ lines ∧ ndp (Hq nq qd seed) (Lm nq qd seed lines) nq 0 = Pn nq qd seed lines := by
  have hm : mxh (Hq nq qd seed) nq ≤ 9 := mxh_ub (fun i hi => (Hq_in hV hi).2)
  obtain ⟨a, b, c⟩ := lmf_spec (h := Hq nq qd seed) (n := nq) (M := Pn nq qd seed lines) (lines := lines) rfl (lines - mxh (Hq nq qd seed) nq) (mxh (Hq nq qd seed) nq) (by omega)
  have a : mxh (Hq nq qd seed) nq ≤ Lm nq qd seed lines := a
  have b : Lm nq qd seed lines ≤ lines := b
  have c : ndp (Hq nq qd seed) (Lm nq qd seed lines) nq 0 ≤ Pn nq qd seed lines := c
  refine ⟨fun i hi => ⟨(Hq_in hV hi).1, Nat.le_trans (mxh_le hi) a⟩, b, Nat.le_antisymm c ?_⟩
  exact nd_L (Hq nq qd seed) b _ _ 0 0 (Nat.le_refl _) (Nat.zero_le _)
theorem Ps_spec {nq : Nat} {qd : Qd} {seed : Int32} {lines : Nat} (hV : QV nq qd) (hl : 9 ≤ lines) : (∀ i, i < Pn nq qd seed lines → Ps nq qd seed lines i < Ps nq qd seed lines (i + 1) ∧ Ps nq qd seed lines (i + 1) ≤ nq) ∧ Ps nq qd seed lines (Pn nq qd seed lines) = nq := by
  obtain ⟨a, b, c⟩ := Lm_spec (seed := seed) hV hl
  exact ⟨fun i hi => (pst_spec a c i (by omega)).2.2 hi, pst_end a c⟩
/-- the page of a place -/
theorem Ps_page {nq : Nat} {qd : Qd} {seed : Int32} {lines p : Nat} (hV : QV nq qd) (hl : 9 ≤ lines) (hp : p < nq) : ∃ i k, i < Pn nq qd seed lines ∧ k < Ps nq qd seed lines (i + 1) - Ps nq qd seed lines i ∧ p = Ps nq qd seed lines i + k := by
  obtain ⟨a, b⟩ := Ps_spec (seed := seed) hV hl
  have key : ∀ m, m ≤ Pn nq qd seed lines → p < Ps nq qd seed lines m → ∃ i, i < m ∧ Ps nq qd seed lines i ≤ p ∧ p < Ps nq qd seed lines (i + 1) := by
    intro m
    induction m with
    | zero => intro _ h; exact absurd h (Nat.not_lt_zero p)
    | succ m ih =>
      intro hm h
      rcases Nat.lt_or_ge p (Ps nq qd seed lines m) with h1 | h1
      · obtain ⟨i, h2, h3⟩ := ih (by omega) h1
        exact ⟨i, by omega, h3⟩
      · exact ⟨m, Nat.lt_succ_self m, h1, h⟩
  obtain ⟨i, h1, h2, h3⟩ := key _ (Nat.le_refl _) (by rw [b]; exact hp)
  exact ⟨i, p - Ps nq qd seed lines i, h1, by omega, by omega⟩
theorem Pn_le {nq : Nat} {qd : Qd} {seed : Int32} {lines : Nat} : Pn nq qd seed lines ≤ nq := Nat.le_trans (ndp_le _ _ _ _) (Nat.sub_le _ _)
theorem smh_le {h : Nat → Nat} {s : Nat} : ∀ {k : Nat}, (∀ i, i < k → h (s + i) ≤ 9) → smh h s k ≤ 9 * k
  | 0, _ => Nat.le_refl _
  | k + 1, hh => by
    have := smh_le (h := h) (s := s) (k := k) (fun i hi => hh i (by omega))
    have := hh k (Nat.lt_succ_self k)
    rw [smh]
    omega
