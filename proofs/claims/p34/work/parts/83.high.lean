/-! ===== pages are no higher than their limit, hold something, begin at the first place ===== -/
theorem eef_h {h : Nat → Nat} {L n s left : Nat} (hs : ndp h L n s = left + 1) : ∀ (k e l : Nat), e + k = n → s < e → smh h s (e - s) + l ≤ L → ndp h L n s = 1 + nd h L (n - e) e l → smh h s (eef h L n left k e - s) ≤ L
  | 0, e, l, he, hse, hl, hnd => by rw [eef]; omega
  | k + 1, e, l, he, hse, hl, hnd => by
    rw [eef]
    have hen : n - e = (n - (e + 1)) + 1 := by omega
    by_cases c : left < ndp h L n e
    · rw [if_pos c]
      have c2 : ¬ l < h e := by
        intro c2
        rw [ndp, hen, nd] at c
        rw [hen, nd, if_pos c2] at hnd
        by_cases c3 : 0 < h e
        · rw [if_pos c3] at c; omega
        · omega
      rw [hen, nd, if_neg c2] at hnd
      have e2 : smh h s (e + 1 - s) = smh h s (e - s) + h e := by
        rw [show e + 1 - s = (e - s) + 1 by omega, smh, show s + (e - s) = e by omega]
      exact eef_h hs k (e + 1) (l - h e) (by omega) (by omega) (by rw [e2]; omega) hnd
    · rw [if_neg c]; omega
theorem pst_h {h : Nat → Nat} {L n M : Nat} (hh : ∀ i, i < n → 1 ≤ h i ∧ h i ≤ L) (hM : ndp h L n 0 = M) {i : Nat} (hi : i < M) : smh h (pst h L n M i) (pst h L n M (i + 1) - pst h L n M i) ≤ L := by
  obtain ⟨a, b, c⟩ := pst_spec hh hM i (by omega)
  have hp : pst h L n M i < n := by have := c hi; omega
  have e1 : smh h (pst h L n M i) (pst h L n M i + 1 - pst h L n M i) = h (pst h L n M i) := by
    rw [show pst h L n M i + 1 - pst h L n M i = 0 + 1 by omega, smh, smh, Nat.zero_add, Nat.add_zero]
  exact eef_h (left := M - i - 1) (show ndp h L n (pst h L n M i) = M - i - 1 + 1 by omega) (n - (pst h L n M i + 1)) (pst h L n M i + 1) (L - h (pst h L n M i)) (by omega) (by omega) (by rw [e1]; have := (hh _ hp).2; omega) (ndp_pos hp (hh _ hp).1)
theorem smh_pos {h : Nat → Nat} {s k : Nat} (hk : 0 < k) (h1 : 1 ≤ h s) : 1 ≤ smh h s k := by
  induction k with
  | zero => omega
  | succ k ih =>
    rw [smh]
    rcases Nat.eq_zero_or_pos k with e | e
    · subst e; rw [smh, Nat.add_zero]; omega
    · have := ih e; omega
theorem vP_0 (A : AS) (v : Nat) : vP A v 0 = 0 := rfl
theorem vP_in {A : AS} {v i : Nat} (hV : AV A) (hi : i < vN A v) : vP A v i < vP A v (i + 1) ∧ vP A v (i + 1) ≤ anq A := (Ps_spec (seed := asd A v) hV.1 hV.2.2.1).1 i hi
theorem vP_end {A : AS} {v : Nat} (hV : AV A) : vP A v (vN A v) = anq A := (Ps_spec (seed := asd A v) hV.1 hV.2.2.1).2
theorem vN_le (A : AS) (v : Nat) : vN A v ≤ anq A := Pn_le
theorem vP_page {A : AS} {v p : Nat} (hV : AV A) (hp : p < anq A) : ∃ i k, i < vN A v ∧ k < vP A v (i + 1) - vP A v i ∧ p = vP A v i + k := Ps_page hV.1 hV.2.2.1 hp
theorem vH_in {A : AS} {v p : Nat} (hV : AV A) (hp : p < anq A) : 1 ≤ vH A v p ∧ vH A v p ≤ 9 := Hq_in hV.1 hp
/-- the height of a page -/
def pgh (A : AS) (v i : Nat) : Nat := smh (vH A v) (vP A v i) (vP A v (i + 1) - vP A v i)
theorem pgh_in {A : AS} {v i : Nat} (hV : AV A) (hi : i < vN A v) : 1 ≤ pgh A v i ∧ pgh A v i ≤ 60 := by
  obtain ⟨a, b, c⟩ := Lm_spec (seed := asd A v) hV.1 hV.2.2.1
  have h1 := vP_in (v := v) hV hi
  have h2 : pgh A v i ≤ Lm (anq A) (aqd A) (asd A v) (aln A) := pst_h a c hi
  have h3 := hV.2.2.2.1
  exact ⟨smh_pos (by omega) (vH_in hV (by omega)).1, by omega⟩
/-- the page of a place, its line there -/
theorem at_pg {A : AS} {v i k : Nat} (hV : AV A) (hi : i < vN A v) (hk : k < vP A v (i + 1) - vP A v i) : atF A v (vP A v i + k) 2 = nI i ∧ atF A v (vP A v i + k) 3 = nI (smh (vH A v) (vP A v i) k) := by
  have e := pgo_eq (P := vP A v) (M := vN A v) (fun j hj => (vP_in (v := v) hV hj).1) hi hk
  constructor
  · show nI (pgo (vP A v) (vP A v i + k) (vN A v)) = nI i
    rw [e]
  · show nI (smh (vH A v) (vP A v (pgo (vP A v) (vP A v i + k) (vN A v))) (vP A v i + k - vP A v (pgo (vP A v) (vP A v i + k) (vN A v)))) = _
    rw [e, Nat.add_sub_cancel_left]

