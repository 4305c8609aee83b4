/-! ===== numbers of the law ===== -/
theorem ph_last (hc : Nat) (Hh : Nat → AS) (A : AS) : ∃ c, phc hc = c + 1 ∧ pHh hc Hh A c = A := by
  by_cases h : hc = 5
  · exact ⟨4, by rw [phc, if_pos h], by rw [pHh, if_pos h]; exact if_pos rfl⟩
  · exact ⟨hc, by rw [phc, if_neg h], by rw [pHh, if_neg h]; exact if_pos rfl⟩
theorem ul_in0 (A : AS) (x : Int32) : ∀ n, ∃ j, (j < n ∨ j = 0) ∧ (ulF A x n).1 = x + nI j
  | 0 => ⟨0, Or.inr rfl, (Int32.add_zero x).symm⟩
  | n + 1 => by
    rw [ulF]
    split
    · exact ⟨n, Or.inl (Nat.lt_succ_self n), rfl⟩
    · obtain ⟨j, h, e⟩ := ul_in0 A x n
      exact ⟨j, by omega, e⟩
theorem ul_in (A : AS) (x : Int32) {n : Nat} (h1 : 1 ≤ n) : ∃ j, j < n ∧ (ulF A x n).1 = x + nI j := by
  obtain ⟨j, h, e⟩ := ul_in0 A x n
  exact ⟨j, by omega, e⟩
theorem ul_none {A : AS} (h : anv A = 0) (x : Int32) : ∀ n, 1 ≤ n → (ulF A x n).1 = x ∧ (ulF A x n).2 = 0
  | 0, h1 => absurd h1 (by decide)
  | 1, _ => by
    have e : ulF A x 1 = if msk A (x + nI 0) (anv A) < 21 then (x + nI 0, msk A (x + nI 0) (anv A)) else (x, 21) := rfl
    have e0 : msk A (x + nI 0) (anv A) = 0 := by rw [h]; rfl
    rw [e, e0, if_pos (by decide)]
    exact ⟨Int32.add_zero x, rfl⟩
  | n + 2, _ => by
    obtain ⟨a, b⟩ := ul_none h x (n + 1) (by omega)
    have e : ulF A x (n + 2) = if msk A (x + nI (n + 1)) (anv A) < (ulF A x (n + 1)).2 then (x + nI (n + 1), msk A (x + nI (n + 1)) (anv A)) else ulF A x (n + 1) := rfl
    rw [e, b, if_neg (Nat.not_lt_zero _)]
    exact ⟨a, b⟩
theorem ad_toInt {x : Int32} {j : Nat} (hx : x.toInt ≤ 2147483640) (hj : j ≤ 6) : (x + nI j).toInt = x.toInt + j := by
  rw [Int32.toInt_add, nI_toInt (by omega)]
  have h1 := x.toInt_lt
  have h2 := x.le_toInt
  rw [Int.bmod_def]
  omega
theorem ul_lt {x : Int32} {j : Nat} (hj : j ≤ 6) (h : lg_cmp (x + nI j).toInt64 x.toInt64 < 0) : ¬ x ≤ 2147483640 := by
  intro hx
  have hx : x.toInt ≤ 2147483640 := by
    have := Int32.le_iff_toInt_le.mp hx
    exact this
  have h1 : ¬ (x + nI j).toInt64 < x.toInt64 := by
    rw [Int64.lt_iff_toInt_lt, Int32.toInt_toInt64, Int32.toInt_toInt64, ad_toInt hx hj]
    omega
  unfold lg_cmp at h
  by_cases c : (x + nI j).toInt64 > x.toInt64
  · rw [if_pos c] at h; exact absurd h (by decide)
  · rw [if_neg c] at h
    by_cases c2 : (x + nI j).toInt64 = x.toInt64
    · rw [if_pos c2] at h; exact absurd h (by decide)
    · rcases Int64.lt_or_lt_of_ne c2 with g | g
      · exact h1 g
      · exact c g
theorem ul_gt {x : Int32} {j : Nat} (hj : j ≤ 5) (h : 0 < lg_cmp (x + nI j).toInt64 (x.toInt64 + 5)) : ¬ x ≤ 2147483640 := by
  intro hx
  have hx : x.toInt ≤ 2147483640 := by
    have := Int32.le_iff_toInt_le.mp hx
    exact this
  have h2 := x.le_toInt
  have h1 : ¬ (x + nI j).toInt64 > x.toInt64 + 5 := by
    show ¬ x.toInt64 + 5 < (x + nI j).toInt64
    rw [Int64.lt_iff_toInt_lt, Int64.toInt_add, Int32.toInt_toInt64, Int32.toInt_toInt64, ad_toInt hx (by omega)]
    rw [show (5 : Int64).toInt = 5 from by decide, Int.bmod_def]
    omega
  unfold lg_cmp at h
  rw [if_neg h1] at h
  split at h
  · exact absurd h (by decide)
  · exact absurd h (by decide)
/-! the mean -/
theorem mn_two {A : AS} : ∀ t, ∃ P Q, mnS A t = nI P - nI Q ∧ P ≤ 4 * anq A * t ∧ Q ≤ anq A * t
  | 0 => ⟨0, 0, rfl, Nat.zero_le _, Nat.zero_le _⟩
  | t + 1 => by
    obtain ⟨P, Q, e, hP, hQ⟩ := mn_two (A := A) t
    have hc := cRW_le (amk A t) (vK A (asv A t)) (anq A)
    have hc : shR A t + shW A t ≤ anq A := hc
    have e1 : mnS A (t + 1) = mnS A t + (nI (4 * shR A t) - nI (shW A t)) := rfl
    refine ⟨P + 4 * shR A t, Q + shW A t, ?_, ?_, ?_⟩
    · rw [e1, e, ← nI_add, ← nI_add, Int32.sub_eq_add_neg, Int32.sub_eq_add_neg, Int32.sub_eq_add_neg, Int32.neg_add, Int32.sub_eq_add_neg]
      rw [Int32.add_assoc, Int32.add_assoc, ← Int32.add_assoc (-nI Q), Int32.add_comm (-nI Q) (nI (4 * shR A t)), Int32.add_assoc]
    · rw [Nat.mul_succ]; omega
    · rw [Nat.mul_succ]; omega
def mB (x n : Int32) (k : Nat) : Bool := !(decide (Op.cmpValue (FP.fcmp (FP.fdiv (FP.i2f x) (FP.i2f (nI k))) (FP.i2f (-n))) .l < 0))
theorem mB_pos : ∀ k, k < 7 → ∀ D, D < 337 → (k == 0 || (List.range 15).all (fun n => mB (nI D) (nI n) k)) = true := by decide +kernel
theorem mB_neg : ∀ k, k < 7 → ∀ n, n < 15 → ∀ D, D < 85 → (k == 0 || decide (n * k < D) || mB (-(nI D)) (nI n) k) = true := by decide +kernel
theorem mn_ok {A : AS} (h1 : 1 ≤ ans A) (h6 : ans A ≤ 6) (h14 : anq A ≤ 14) : ¬ (Op.cmpValue (FP.fcmp (mnF A) (FP.i2f (-(nI (anq A))))) .l < 0) := by
  obtain ⟨P, Q, e, hP, hQ⟩ := mn_two (A := A) (ans A)
  have hmn : mnF A = FP.fdiv (FP.i2f (mnS A (ans A))) (FP.i2f (nI (ans A))) := if_neg (by omega)
  have hP2 : P ≤ 336 := Nat.le_trans hP (Nat.le_trans (Nat.mul_le_mul (Nat.mul_le_mul_left 4 h14) h6) (by decide))
  have hQ2 : Q ≤ 84 := Nat.le_trans hQ (Nat.le_trans (Nat.mul_le_mul h14 h6) (by decide))
  have key : mB (mnS A (ans A)) (nI (anq A)) (ans A) = true := by
    rw [e]
    rcases Nat.lt_or_ge P Q with c | c
    · have h2 := mB_neg (ans A) (by omega) (anq A) (by omega) (Q - P) (by omega)
      rw [show (ans A == 0) = false from beq_false_of_ne (by omega), decide_eq_false (by omega), Bool.false_or, Bool.false_or] at h2
      rw [show nI P - nI Q = -(nI (Q - P)) by rw [← xI_sub (Nat.le_of_lt c), Int32.neg_sub]]
      exact h2
    · have h2 := mB_pos (ans A) (by omega) (P - Q) (by omega)
      rw [show (ans A == 0) = false from beq_false_of_ne (by omega), Bool.false_or] at h2
      rw [xI_sub c]
      exact List.all_eq_true.mp h2 (anq A) (List.mem_range.mpr (by omega))
  rw [hmn]
  unfold mB at key
  rw [Bool.not_eq_true', decide_eq_false_iff_not] at key
  exact key

