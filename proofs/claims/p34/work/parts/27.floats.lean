/-! ===== floats: what is no number comes of no number ===== -/
def fokd (f : FP.Core.Fmt) (d : FP.Core.Datum) : Prop := (∃ s, d = .inf s) ∨ ∃ s c q, d = .fin s c q ∧ c < 2 ^ f.p ∧ f.qmin ≤ q ∧ q ≤ f.qmax
theorem fok_rr {f : FP.Core.Fmt} (h1 : f.qmin ≤ f.qmax) (h2 : f.tails < 2 ^ f.p) (s : Bool) (a b : Nat) (e : Int) : fokd f (FP.Core.roundRatio f s a b e) := by
  have bd : ∀ c q, c < 2 ^ f.p → f.qmin ≤ q → fokd f (FP.Core.bound f s c q) := by
    intro c q hc hq
    unfold FP.Core.bound
    by_cases h : q ≤ f.qmax
    · rw [if_pos h]; exact Or.inr ⟨s, c, q, rfl, hc, hq, h⟩
    · rw [if_neg h]; exact Or.inl ⟨s, rfl⟩
  unfold FP.Core.roundRatio
  by_cases h : a = 0
  · rw [if_pos h]; exact Or.inr ⟨s, 0, _, rfl, by omega, Int.le_refl _, h1⟩
  · rw [if_neg h]
    have hq : f.qmin ≤ FP.Core.quantum f a b e := Int.le_max_left _ _
    generalize FP.Core.quantum f a b e = q at hq
    unfold FP.Core.roundAt
    generalize FP.Core.nearest _ _ = c
    unfold FP.Core.settle
    by_cases h3 : c < 2 ^ f.p
    · rw [if_pos h3]; exact bd c q h3 hq
    · rw [if_neg h3]; exact bd _ _ h2 (by omega)
theorem fok_round {f : FP.Core.Fmt} (h1 : f.qmin ≤ f.qmax) (h2 : f.tails < 2 ^ f.p) {d : FP.Core.Datum} (h : d ≠ .nan) : fokd f (FP.Core.round f d) := by
  cases d with
  | nan => exact absurd rfl h
  | inf s => exact Or.inl ⟨s, rfl⟩
  | fin s c q => exact fok_rr h1 h2 _ _ _ _
theorem fok_quot {f : FP.Core.Fmt} (h1 : f.qmin ≤ f.qmax) (h2 : f.tails < 2 ^ f.p) {x : FP.Core.Datum} (h : x ≠ .nan) {t : Bool} {d : Nat} {r : Int} (hd : d ≠ 0) : fokd f (FP.Core.quotient f x (.fin t d r)) := by
  cases x with
  | nan => exact absurd rfl h
  | inf s => exact Or.inl ⟨_, rfl⟩
  | fin s c q =>
    unfold FP.Core.quotient
    dsimp only
    rw [if_neg hd]
    exact fok_rr h1 h2 _ _ _ _
theorem fok_32 {d : FP.Core.Datum} (h : fokd FP.Core.b32 d) : ∃ (s e t : Nat), FP.Core.encode FP.Core.b32 d = (s * 256 + e) * 8388608 + t ∧ s ≤ 1 ∧ t < 8388608 ∧ (e ≤ 254 ∨ (e = 255 ∧ t = 0)) := by
  rcases h with ⟨s, rfl⟩ | ⟨s, c, q, rfl, hc, hq, hq2⟩
  · exact ⟨s.toNat, 255, 0, rfl, by cases s <;> decide, by decide, Or.inr ⟨rfl, rfl⟩⟩
  · have h1 : FP.Core.b32.tails = 8388608 := by decide
    have h2 : (2 : Nat) ^ FP.Core.b32.p = 16777216 := by decide
    have h3 : FP.Core.b32.qmin = -149 := by decide
    have h4 : FP.Core.b32.qmax = 104 := by decide
    have h5 : FP.Core.b32.exps = 256 := by decide
    have hs : s.toNat ≤ 1 := by cases s <;> decide
    rw [h2] at hc
    rw [h3] at hq
    rw [h4] at hq2
    unfold FP.Core.encode FP.Core.assemble
    rw [h1, h3, h5]
    dsimp only
    by_cases hlt : c < 8388608
    · rw [if_pos hlt]
      exact ⟨s.toNat, 0, c, rfl, hs, hlt, Or.inl (by decide)⟩
    · rw [if_neg hlt]
      exact ⟨s.toNat, (q - -149).toNat + 1, c - 8388608, rfl, hs, by omega, Or.inl (by omega)⟩
theorem fok_64 {d : FP.Core.Datum} (h : fokd FP.Core.b64 d) : ∃ (s e t : Nat), FP.Core.encode FP.Core.b64 d = (s * 2048 + e) * 4503599627370496 + t ∧ s ≤ 1 ∧ t < 4503599627370496 ∧ (e ≤ 2046 ∨ (e = 2047 ∧ t = 0)) := by
  rcases h with ⟨s, rfl⟩ | ⟨s, c, q, rfl, hc, hq, hq2⟩
  · exact ⟨s.toNat, 2047, 0, rfl, by cases s <;> decide, by decide, Or.inr ⟨rfl, rfl⟩⟩
  · have h1 : FP.Core.b64.tails = 4503599627370496 := by decide
    have h2 : (2 : Nat) ^ FP.Core.b64.p = 9007199254740992 := by decide
    have h3 : FP.Core.b64.qmin = -1074 := by decide
    have h4 : FP.Core.b64.qmax = 971 := by decide
    have h5 : FP.Core.b64.exps = 2048 := by decide
    have hs : s.toNat ≤ 1 := by cases s <;> decide
    rw [h2] at hc
    rw [h3] at hq
    rw [h4] at hq2
    unfold FP.Core.encode FP.Core.assemble
    rw [h1, h3, h5]
    dsimp only
    by_cases hlt : c < 4503599627370496
    · rw [if_pos hlt]
      exact ⟨s.toNat, 0, c, rfl, hs, hlt, Or.inl (by decide)⟩
    · rw [if_neg hlt]
      exact ⟨s.toNat, (q - -1074).toNat + 1, c - 4503599627370496, rfl, hs, by omega, Or.inl (by omega)⟩
theorem fn_32 {n s e t : Nat} (h : n = (s * 256 + e) * 8388608 + t) (hs : s ≤ 1) (ht : t < 8388608) (he : e ≤ 254 ∨ (e = 255 ∧ t = 0)) : vf_n32 (UInt32.ofNat n) := by
  unfold vf_n32
  rw [UInt32.le_iff_toNat_le, UInt32.toNat_and, UInt32.toNat_ofNat']
  have h1 : (2139095040 : UInt32).toNat = 2139095040 := rfl
  have h2 : (2147483647 : UInt32).toNat = 2 ^ 31 - 1 := rfl
  rw [h1, h2, Nat.and_two_pow_sub_one_eq_mod]
  have : s = 0 ∨ s = 1 := by omega
  rcases this with rfl | rfl <;> omega
theorem fn_64 {n s e t : Nat} (h : n = (s * 2048 + e) * 4503599627370496 + t) (hs : s ≤ 1) (ht : t < 4503599627370496) (he : e ≤ 2046 ∨ (e = 2047 ∧ t = 0)) : vf_n64 (UInt64.ofNat n) := by
  unfold vf_n64
  rw [UInt64.le_iff_toNat_le, UInt64.toNat_and, UInt64.toNat_ofNat']
  have h1 : (9218868437227405312 : UInt64).toNat = 9218868437227405312 := rfl
  have h2 : (9223372036854775807 : UInt64).toNat = 2 ^ 63 - 1 := rfl
  rw [h1, h2, Nat.and_two_pow_sub_one_eq_mod]
  have : s = 0 ∨ s = 1 := by omega
  rcases this with rfl | rfl <;> omega
/-- no bits of no number: it stands for a number -/
theorem fd_32 {x : UInt32} (h : vf_n32 x) : FP.Core.decode FP.Core.b32 x.toNat ≠ .nan := by
  unfold vf_n32 at h
  rw [UInt32.le_iff_toNat_le, UInt32.toNat_and] at h
  have h1 : (2139095040 : UInt32).toNat = 2139095040 := rfl
  have h2 : (2147483647 : UInt32).toNat = 2 ^ 31 - 1 := rfl
  rw [h1, h2, Nat.and_two_pow_sub_one_eq_mod] at h
  have hx := x.toNat_lt
  generalize x.toNat = n at h hx
  unfold FP.Core.decode
  have e1 : FP.Core.fieldE FP.Core.b32 n = n / 8388608 % 256 := rfl
  have e2 : FP.Core.fieldT FP.Core.b32 n = n % 8388608 := rfl
  have e3 : FP.Core.b32.exps - 1 = 255 := by decide
  rw [e1, e2, e3]
  by_cases a : n / 8388608 % 256 = 255
  · rw [if_pos a]
    have : n % 8388608 = 0 := by omega
    rw [if_pos this]
    exact fun z => FP.Core.Datum.noConfusion z
  · rw [if_neg a]
    by_cases c : n / 8388608 % 256 = 0
    · rw [if_pos c]; exact fun z => FP.Core.Datum.noConfusion z
    · rw [if_neg c]; exact fun z => FP.Core.Datum.noConfusion z
theorem f_f2d {x : UInt32} (h : vf_n32 x) : vf_n64 (FP.f2d x) := by
  have h1 := fd_32 h
  have h2 : FP.f2d x = FP.Core.f2d x := by
    show (if FP.Core.fIsNaN x then _ else _) = _
    have : FP.Core.fIsNaN x = false := by
      show decide _ = false
      exact decide_eq_false h1
    rw [this]
    rfl
  rw [h2]
  obtain ⟨s, e, t, a, b, c, d⟩ := fok_64 (fok_round (f := FP.Core.b64) (by decide) (by decide) h1)
  exact fn_64 a b c d
theorem f_i2f (a : Int32) : vf_n32 (FP.i2f a) := by
  obtain ⟨s, e, t, a, b, c, d⟩ := fok_32 (fok_round (f := FP.Core.b32) (by decide) (by decide) (d := FP.Core.ofInt a.toInt) (fun z => FP.Core.Datum.noConfusion z))
  exact fn_32 a b c d
theorem f_div (a : Int32) {k : Nat} (h0 : k ≠ 0) (hk : k < 21) : vf_n32 (FP.fdiv (FP.i2f a) (FP.i2f (nI k))) := by
  have key : ∀ k, k < 21 → k ≠ 0 → ∃ t d r, FP.Core.decode FP.Core.b32 (FP.i2f (nI k)).toNat = .fin t d r ∧ d ≠ 0 := by
    have : ∀ k, k < 21 → k ≠ 0 → (match FP.Core.decode FP.Core.b32 (FP.i2f (nI k)).toNat with | .fin _ d _ => decide (d ≠ 0) | _ => false) = true := by decide +kernel
    intro k h1 h2
    have h3 := this k h1 h2
    generalize FP.Core.decode FP.Core.b32 (FP.i2f (nI k)).toNat = D at h3
    cases D with
    | nan => exact Bool.noConfusion h3
    | inf s => exact Bool.noConfusion h3
    | fin t d r => exact ⟨t, d, r, rfl, of_decide_eq_true h3⟩
  obtain ⟨t, d, r, e1, e2⟩ := key k hk h0
  have h1 := fd_32 (f_i2f a)
  obtain ⟨s, e, t, a, b, c, d⟩ := fok_32 (fok_quot (f := FP.Core.b32) (by decide) (by decide) h1 (t := t) (r := r) e2)
  rw [← e1] at a
  exact fn_32 a b c d

