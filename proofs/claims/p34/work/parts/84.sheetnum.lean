/-! ===== numbers of sheets: by questions as by places; ranks; what is answered how often ===== -/
theorem cR_sm (m : Nat → Option Nat) (K : Nat → Nat) : ∀ (n : Nat), cR m K n = sm (fun p => if m p = some (K p) then 1 else 0) n
  | 0 => rfl
  | n + 1 => by rw [cR, cR_sm m K n, sm]
theorem cW_sm (m : Nat → Option Nat) (K : Nat → Nat) : ∀ (n : Nat), cW m K n = sm (fun p => if m p ≠ none ∧ m p ≠ some (K p) then 1 else 0) n
  | 0 => rfl
  | n + 1 => by rw [cW, cW_sm m K n, sm]
theorem pk_at {A : AS} {s p : Nat} (hp : p < anq A) : pkA A s (vO A (asv A s) p) = pkI (vC A (asv A s) p) (amk A s p) := by
  unfold pkA
  rw [show plf (vO A (asv A s)) (vO A (asv A s) p) (anq A) = p from plf_eq (Od_en (anq A) (aqd A) (asd A (asv A s))) hp]
theorem aqd5 {A : AS} {q : Nat} (hV : AV A) (hq : q < anq A) : aqd A q 4 ≤ 5 ∧ aqd A q 1 < aqd A q 4 ∧ aqd A q 3 ≤ 5 ∧ aqd A q 2 < 2 ^ aqd A q 4 ∧ 2 ≤ aqd A q 4 ∧ 1 ≤ aqd A q 0 ∧ aqd A q 0 ≤ 9 := by
  obtain ⟨a, b, c, d, e, f, g⟩ := hV.1.2 q hq
  exact ⟨d, e, g, f, c, a, b⟩
theorem m1_nI {k : Nat} (hk : k < 1000) : (-1 : Int32) ≠ nI k := fun h => mk_m1 k hk h.symm
theorem none_nI {k : Nat} (hk : k < 10000) : (-1009 : Int32) ≠ nI k := fun h => by
  have := congrArg Int32.toInt h
  rw [nI_toInt (by omega)] at this
  have e : (-1009 : Int32).toInt = -1009 := by decide
  rw [e] at this
  omega
/-- a mark is right, wrong, or none: by the question as by the place -/
theorem pk_right {A : AS} {s p : Nat} (hV : AV A) (hs : s < ans A) (hp : p < anq A) : (pkA A s (vO A (asv A s) p) = nI (aqd A (vO A (asv A s) p) 1) ↔ amk A s p = some (vK A (asv A s) p)) ∧ (pkA A s (vO A (asv A s) p) = -1 ↔ amk A s p = none) := by
  have hq := vO_lt (v := asv A s) hp
  have h5 := aqd5 hV hq
  rw [pk_at hp]
  cases hm : amk A s p with
  | none =>
    refine ⟨⟨fun h => absurd h (m1_nI (by omega)), fun h => by cases h⟩, ⟨fun _ => rfl, fun _ => rfl⟩⟩
  | some k =>
    have hk := (hV.2.2.2.2.2 s hs).2 p hp k hm
    have hc := vC_lt hk
    refine ⟨⟨fun h => ?_, fun h => ?_⟩, ⟨fun h => absurd h.symm (m1_nI (by omega)), fun h => by cases h⟩⟩
    · have h : nI (vC A (asv A s) p k) = nI (aqd A (vO A (asv A s) p) 1) := h
      have e := (nI_eq (by omega) (by omega)).mp h
      rw [(vK_iff hV hp hk).mp e]
    · cases h
      show nI (vC A (asv A s) p (vK A (asv A s) p)) = _
      rw [(vK_iff hV hp hk).mpr rfl]
theorem pkq_in {A : AS} {s q : Nat} (hV : AV A) (hs : s < ans A) (hq : q < anq A) : pkA A s q = -1 ∨ ∃ c, c < aqd A q 4 ∧ pkA A s q = nI c := by
  obtain ⟨p, hp, e⟩ := (Od_en (anq A) (aqd A) (asd A (asv A s))).2.1 q hq
  have e : vO A (asv A s) p = q := e
  rw [← e, pk_at hp]
  cases hm : amk A s p with
  | none => exact Or.inl rfl
  | some k => exact Or.inr ⟨_, vC_lt ((hV.2.2.2.2.2 s hs).2 p hp k hm), rfl⟩
def rtF (A : AS) (s : Nat) : Nat → Nat
  | 0 => 0
  | q + 1 => rtF A s q + (if pkA A s q = nI (aqd A q 1) then 1 else 0)
theorem rtF_sm (A : AS) (s : Nat) : ∀ n, rtF A s n = sm (fun q => if pkA A s q = nI (aqd A q 1) then 1 else 0) n
  | 0 => rfl
  | n + 1 => by rw [rtF, rtF_sm A s n, sm]
theorem swF_sm (A : AS) (s : Nat) : ∀ n, swF A s s n = sm (fun q => if pkA A s q ≠ -1 ∧ pkA A s q ≠ nI (aqd A q 1) then 1 else 0) n
  | 0 => rfl
  | n + 1 => by
    rw [swF, sm, swF_sm A s n]
    by_cases h : pkA A s n ≠ -1 ∧ pkA A s n ≠ nI (aqd A n 1)
    · rw [if_pos ⟨h.1, rfl, h.2⟩, if_pos h]
    · rw [if_neg (fun g => h ⟨g.1, g.2.2⟩), if_neg h]; rfl
theorem rt_eq {A : AS} {s : Nat} (hV : AV A) (hs : s < ans A) : rtF A s (anq A) = shR A s := by
  have hO : En (vO A (asv A s)) (anq A) (fun q => q < anq A) := Od_en (anq A) (aqd A) (asd A (asv A s))
  rw [rtF_sm, sm_perm hO]
  unfold shR
  rw [cR_sm]
  refine sm_congr (fun p hp => ?_)
  have h := (pk_right hV hs hp).1
  by_cases c : amk A s p = some (vK A (asv A s) p)
  · rw [if_pos c, if_pos (h.mpr c)]
  · rw [if_neg c, if_neg (fun g => c (h.mp g))]
theorem wr_eq {A : AS} {s : Nat} (hV : AV A) (hs : s < ans A) : swF A s s (anq A) = shW A s := by
  have hO : En (vO A (asv A s)) (anq A) (fun q => q < anq A) := Od_en (anq A) (aqd A) (asd A (asv A s))
  rw [swF_sm, sm_perm hO]
  unfold shW
  rw [cW_sm]
  refine sm_congr (fun p hp => ?_)
  obtain ⟨h, h'⟩ := pk_right hV hs hp
  by_cases c : amk A s p ≠ none ∧ amk A s p ≠ some (vK A (asv A s) p)
  · rw [if_pos c, if_pos ⟨fun g => c.1 (h'.mp g), fun g => c.2 (h.mp g)⟩]
  · rw [if_neg c, if_neg (fun g => c ⟨fun e => g.1 (h'.mpr e), fun e => g.2 (h.mpr e)⟩)]
/-! counting sheets by their choice of a question -/
theorem eqc_two {f : Nat → Int32} {x y : Int32} (hxy : x ≠ y) : ∀ n, eqc f x n + eqc f y n ≤ n ∧ (eqc f x n + eqc f y n = n ↔ ∀ t, t < n → f t = x ∨ f t = y)
  | 0 => ⟨Nat.le_refl _, fun _ t ht => absurd ht (Nat.not_lt_zero t), fun _ => rfl⟩
  | n + 1 => by
    obtain ⟨h1, h2⟩ := eqc_two (f := f) hxy n
    rw [eqc, eqc]
    by_cases c : f n = x
    · rw [if_pos c, if_neg (fun e => hxy (c.symm.trans e))]
      refine ⟨by omega, fun h t ht => ?_, fun h => ?_⟩
      · rcases Nat.lt_succ_iff_lt_or_eq.mp ht with a | a
        · exact h2.mp (by omega) t a
        · subst a; exact Or.inl c
      · have := h2.mpr (fun t ht => h t (by omega))
        omega
    · rw [if_neg c]
      by_cases c2 : f n = y
      · rw [if_pos c2]
        refine ⟨by omega, fun h t ht => ?_, fun h => ?_⟩
        · rcases Nat.lt_succ_iff_lt_or_eq.mp ht with a | a
          · exact h2.mp (by omega) t a
          · subst a; exact Or.inr c2
        · have := h2.mpr (fun t ht => h t (by omega))
          omega
      · rw [if_neg c2]
        refine ⟨by omega, fun h => by omega, fun h => ?_⟩
        rcases h n (Nat.lt_succ_self n) with g | g
        · exact absurd g c
        · exact absurd g c2
theorem eqc_no {f : Nat → Int32} {x : Int32} : ∀ n, eqc f x n = 0 ↔ ∀ t, t < n → f t ≠ x
  | 0 => ⟨fun _ t ht => absurd ht (Nat.not_lt_zero t), fun _ => rfl⟩
  | n + 1 => by
    rw [eqc]
    by_cases c : f n = x
    · rw [if_pos c]
      exact ⟨fun h => by omega, fun h => absurd c (h n (Nat.lt_succ_self n))⟩
    · rw [if_neg c, Nat.add_zero, eqc_no n]
      refine ⟨fun h t ht => ?_, fun h t ht => h t (by omega)⟩
      rcases Nat.lt_succ_iff_lt_or_eq.mp ht with a | a
      · exact h t a
      · subst a; exact c
theorem fv_spec (P : Nat → Nat) (r : Nat) : ∀ c, ((fvF P r c).2 = -1009 ∧ (fvF P r c).1 = 0 ∧ ∀ k, k < c → k ≠ r → P k = 0) ∨ (∃ k, k < c ∧ k ≠ r ∧ (fvF P r c).2 = nI k ∧ 0 < P k)
  | 0 => Or.inl ⟨rfl, rfl, fun k hk => absurd hk (Nat.not_lt_zero k)⟩
  | c + 1 => by
    have e : fvF P r (c + 1) = if c ≠ r ∧ (fvF P r c).1 < P c then (P c, nI c) else fvF P r c := rfl
    by_cases h : c ≠ r ∧ (fvF P r c).1 < P c
    · rw [e, if_pos h]
      exact Or.inr ⟨c, Nat.lt_succ_self c, h.1, rfl, by omega⟩
    · rw [e, if_neg h]
      rcases fv_spec P r c with ⟨a, b, d⟩ | ⟨k, hk, hr, hv, hp⟩
      · refine Or.inl ⟨a, b, fun k hk hr => ?_⟩
        rcases Nat.lt_succ_iff_lt_or_eq.mp hk with g | g
        · exact d k g hr
        · subst g
          have : ¬ (fvF P r k).1 < P k := fun g => h ⟨hr, g⟩
          omega
      · exact Or.inr ⟨k, by omega, hr, hv, hp⟩
theorem ab_sum {A : AS} {q : Nat} (hV : AV A) (hq : q < anq A) : abF A q 0 + abF A q 1 + abF A q 2 = nI (ans A) := by
  have e0 : abF A q 0 = nI (abP A q (nI (aqd A q 1))) := rfl
  have e1 : abF A q 1 = nI (ans A) - nI (abP A q (nI (aqd A q 1))) - nI (abP A q (-1)) := rfl
  have e2 : abF A q 2 = nI (abP A q (-1)) := rfl
  have h := (eqc_two (f := fun t => pkA A t q) (m1_nI (k := aqd A q 1) (by have := aqd5 hV hq; omega)).symm (ans A)).1
  have h : abP A q (nI (aqd A q 1)) + abP A q (-1) ≤ ans A := h
  rw [e0, e1, e2, xI_sub (by omega), xI_sub (by omega), nI_add, nI_add]
  congr 1
  omega
theorem ab_none {A : AS} {q : Nat} (hV : AV A) (hq : q < anq A) : abF A q 3 = -1009 ↔ abF A q 1 = 0 := by
  have e1 : abF A q 1 = nI (ans A) - nI (abP A q (nI (aqd A q 1))) - nI (abP A q (-1)) := rfl
  have e3 : abF A q 3 = (fvF (fun c => abP A q (nI c)) (aqd A q 1) (aqd A q 4)).2 := rfl
  have h5 := aqd5 hV hq
  have hn := hV.2.2.2.2.1
  obtain ⟨h, h'⟩ := eqc_two (f := fun t => pkA A t q) (m1_nI (k := aqd A q 1) (by omega)).symm (ans A)
  have h : abP A q (nI (aqd A q 1)) + abP A q (-1) ≤ ans A := h
  have h' : abP A q (nI (aqd A q 1)) + abP A q (-1) = ans A ↔ ∀ t, t < ans A → pkA A t q = nI (aqd A q 1) ∨ pkA A t q = -1 := h'
  have ez : abF A q 1 = 0 ↔ abP A q (nI (aqd A q 1)) + abP A q (-1) = ans A := by
    rw [e1, xI_sub (by omega), xI_sub (by omega), ← nI_0, nI_eq (by omega) (by decide)]
    omega
  rw [ez, h', e3]
  rcases fv_spec (fun c => abP A q (nI c)) (aqd A q 1) (aqd A q 4) with ⟨a, -, d⟩ | ⟨k, hk, hr, hv, hp⟩
  · refine ⟨fun _ t ht => ?_, fun _ => a⟩
    rcases pkq_in hV ht hq with g | ⟨c, hc, g⟩
    · exact Or.inr g
    · by_cases e : c = aqd A q 1
      · rw [g, e]; exact Or.inl rfl
      · exact absurd g ((eqc_no _).mp (d c hc e) t ht)
  · refine ⟨fun h => ?_, fun h => ?_⟩
    · rw [hv] at h
      exact absurd h.symm (none_nI (by omega))
    · exfalso
      have : abP A q (nI k) = 0 := (eqc_no _).mpr (fun t ht e => by
        rcases h t ht with g | g
        · have e : pkA A t q = nI k := e
          exact hr ((nI_eq (by omega) (by omega)).mp (e.symm.trans g))
        · have e : pkA A t q = nI k := e
          exact absurd (g.symm.trans e) (m1_nI (by omega)))
      have hp : 0 < abP A q (nI k) := hp
      omega
theorem ab_wrong {A : AS} {q : Nat} (hV : AV A) (hq : q < anq A) : abF A q 3 ≠ nI (aqd A q 1) := by
  have e3 : abF A q 3 = (fvF (fun c => abP A q (nI c)) (aqd A q 1) (aqd A q 4)).2 := rfl
  have h5 := aqd5 hV hq
  rw [e3]
  rcases fv_spec (fun c => abP A q (nI c)) (aqd A q 1) (aqd A q 4) with ⟨a, -, d⟩ | ⟨k, hk, hr, hv, hp⟩
  · rw [a]; exact none_nI (by omega)
  · rw [hv]
    intro e
    exact hr ((nI_eq (by omega) (by omega)).mp e)
/-! the better and the worse half -/
theorem eqc_mono (P : Nat → Int32) (x : Int32) : ∀ (d k : Nat), eqc P x k ≤ eqc P x (k + d)
  | 0, k => Nat.le_refl _
  | d + 1, k => by rw [← Nat.add_assoc, eqc]; exact Nat.le_trans (eqc_mono P x d k) (Nat.le_add_right _ _)
theorem eqc_up {P : Nat → Int32} {x : Int32} {t n : Nat} (h : P t = x) (ht : t < n) : eqc P x t + 1 ≤ eqc P x n := by
  have h1 := eqc_mono P x (n - (t + 1)) (t + 1)
  rw [show t + 1 + (n - (t + 1)) = n by omega, eqc, if_pos h] at h1
  exact h1
theorem rk_two {P : Nat → Int32} {x y : Int32} (hxy : y < x) : ∀ n, rk P x n + eqc P x n ≤ rk P y n
  | 0 => Nat.le_refl _
  | n + 1 => by
    have h := rk_two (P := P) hxy n
    rw [rk, rk, eqc]
    by_cases c : x < P n
    · rw [if_pos c, if_pos (Int32.lt_trans hxy c), if_neg (fun e => by rw [e] at c; exact Int32.lt_irrefl c)]; omega
    · rw [if_neg c]
      by_cases c2 : P n = x
      · rw [if_pos c2, if_pos (by rw [c2]; exact hxy)]; omega
      · rw [if_neg c2]; omega
theorem rk_eq_le (P : Nat → Int32) (x : Int32) : ∀ n, rk P x n + eqc P x n ≤ n
  | 0 => Nat.le_refl _
  | n + 1 => by
    have h := rk_eq_le P x n
    rw [rk, eqc]
    by_cases c : x < P n
    · rw [if_pos c, if_neg (fun e => by rw [e] at c; exact Int32.lt_irrefl c)]; omega
    · rw [if_neg c]
      by_cases c2 : P n = x
      · rw [if_pos c2]; omega
      · rw [if_neg c2]; omega
theorem prS_lt {A : AS} {t : Nat} (ht : t < ans A) : prS A t < ans A := by
  have h1 := eqc_up (P := ptA A) (x := ptA A t) rfl ht
  have h2 := rk_eq_le (ptA A) (ptA A t) (ans A)
  unfold prS
  omega
theorem prS_ne {A : AS} {t u : Nat} (ht : t < ans A) (hu : u < ans A) (hlt : t < u) : prS A t ≠ prS A u := by
  unfold prS
  rcases Int32.lt_or_lt_of_ne (a := ptA A t) (b := ptA A u) |> fun f => (Classical.em (ptA A t = ptA A u)).imp id f with e | e | e
  · have := eqc_up (P := ptA A) (x := ptA A u) e hlt
    rw [e]; omega
  · have h1 := rk_two (P := ptA A) e (ans A)
    have h2 := eqc_up (P := ptA A) (x := ptA A u) rfl hu
    omega
  · have h1 := rk_two (P := ptA A) e (ans A)
    have h2 := eqc_up (P := ptA A) (x := ptA A t) rfl ht
    omega
theorem sm_inj1 {g : Nat → Nat} {n c : Nat} (hg : ∀ t u, t < u → u < n → g t ≠ g u) : sm (fun t => ind (g t = c)) n ≤ 1 := by
  by_cases h : ∃ t, t < n ∧ g t = c
  · have := ind_ex (T := fun t => g t = c) (n := n) (fun r r' h1 h2 e1 e2 => by
      rcases Nat.lt_trichotomy r r' with a | a | a
      · exact absurd (e1.trans e2.symm) (hg r r' a h2)
      · exact a
      · exact absurd (e2.trans e1.symm) (hg r' r a h1))
    rw [← this, ind_t h]
    exact Nat.le_refl _
  · have : sm (fun t => ind (g t = c)) n = sm (fun _ => 0) n := sm_congr (fun t ht => ind_f (fun e => h ⟨t, ht, e⟩))
    rw [this, sm_zero]; omega
theorem sm_inj {g : Nat → Nat} {n a : Nat} (hg : ∀ t u, t < u → u < n → g t ≠ g u) : ∀ h, sm (fun t => ind (a ≤ g t ∧ g t < a + h)) n ≤ h
  | 0 => by
    have : sm (fun t => ind (a ≤ g t ∧ g t < a + 0)) n = sm (fun _ => 0) n := sm_congr (fun t ht => ind_f (fun e => by omega))
    rw [this, sm_zero]; omega
  | h + 1 => by
    have e : sm (fun t => ind (a ≤ g t ∧ g t < a + (h + 1))) n = sm (fun t => ind (a ≤ g t ∧ g t < a + h) + ind (g t = a + h)) n := by
      refine sm_congr (fun t ht => ?_)
      by_cases c : g t = a + h
      · rw [ind_t ⟨by omega, by omega⟩, ind_f (fun q => by omega), ind_t c]
      · by_cases c2 : a ≤ g t ∧ g t < a + h
        · rw [ind_t ⟨c2.1, by omega⟩, ind_t c2, ind_f c]
        · rw [ind_f (fun q => c2 ⟨q.1, by omega⟩), ind_f c2, ind_f c]
    rw [e, sm_add]
    have h1 := sm_inj (a := a) hg h
    have h2 := sm_inj1 (c := a + h) hg
    omega
theorem prD_two {A : AS} {q : Nat} : ∀ t, ∃ a b, prD A q t = nI a - nI b ∧ a ≤ sm (fun t => ind (0 ≤ prS A t ∧ prS A t < 0 + ans A / 2)) t ∧ b ≤ sm (fun t => ind (ans A - ans A / 2 ≤ prS A t)) t
  | 0 => ⟨0, 0, rfl, Nat.le_refl _, Nat.le_refl _⟩
  | t + 1 => by
    obtain ⟨a, b, e, ha, hb⟩ := prD_two (A := A) (q := q) t
    have e1 : prD A q (t + 1) = if pkA A t q = nI (aqd A q 1) then prD A q t + (if prS A t < ans A / 2 then 1 else 0) - (if ans A - ans A / 2 ≤ prS A t then 1 else 0) else prD A q t := rfl
    have f1 : sm (fun t => ind (0 ≤ prS A t ∧ prS A t < 0 + ans A / 2)) (t + 1) = sm (fun t => ind (0 ≤ prS A t ∧ prS A t < 0 + ans A / 2)) t + ind (0 ≤ prS A t ∧ prS A t < 0 + ans A / 2) := rfl
    have f2 : sm (fun t => ind (ans A - ans A / 2 ≤ prS A t)) (t + 1) = sm (fun t => ind (ans A - ans A / 2 ≤ prS A t)) t + ind (ans A - ans A / 2 ≤ prS A t) := rfl
    rw [e1, f1, f2]
    by_cases c : pkA A t q = nI (aqd A q 1)
    · rw [if_pos c, e]
      have key : ∀ i j : Nat, nI a - nI b + nI i - nI j = nI (a + i) - nI (b + j) := by
        intro i j
        rw [← nI_add, ← nI_add, Int32.sub_eq_add_neg, Int32.sub_eq_add_neg, Int32.sub_eq_add_neg, Int32.neg_add, Int32.sub_eq_add_neg]
        rw [Int32.add_assoc, Int32.add_assoc, Int32.add_assoc, ← Int32.add_assoc (-nI b), Int32.add_comm (-nI b) (nI i), Int32.add_assoc]
      refine ⟨a + (if prS A t < ans A / 2 then 1 else 0), b + (if ans A - ans A / 2 ≤ prS A t then 1 else 0), ?_, ?_, ?_⟩
      · rw [← key]
        congr 1
        · congr 1
          split <;> rfl
        · split <;> rfl
      · split
        · rename_i g; rw [ind_t ⟨Nat.zero_le _, by omega⟩]; omega
        · omega
      · split
        · rename_i g; rw [ind_t g]; omega
        · omega
    · rw [if_neg c]
      exact ⟨a, b, e, by omega, by omega⟩
theorem prD_in {A : AS} {q : Nat} : ∃ a b, prD A q (ans A) = nI a - nI b ∧ a ≤ ans A / 2 ∧ b ≤ ans A / 2 := by
  obtain ⟨a, b, e, ha, hb⟩ := prD_two (A := A) (q := q) (ans A)
  have hg : ∀ t u, t < u → u < ans A → prS A t ≠ prS A u := fun t u h1 h2 => prS_ne (by omega) h2 h1
  have h1 := sm_inj (a := 0) hg (ans A / 2)
  have h2 := sm_inj (a := ans A - ans A / 2) hg (ans A / 2)
  have e2 : sm (fun t => ind (ans A - ans A / 2 ≤ prS A t)) (ans A) = sm (fun t => ind (ans A - ans A / 2 ≤ prS A t ∧ prS A t < ans A - ans A / 2 + ans A / 2)) (ans A) := by
    refine sm_congr (fun t ht => ?_)
    have := prS_lt ht
    by_cases c : ans A - ans A / 2 ≤ prS A t
    · rw [ind_t c, ind_t ⟨c, by omega⟩]
    · rw [ind_f c, ind_f (fun g => c g.1)]
  exact ⟨a, b, e, by omega, by omega⟩
/-! the pair of sheets -/
theorem sp_code {A : AS} (hV : AV A) (s : Nat) (b : Int32 × Int32) (hs : s < ans A) (hb : b = (-1009, -1) ∨ ∃ i j w, i < j ∧ j < ans A ∧ b = (nI (100 * i + j), nI w)) : ∀ k, k ≤ ans A - (s + 1) → (suI A s b k = (-1009, -1) ∧ k = 0) ∨ ∃ i j w, i < j ∧ j < ans A ∧ suI A s b k = (nI (100 * i + j), nI w) := by
  have hm : ∀ w : Nat, w ≤ 20 → (-1 : Int32) < nI w := by decide
  intro k
  induction k with
  | zero =>
    intro _
    rcases hb with e | e
    · exact Or.inl ⟨e, rfl⟩
    · exact Or.inr e
  | succ k ih =>
    intro hk
    have e : suI A s b (k + 1) = if (suI A s b k).2 < nI (swF A s (s + 1 + k) (anq A)) then (100 * nI s + nI (s + 1 + k), nI (swF A s (s + 1 + k) (anq A))) else suI A s b k := rfl
    have e100 : 100 * nI s + nI (s + 1 + k) = nI (100 * s + (s + 1 + k)) := by rw [show (100 : Int32) = nI 100 from rfl, pk_mul, nI_add]
    by_cases c : (suI A s b k).2 < nI (swF A s (s + 1 + k) (anq A))
    · rw [e, if_pos c, e100]
      exact Or.inr ⟨s, s + 1 + k, _, by omega, by omega, rfl⟩
    · rw [e, if_neg c]
      rcases ih (by omega) with ⟨e2, -⟩ | h
      · exfalso
        rw [e2] at c
        refine c ?_
        have h1 := swF_le A s (s + 1 + k) (anq A)
        have h2 := hV.1.1
        exact hm _ (by omega)
      · exact Or.inr h
theorem sp_pair {A : AS} (hV : AV A) : ∀ s, s ≤ ans A → (suO A s = (-1009, -1) ∧ (s = 0 ∨ ans A ≤ 1)) ∨ ∃ i j w, i < j ∧ j < ans A ∧ suO A s = (nI (100 * i + j), nI w)
  | 0, _ => Or.inl ⟨rfl, Or.inl rfl⟩
  | s + 1, hs => by
    have e : suO A (s + 1) = suI A s (suO A s) (ans A - (s + 1)) := rfl
    rw [e]
    have h0 := sp_pair hV s (by omega)
    rcases sp_code hV s (suO A s) (by omega) (h0.imp (fun q => q.1) id) (ans A - (s + 1)) (Nat.le_refl _) with ⟨e2, e3⟩ | h
    · left
      refine ⟨e2, Or.inr ?_⟩
      rcases h0 with ⟨-, q | q⟩ | ⟨i, j, w, h1, h2, h3⟩
      · omega
      · exact q
      · exfalso
        have e4 : suI A s (suO A s) (ans A - (s + 1)) = suO A s := by rw [e3]; rfl
        rw [e4, h3] at e2
        have := congrArg Prod.fst e2
        have h20 := hV.2.2.2.2.1
        exact none_nI (by omega) this.symm
    · exact Or.inr h

