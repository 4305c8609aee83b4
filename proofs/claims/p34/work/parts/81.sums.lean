/-! ===== sums, counts, what a permutation keeps ===== -/
def sm (f : Nat → Nat) : Nat → Nat
  | 0 => 0
  | k + 1 => sm f k + f k
theorem sm_congr {f g : Nat → Nat} : ∀ {n : Nat}, (∀ k, k < n → f k = g k) → sm f n = sm g n
  | 0, _ => rfl
  | n + 1, h => by rw [sm, sm, sm_congr (fun k hk => h k (Nat.lt_succ_of_lt hk)), h n (Nat.lt_succ_self n)]
theorem sm_zero : ∀ (n : Nat), sm (fun _ => 0) n = 0
  | 0 => rfl
  | n + 1 => by rw [sm, sm_zero n]
theorem sm_add (f g : Nat → Nat) : ∀ (n : Nat), sm (fun k => f k + g k) n = sm f n + sm g n
  | 0 => rfl
  | n + 1 => by rw [sm, sm, sm, sm_add f g n]; omega
theorem sm_swap (g : Nat → Nat → Nat) (n : Nat) : ∀ (m : Nat), sm (fun i => sm (g i) n) m = sm (fun j => sm (fun i => g i j) m) n
  | 0 => (sm_zero n).symm
  | m + 1 => by
    rw [sm, sm_swap g n m, ← sm_add]
    exact sm_congr (fun k _ => rfl)
theorem sm_one {x : Nat} {c : Nat → Nat} : ∀ (n : Nat), sm (fun q => if x = q then c q else 0) n = if x < n then c x else 0
  | 0 => rfl
  | n + 1 => by
    rw [sm, sm_one n]
    by_cases e : x = n
    · subst e; rw [if_pos rfl, if_neg (Nat.lt_irrefl x), if_pos (Nat.lt_succ_self x), Nat.zero_add]
    · rw [if_neg e]
      by_cases h : x < n
      · rw [if_pos h, if_pos (by omega), Nat.add_zero]
      · rw [if_neg h, if_neg (by omega)]
theorem sm_perm {O : Nat → Nat} {n : Nat} (h : En O n (fun q => q < n)) (f : Nat → Nat) : sm f n = sm (fun p => f (O p)) n := by
  have e1 : sm f n = sm (fun q => sm (fun p => if O p = q then f q else 0) n) n := by
    refine sm_congr (fun q hq => ?_)
    obtain ⟨p0, hp0, e0⟩ := h.2.1 q hq
    have : sm (fun p => if O p = q then f q else 0) n = sm (fun p => if p0 = p then f q else 0) n := by
      refine sm_congr (fun p hp => ?_)
      by_cases c : p0 = p
      · rw [if_pos c, ← c, if_pos e0]
      · rw [if_neg c, if_neg (fun c2 => c (h.inj hp0 hp (e0.trans c2.symm)))]
    rw [this, sm_one (c := fun _ => f q), if_pos hp0]
  rw [e1, sm_swap (fun q p => if O p = q then f q else 0) n n]
  refine sm_congr (fun p hp => ?_)
  rw [sm_one (c := f), if_pos (h.1 p hp)]
noncomputable def ind (P : Prop) : Nat := @ite _ P (Classical.propDecidable P) 1 0
theorem ind_t {P : Prop} (h : P) : ind P = 1 := if_pos h
theorem ind_f {P : Prop} (h : ¬ P) : ind P = 0 := if_neg h
theorem cntN_sm (P : Nat → Prop) : ∀ (n : Nat), cntN P n = sm (fun k => ind (P k)) n
  | 0 => rfl
  | n + 1 => by
    by_cases h : P n
    · rw [cntN_yes h, sm, cntN_sm P n, ind_t h]
    · rw [cntN_no h, sm, cntN_sm P n, ind_f h, Nat.add_zero]
theorem ind_ex {T : Nat → Prop} {n : Nat} (u : ∀ r r', r < n → r' < n → T r → T r' → r = r') : ind (∃ r, r < n ∧ T r) = sm (fun r => ind (T r)) n := by
  by_cases h : ∃ r, r < n ∧ T r
  · obtain ⟨r0, h0, t0⟩ := h
    have : sm (fun r => ind (T r)) n = sm (fun r => if r0 = r then 1 else 0) n := by
      refine sm_congr (fun r hr => ?_)
      by_cases c : r0 = r
      · rw [if_pos c, ← c, ind_t t0]
      · rw [if_neg c, ind_f (fun t => c (u r0 r h0 hr t0 t))]
    rw [this, ind_t ⟨r0, h0, t0⟩, sm_one (c := fun _ => 1), if_pos h0]
  · rw [ind_f h]
    have : sm (fun r => ind (T r)) n = sm (fun _ => 0) n := sm_congr (fun r hr => ind_f (fun t => h ⟨r, hr, t⟩))
    rw [this, sm_zero]
theorem cnt_bi {n : Nat} {T : Nat → Nat → Prop} (u1 : ∀ p r r', r < n → r' < n → T p r → T p r' → r = r') (u2 : ∀ r p p', p < n → p' < n → T p r → T p' r → p = p') : cntN (fun p => ∃ r, r < n ∧ T p r) n = cntN (fun r => ∃ p, p < n ∧ T p r) n := by
  rw [cntN_sm, cntN_sm]
  have e1 : sm (fun p => ind (∃ r, r < n ∧ T p r)) n = sm (fun p => sm (fun r => ind (T p r)) n) n := sm_congr (fun p _ => ind_ex (u1 p))
  have e2 : sm (fun r => ind (∃ p, p < n ∧ T p r)) n = sm (fun r => sm (fun p => ind (T p r)) n) n := sm_congr (fun r _ => ind_ex (u2 r))
  rw [e1, e2, sm_swap (fun p r => ind (T p r)) n n]
/-! what alike counts is the same both ways -/
theorem al_symm {A : AS} {v w : Nat} {k : Int32} : alF A v w k = alF A w v k := by
  unfold alF
  have hv := Od_en (anq A) (aqd A) (asd A v)
  have hw := Od_en (anq A) (aqd A) (asd A w)
  have hv : En (vO A v) (anq A) (fun q => q < anq A) := hv
  have hw : En (vO A w) (anq A) (fun q => q < anq A) := hw
  split
  · exact cntN_congr (fun p _ => eq_comm)
  split
  · exact cntN_congr (fun p _ => eq_comm)
  have u : ∀ (f : Nat → Nat), En f (anq A) (fun q => q < anq A) → ∀ x r r', r < anq A → r' < anq A → 1 ≤ r → f r = x → f r' = x → r = r' := fun f hf x r r' h1 h2 _ e1 e2 => hf.inj h1 h2 (e1.trans e2.symm)
  have key := cnt_bi (n := anq A) (T := fun p r => 1 ≤ p ∧ 1 ≤ r ∧ vO A w (r - 1) = vO A v (p - 1) ∧ vO A w r = vO A v p)
    (fun p r r' h1 h2 t t' => u _ hw _ r r' h1 h2 t.2.1 t.2.2.2 t'.2.2.2) (fun r p p' h1 h2 t t' => u _ hv _ p p' h1 h2 t.1 t.2.2.2.symm t'.2.2.2.symm)
  have e1 : cntN (fun p => 1 ≤ p ∧ nbr A v w p) (anq A) = cntN (fun p => ∃ r, r < anq A ∧ (1 ≤ p ∧ 1 ≤ r ∧ vO A w (r - 1) = vO A v (p - 1) ∧ vO A w r = vO A v p)) (anq A) := by
    refine cntN_congr (fun p hp => ⟨?_, ?_⟩)
    · rintro ⟨h1, r, h2, h3, h4⟩
      exact ⟨r + 1, h2, h1, by omega, h3, h4⟩
    · rintro ⟨r, h2, h1, h5, h3, h4⟩
      refine ⟨h1, r - 1, by omega, h3, ?_⟩
      rw [show r - 1 + 1 = r by omega]; exact h4
  have e2 : cntN (fun r => 1 ≤ r ∧ nbr A w v r) (anq A) = cntN (fun r => ∃ p, p < anq A ∧ (1 ≤ p ∧ 1 ≤ r ∧ vO A w (r - 1) = vO A v (p - 1) ∧ vO A w r = vO A v p)) (anq A) := by
    refine cntN_congr (fun r hr => ⟨?_, ?_⟩)
    · rintro ⟨h1, p, h2, h3, h4⟩
      exact ⟨p + 1, h2, by omega, h1, h3.symm, h4.symm⟩
    · rintro ⟨p, h2, h1, h5, h3, h4⟩
      refine ⟨h5, p - 1, by omega, h3.symm, ?_⟩
      rw [show p - 1 + 1 = p by omega]; exact h4.symm
  rw [e1, e2, key]
theorem cntN_all {P : Nat → Prop} : ∀ {n : Nat}, (∀ k, k < n → P k) → cntN P n = n
  | 0, _ => rfl
  | n + 1, h => by rw [cntN_yes (h n (Nat.lt_succ_self n)), cntN_all (fun k hk => h k (Nat.lt_succ_of_lt hk))]
theorem cntN_all1 {P : Nat → Prop} (h0 : ¬ P 0) : ∀ {n : Nat}, (∀ k, 1 ≤ k → k < n → P k) → cntN P n = n - 1
  | 0, _ => rfl
  | 1, _ => by rw [cntN_no h0]; rfl
  | n + 2, h => by
    rw [cntN_yes (h (n + 1) (by omega) (by omega)), cntN_all1 h0 (n := n + 1) (fun k h1 hk => h k h1 (by omega))]
    omega
theorem al_self (A : AS) (v : Nat) {k : Int32} : alF A v v k = if k = 0 then anq A else if k = 1 then anq A else anq A - 1 := by
  unfold alF
  split
  · exact cntN_all (fun p _ => rfl)
  split
  · exact cntN_all (fun p _ => rfl)
  refine cntN_all1 (fun h => absurd h.1 (by decide)) (fun p h1 hp => ⟨h1, p - 1, by omega, rfl, ?_⟩)
  rw [show p - 1 + 1 = p by omega]

