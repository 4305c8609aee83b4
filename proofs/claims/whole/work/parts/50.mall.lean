/-! ===== the model: a version mixed; its last part: the choices place by place -/
def MPf (J : ZI) (A : AS) (seed : Int32) : Prop := Rp (J 262) (Od (anq A) (aqd A) seed) (anq A) ∧ (∀ p, p < anq A → J 263 p = nI (Ky (anq A) (aqd A) seed p)) ∧ ∀ p, p < anq A → ∀ k, k < aqd A (Od (anq A) (aqd A) seed p) 4 → J 264 (5 * p + k) = nI (Ch (anq A) (aqd A) seed p k)
/-- what a mixing leaves as it was -/
def MFr (I J : ZI) : Prop := (∀ a, (a < 259 ∨ a = 260 ∨ a = 261 ∨ 267 ≤ a) → J a = I a) ∧ ∀ k, k ≠ 3 → k ≠ 8 → J 259 k = I 259 k
theorem q_mixLast {X : ZX} {Q2 : Option Value → List ZC → ZI → Prop} {I : ZI} {A : AS} {seed m2 : Int32} (hE : ZEnd X none 0 0 Q2) (h : RV (I 260) A) (hV : AV A) (hQ : ∀ J, MFr I J → MPf J A seed → Q2 none Sg J) :
    ∀ (n i : Nat) (J : ZI), i + n = anq A → MFr I J → Rp (J 262) (Od (anq A) (aqd A) seed) (anq A) → J 259 3 = Xs (anq A) (aqd A) seed i → (∀ j, j < i → J 263 j = nI (Ky (anq A) (aqd A) seed j)) → (∀ j, j < i → ∀ k, k < aqd A (Od (anq A) (aqd A) seed j) 4 → J 264 (5 * j + k) = nI (Ch (anq A) (aqd A) seed j k)) → (ZG X RX10 cX10_mixesAll 6 3 0 0 0 0 238 [.ref 259, .int seed, .int m2, .int (nI (anq A)), .int (nI i), zj] [] Sg J) := by
  have hn := hV.1.1
  have hoe := Od_en (anq A) (aqd A) seed
  intro n
  induction n with
  | zero =>
    intro i J hi a1 a2 a3 a4 a5
    have e : i = anq A := by omega
    subst e
    refine z_iload dX10_mixesAll_238 rfl ?_
    refine z_iload_n dX10_mixesAll_240 rfl ?_
    refine z_icmp_ge (tgt := 256) dX10_mixesAll_241 (by decide) (fun _ => ?_) (fun hb => absurd (nI_le (Nat.le_refl _) (by omega)) hb)
    exact z_vret hE dX10_mixesAll_256 (hQ J a1 ⟨a2, a4, a5⟩)
  | succ n ih =>
    intro i K hi a1 a2 a3 a4 a5
    have hi1 : i < anq A := by omega
    have hO := hoe.1 i hi1
    have hRK : RV (K 260) A := by rw [a1.1 _ (by omega)]; exact h
    have hO5 := (hV.1.2 _ hO).2.2.2.1
    refine z_iload dX10_mixesAll_238 rfl ?_
    refine z_iload_n dX10_mixesAll_240 rfl ?_
    refine z_icmp_ge (tgt := 256) dX10_mixesAll_241 (by decide) (fun hb => absurd hb (nI_ge (by omega) (by omega))) (fun _ => ?_)
    refine z_aload_n dX10_mixesAll_244 rfl ?_
    refine z_iload dX10_mixesAll_245 rfl ?_
    refine z_cV1p mX10_mixesChoices gRX10_88 dX10_mixesAll_247 (q_mixesChoices hRK hV rfl (show i < 20 by omega) (a2 i hi1) hO) (by decide) (by first | assumption | rfl) (by rfl) (Nat.le_of_ble_eq_true rfl) (Nat.le_refl _) (Nat.le_refl _) (fun r J hq => ?_)
    obtain ⟨rfl, b1, b2, b3, b4, b5, b6, b7⟩ := hq
    refine z_inc4 (w := 1) dX10_mixesAll_250 rfl (by decide) rfl ?_
    refine z_goto (tgt := 238) dX10_mixesAll_253 (by decide) ?_
    rw [nI_1]
    refine ih (i + 1) J (by omega) ⟨fun a ha => ?_, fun k q1 q2 => ?_⟩ ?_ ?_ (fun j hj => ?_) (fun j hj k hk => ?_)
    · rw [b1 a (by omega) (by omega) (by omega) (by omega), a1.1 a ha]
    · rw [b2 k q1 q2, a1.2 k q1 q2]
    · rw [b1 262 (by decide) (by decide) (by decide) (by decide)]; exact a2
    · rw [b3, a3]; rfl
    · by_cases e : j = i
      · subst e
        rw [b6, a3]; rfl
      · rw [b7 j e, a4 j (by omega)]
    · by_cases e : j = i
      · subst e
        rw [b4 k hk, a3]; rfl
      · have hOj5 := (hV.1.2 _ (hoe.1 j (by omega))).2.2.2.1
        rw [b5 _ (by omega), a5 j (by omega) k hk]

