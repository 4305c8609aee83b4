/-! ===== the model: an order and its keys put aside -/
theorem q_puts {I : ZI} : ZP yX10_puts cX10_puts 2 none 0 [.ref 259] Sg I (fun r J => r = none ∧ (∀ a, a ≠ 269 → a ≠ 270 → J a = I a) ∧ (∀ k, k < 20 → J 269 k = I 262 k) ∧ ∀ k, k < 20 → J 270 k = I 263 k) := by
  have g0 := m_obj
  refine ZSp.of (own := RX10) (L := [.ref 259, zj]) mX10_puts rfl (List.all_eq_true.mp rfl) (Nat.le_of_ble_eq_true rfl) rfl (fun X hE hN => ?_)
  have loop : ∀ (m k : Nat) (K : ZI), k + m = 20 → (∀ a, a ≠ 269 → a ≠ 270 → K a = I a) → (∀ j, j < k → K 269 j = I 262 j) → (∀ j, j < k → K 270 j = I 263 j) → (ZG X RX10 cX10_puts 2 0 0 0 0 0 2 [.ref 259, .int (nI k)] [] Sg K) := by
    intro m
    induction m with
    | zero =>
      intro k K hk c1 c2 c3
      have e : k = 20 := by omega
      subst e
      refine z_iload_n dX10_puts_2 rfl ?_
      refine z_bipush (v := 20) dX10_puts_3 rfl ?_
      refine z_icmp_ge (tgt := 38) dX10_puts_5 (by decide) (fun _ => ?_) (fun hb => absurd (by decide) hb)
      exact z_vret hE dX10_puts_38 ⟨rfl, rfl, c1, c2, c3⟩
    | succ m ih =>
      intro k K hk c1 c2 c3
      refine z_iload_n dX10_puts_2 rfl ?_
      refine z_bipush (v := 20) dX10_puts_3 rfl ?_
      refine z_icmp_ge (tgt := 38) dX10_puts_5 (by decide) (fun hb => absurd hb (nI_ge (b := 20) (show k < 20 by omega) (by decide))) (fun _ => ?_)
      refine z_aload_n dX10_puts_8 rfl ?_
      refine z_getR fRX10_37 dX10_puts_9 (by first | assumption | rfl) (by rfl) ?_
      refine z_iload_n dX10_puts_12 rfl ?_
      refine z_aload_n dX10_puts_13 rfl ?_
      refine z_getR fRX10_16 dX10_puts_14 (by first | assumption | rfl) (by rfl) ?_
      refine z_iload_n dX10_puts_17 rfl ?_
      refine z_ialdN dX10_puts_18 m_order (rfl) (by omega) (by decide) ?_
      rw [c1 262 (by decide) (by decide)]
      refine z_iastN dX10_puts_19 m_fOrder (rfl) (by omega) (by decide) ?_
      refine z_aload_n dX10_puts_20 rfl ?_
      refine z_getR fRX10_40 dX10_puts_21 (by first | assumption | rfl) (by rfl) ?_
      refine z_iload_n dX10_puts_24 rfl ?_
      refine z_aload_n dX10_puts_25 rfl ?_
      refine z_getR fRX10_19 dX10_puts_26 (by first | assumption | rfl) (by rfl) ?_
      refine z_iload_n dX10_puts_29 rfl ?_
      refine z_ialdN dX10_puts_30 m_key (rfl) (by omega) (by decide) ?_
      rw [zup_ne _ _ _ (by decide), c1 263 (by decide) (by decide)]
      refine z_iastN dX10_puts_31 m_fKey (rfl) (by omega) (by decide) ?_
      refine z_inc1 (w := 1) dX10_puts_32 rfl (by decide) rfl ?_
      refine z_goto (tgt := 2) dX10_puts_35 (by decide) ?_
      rw [nI_1]
      refine ih (k + 1) _ (by omega) (fun a q1 q2 => by rw [zup_ne _ _ _ q2, zup_ne _ _ _ q1]; exact c1 a q1 q2) (fun j hj => ?_) (fun j hj => ?_)
      · rw [zup_ne _ _ _ (by decide), zup_at]
        by_cases e : j = k
        · rw [e, upd_at]
        · rw [upd_ne _ _ e]
          exact c2 j (by omega)
      · rw [zup_at]
        by_cases e : j = k
        · rw [e, upd_at]
        · rw [upd_ne _ _ e, zup_ne _ _ _ (by decide)]
          exact c3 j (by omega)
  refine z_iconst (v := 0) dX10_puts_0 rfl ?_
  refine z_ist1 dX10_puts_1 (by decide) rfl ?_
  exact loop 20 0 I (by omega) (fun _ _ _ => rfl) (fun j q => absurd q (Nat.not_lt_zero j)) (fun j q => absurd q (Nat.not_lt_zero j))

