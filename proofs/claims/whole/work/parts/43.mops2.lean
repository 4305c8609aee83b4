/-! ===== the model: forget, clear, undo, type -/
theorem q_forget {I : ZI} {A : AS} {hc : Nat} {Hh : Nat → AS} {tc : Nat} {bf : Nat → Nat} (h : RI I A hc Hh tc bf) : ZP yX10_forget cX10_forget 2 (some FieldType.int) 1 [.ref 259] Sg I (fun r J => r = some (.int (nI (ans A))) ∧ (∀ a, a < 259 → J a = I a) ∧ RI J (fgA A) (phc hc) (pHh hc Hh A) tc bf) := by
  have g0 := m_obj
  refine ZSp.of (own := RX10) (L := [.ref 259, zj]) mX10_forget rfl (List.all_eq_true.mp rfl) (Nat.le_of_ble_eq_true rfl) rfl (fun X hE hN => ?_)
  refine z_aload_n dX10_forget_0 rfl ?_
  refine z_cV0p mX10_act gRX10_54 dX10_forget_1 (q_act h) (by decide) (by first | assumption | rfl) (by rfl) (Nat.le_of_ble_eq_true rfl) (Nat.le_refl _) (Nat.le_refl _) (fun r J hq => ?_)
  obtain ⟨rfl, b1, b2, b3⟩ := hq
  have e : J 260 = I 260 := b1 _ (by decide) (by decide)
  refine z_aload_n dX10_forget_4 rfl ?_
  refine z_getR fRX10_7 dX10_forget_5 (by first | assumption | rfl) (by rfl) ?_
  refine z_iconst (v := 3) dX10_forget_8 rfl ?_
  refine z_ialdN (j := 3) dX10_forget_9 m_v (rfl) (by decide) (by decide) ?_
  rw [e, h.1.2.2.2.1]
  refine z_ist1 dX10_forget_10 (by decide) rfl ?_
  refine z_aload_n dX10_forget_11 rfl ?_
  refine z_getR fRX10_7 dX10_forget_12 (by first | assumption | rfl) (by rfl) ?_
  refine z_iconst (v := 3) dX10_forget_15 rfl ?_
  refine z_iconst (v := 0) dX10_forget_16 rfl ?_
  refine z_iastN (j := 3) dX10_forget_17 m_v (rfl) (by decide) (by decide) ?_
  refine z_iload_n dX10_forget_18 rfl ?_
  refine z_iret hE dX10_forget_19 ⟨rfl, rfl, fun a ha => by rw [zup_ne _ _ _ (by omega), b1 a (by omega) (by omega)], z_toRI b3 ?_ ?_ (fun a ha => by rw [zup_ne _ _ _ (by omega)])⟩
  · rw [zup_at, e]
    obtain ⟨r1, r2, r3, r4, r5, r6, r7⟩ := h.1
    exact ⟨by rw [upd_ne _ _ (by decide)]; exact r1, by rw [upd_ne _ _ (by decide)]; exact r2, by rw [upd_ne _ _ (by decide)]; exact r3, by rw [upd_at]; rfl, fun i hi w hw => by rw [upd_ne _ _ (by omega)]; exact r5 i hi w hw, fun v hv => by rw [upd_ne _ _ (by omega)]; exact r6 v hv, fun t ht => absurd ht (Nat.not_lt_zero t)⟩
  · obtain ⟨v1, v2, v3, v4, v5, v6⟩ := h.2.1
    exact z_av0 rfl v1 v2 v3 v4
theorem q_clear {I : ZI} {A : AS} {hc : Nat} {Hh : Nat → AS} {tc : Nat} {bf : Nat → Nat} (h : RI I A hc Hh tc bf) : ZP yX10_clear cX10_clear 2 (some FieldType.int) 0 [.ref 259] Sg I (fun r J => r = some (.int (nI tc)) ∧ (∀ a, a < 259 → J a = I a) ∧ RI J A hc Hh 0 bf) := by
  have g0 := m_obj
  obtain ⟨w1, w2, w3, w4⟩ := h
  refine ZSp.of (own := RX10) (L := [.ref 259, zj]) mX10_clear rfl (List.all_eq_true.mp rfl) (Nat.le_of_ble_eq_true rfl) rfl (fun X hE hN => ?_)
  refine z_aload_n dX10_clear_0 rfl ?_
  refine z_getI fRX10_126 dX10_clear_1 (by first | assumption | rfl) (by rfl) ?_
  refine z_ist1 dX10_clear_4 (by decide) rfl ?_
  refine z_aload_n dX10_clear_5 rfl ?_
  refine z_iconst (v := 0) dX10_clear_6 rfl ?_
  refine z_putI fRX10_126 dX10_clear_7 (by first | assumption | rfl) (by rfl) ?_
  refine z_iload_n dX10_clear_10 rfl ?_
  rw [w4.1]
  refine z_iret hE dX10_clear_11 ⟨rfl, rfl, fun a ha => zup_ne _ _ _ (by omega), by rw [zup_ne _ _ _ (by decide)]; exact w1, w2, ⟨by rw [zup_at, upd_ne _ _ (by decide)]; exact w3.1, w3.2.1, fun i hi => by rw [zup_ne _ _ _ (by decide)]; exact w3.2.2 i hi⟩, by rw [zup_at, upd_at]; rfl, Nat.zero_le _, fun k hk => absurd hk (Nat.not_lt_zero k)⟩
theorem q_undo {I : ZI} {A : AS} {hc : Nat} {Hh : Nat → AS} {tc : Nat} {bf : Nat → Nat} {r0 : Option Value} {P : AS → Nat → (Nat → AS) → Nat → (Nat → Nat) → Prop} (h : RI I A hc Hh tc bf) (hD : (hc = 0 ∧ r0 = some (.int (-1009)) ∧ P A hc Hh tc bf) ∨ (∃ c, hc = c + 1 ∧ r0 = some (.int (nI c)) ∧ P (Hh c) c Hh tc bf)) : ZP yX10_undo cX10_undo 2 (some FieldType.int) 0 [.ref 259] Sg I (fun r J => r = r0 ∧ (∀ a, a < 259 → J a = I a) ∧ ∃ A' hc' Hh' tc' bf', P A' hc' Hh' tc' bf' ∧ RI J A' hc' Hh' tc' bf') := by
  have g0 := m_obj
  obtain ⟨w1, w2, ⟨w3, w4, w5⟩, w6⟩ := h
  refine ZSp.of (own := RX10) (L := [.ref 259, zj]) mX10_undo rfl (List.all_eq_true.mp rfl) (Nat.le_of_ble_eq_true rfl) rfl (fun X hE hN => ?_)
  refine z_aload_n dX10_undo_0 rfl ?_
  refine z_getI fRX10_46 dX10_undo_1 (by first | assumption | rfl) (by rfl) ?_
  rw [w3]
  rcases hD with ⟨hz, rfl, hP⟩ | ⟨c, rfl, rfl, hP⟩
  · refine z_if_ne (tgt := 11) dX10_undo_4 (by decide) (fun hb => absurd (by rw [hz]; rfl) hb) (fun _ => ?_)
    refine z_sipush (v := -1009) dX10_undo_7 rfl ?_
    exact z_iret hE dX10_undo_10 ⟨rfl, rfl, fun _ _ => rfl, _, _, _, _, _, hP, w1, w2, ⟨w3, w4, w5⟩, w6⟩
  · have hRV := (w5 c (Nat.lt_succ_self c)).1
    have hAV := (w5 c (Nat.lt_succ_self c)).2
    have loop : ∀ (m i : Nat) (K : ZI), i + m = 540 → (∀ a, a ≠ 259 → a ≠ 260 → K a = I a) → K 259 2 = nI c → (∀ k, k ≠ 2 → K 259 k = I 259 k) → (∀ j, j < i → K 260 j = I 261 (540 * c + j)) → (ZG X RX10 cX10_undo 2 0 0 0 0 0 23 [.ref 259, .int (nI i)] [] Sg K) := by
      intro m
      induction m with
      | zero =>
        intro i K hi k1 k2 k3 k4
        have e : i = 540 := by omega
        subst e
        refine z_iload_n dX10_undo_23 rfl ?_
        refine z_sipush (v := 540) dX10_undo_24 rfl ?_
        refine z_icmp_ge (tgt := 57) dX10_undo_27 (by decide) (fun _ => ?_) (fun hb => absurd (by decide) hb)
        refine z_aload_n dX10_undo_57 rfl ?_
        refine z_getI fRX10_46 dX10_undo_58 (by first | assumption | rfl) (by rfl) ?_
        rw [k2]
        refine z_iret hE dX10_undo_61 ⟨rfl, rfl, fun a ha => k1 a (by omega) (by omega), _, _, _, _, _, hP, ?_, hAV, ⟨k2, by omega, fun i hi => by rw [k1 261 (by decide) (by decide)]; exact w5 i (by omega)⟩, by rw [k3 _ (by decide)]; exact w6.1, w6.2.1, fun k hk => by rw [k1 271 (by decide) (by decide)]; exact w6.2.2 k hk⟩
        obtain ⟨r1, r2, r3, r4, r5, r6, r7⟩ := hRV
        have hn := hAV.1.1
        have hnv := hAV.2.1
        have hns := hAV.2.2.2.2.1
        refine ⟨?_, ?_, ?_, ?_, fun q hq w hw => ?_, fun q hq => ?_, fun t ht => ⟨?_, fun p hp => ?_⟩⟩
        · exact (k4 0 (by decide)).trans r1
        · exact (k4 1 (by decide)).trans r2
        · exact (k4 2 (by decide)).trans r3
        · exact (k4 3 (by decide)).trans r4
        · exact (k4 (10 + 5 * q + w) (by omega)).trans (r5 q hq w hw)
        · exact (k4 (110 + q) (by omega)).trans (r6 q hq)
        · exact (k4 (116 + 21 * t) (by omega)).trans (r7 t ht).1
        · exact (k4 (116 + 21 * t + 1 + p) (by omega)).trans ((r7 t ht).2 p hp)
      | succ m ih =>
        intro i K hi k1 k2 k3 k4
        refine z_iload_n dX10_undo_23 rfl ?_
        refine z_sipush (v := 540) dX10_undo_24 rfl ?_
        refine z_icmp_ge (tgt := 57) dX10_undo_27 (by decide) (fun hb => absurd hb (nI_ge (b := 540) (show i < 540 by omega) (by decide))) (fun _ => ?_)
        refine z_aload_n dX10_undo_30 rfl ?_
        refine z_getR fRX10_7 dX10_undo_31 (by first | assumption | rfl) (by rfl) ?_
        refine z_iload_n dX10_undo_34 rfl ?_
        refine z_aload_n dX10_undo_35 rfl ?_
        refine z_getR fRX10_13 dX10_undo_36 (by first | assumption | rfl) (by rfl) ?_
        refine z_sipush (v := 540) dX10_undo_39 rfl ?_
        refine z_aload_n dX10_undo_42 rfl ?_
        refine z_getI fRX10_46 dX10_undo_43 (by first | assumption | rfl) (by rfl) ?_
        refine z_imul dX10_undo_46 ?_
        refine z_iload_n dX10_undo_47 rfl ?_
        refine z_iadd dX10_undo_48 ?_
        rw [k2]
        refine z_ialdN dX10_undo_49 m_past (show (540 : Int32) * nI c + nI i = nI (540 * c + i) from by rw [← nI_add, ← pk_mul]; rfl) (by omega) (by decide) ?_
        rw [k1 261 (by decide) (by decide)]
        refine z_iastN dX10_undo_50 m_v (rfl) (by omega) (by decide) ?_
        refine z_inc1 (w := 1) dX10_undo_51 rfl (by decide) rfl ?_
        refine z_goto (tgt := 23) dX10_undo_54 (by decide) ?_
        rw [nI_1]
        refine ih (i + 1) _ (by omega) (fun a q1 q2 => by rw [zup_ne _ _ _ q2]; exact k1 a q1 q2) (by rw [zup_ne _ _ _ (by decide)]; exact k2) (fun k q => by rw [zup_ne _ _ _ (by decide)]; exact k3 k q) (fun j hj => ?_)
        rw [zup_at]
        by_cases e : j = i
        · subst e
          rw [upd_at]
        · rw [upd_ne _ _ (by omega)]
          exact k4 j (by omega)
    refine z_if_ne (tgt := 11) dX10_undo_4 (by decide) (fun _ => ?_) (fun hb => absurd hb (nI_ne0 (by omega) (by omega)))
    refine z_aload_n dX10_undo_11 rfl ?_
    refine z_dup dX10_undo_12 rfl ?_
    refine z_getI fRX10_46 dX10_undo_13 (by first | assumption | rfl) (by rfl) ?_
    refine z_iconst (v := 1) dX10_undo_16 rfl ?_
    refine z_isub dX10_undo_17 ?_
    refine z_putI fRX10_46 dX10_undo_18 (by first | assumption | rfl) (by rfl) ?_
    refine z_iconst (v := 0) dX10_undo_21 rfl ?_
    refine z_ist1 dX10_undo_22 (by decide) rfl ?_
    rw [w3, nI_pred]
    exact loop 540 0 _ (by omega) (fun a q1 q2 => zup_ne _ _ _ q1) (by rw [zup_at, upd_at]) (fun k q => by rw [zup_at, upd_ne _ _ q]) (fun j q => absurd q (Nat.not_lt_zero j))
theorem q_type {I : ZI} {A : AS} {hc : Nat} {Hh : Nat → AS} {tc : Nat} {bf : Nat → Nat} {x : Int32} {r0 : Option Value} {P : AS → Nat → (Nat → AS) → Nat → (Nat → Nat) → Prop} (h : RI I A hc Hh tc bf) (hD : (∃ a, r0 = some (.int a) ∧ aType tc x a ∧ P A hc Hh tc bf) ∨ (∃ n, 32 ≤ n ∧ n ≤ 126 ∧ x = nI n ∧ tc < 20 ∧ r0 = some (.int (nI (tc + 1))) ∧ P A hc Hh (tc + 1) (bfP tc bf n))) : ZP yX10_type cX10_type 2 (some FieldType.int) 1 [.ref 259, .int x] Sg I (fun r J => r = r0 ∧ (∀ a, a < 259 → J a = I a) ∧ ∃ A' hc' Hh' tc' bf', P A' hc' Hh' tc' bf' ∧ RI J A' hc' Hh' tc' bf') := by
  have g0 := m_obj
  have h' := h
  obtain ⟨w1, w2, w3, w4⟩ := h
  refine ZSp.of (own := RX10) (L := [.ref 259, .int x]) mX10_type rfl (List.all_eq_true.mp rfl) (Nat.le_of_ble_eq_true rfl) rfl (fun X hE hN => ?_)
  refine z_iload_n dX10_type_0 rfl ?_
  refine z_bipush (v := 32) dX10_type_1 rfl ?_
  refine z_bipush (v := 126) dX10_type_3 rfl ?_
  have yes : isCh x → (ZG X RX10 cX10_type 2 1 0 0 0 0 15 [.ref 259, .int x] [] Sg I) → (ZG X RX10 cX10_type 2 1 0 0 0 0 5 [.ref 259, .int x] [.int 126, .int 32, .int x] Sg I) := by
    rintro ⟨n, n1, n2, rfl⟩ nxt
    refine z_cS3s mX10_in gRX10_50 dX10_type_5 (q_in (r := 1) (fun _ _ => rfl) (fun z => z.elim (fun e => absurd e (nI_nlt (b := 32) n1 (by omega))) (fun e => absurd e (nI_nlt (b := n) (a := 126) n2 (by decide))))) (by decide) (Nat.le_of_ble_eq_true rfl) (Nat.le_refl _) (Nat.le_refl _) ?_
    refine z_if_ne (tgt := 15) dX10_type_8 (by decide) (fun _ => ?_) (fun hb => absurd hb (by decide))
    exact nxt
  rcases hD with ⟨a, rfl, ⟨hb, rfl⟩ | ⟨hb, hz, rfl⟩, hP⟩ | ⟨n, n1, n2, rfl, ht, rfl, hP⟩
  · refine z_cS3s mX10_in gRX10_50 dX10_type_5 (q_in (r := 0) (fun y1 y2 => absurd (isCh_of y1 y2) hb) (fun _ => rfl)) (by decide) (Nat.le_of_ble_eq_true rfl) (Nat.le_refl _) (Nat.le_refl _) ?_
    refine z_if_ne (tgt := 15) dX10_type_8 (by decide) (fun hb => absurd (rfl) hb) (fun _ => ?_)
    refine z_sipush (v := -1001) dX10_type_11 rfl ?_
    exact z_iret hE dX10_type_14 ⟨rfl, rfl, fun _ _ => rfl, _, _, _, _, _, hP, h'⟩
  · refine yes hb ?_
    refine z_aload_n dX10_type_15 rfl ?_
    refine z_getI fRX10_126 dX10_type_16 (by first | assumption | rfl) (by rfl) ?_
    refine z_bipush (v := 20) dX10_type_19 rfl ?_
    rw [w4.1]
    refine z_icmp_ne (tgt := 28) dX10_type_21 (by decide) (fun hb => absurd (by rw [hz]; rfl) hb) (fun _ => ?_)
    refine z_sipush (v := -1003) dX10_type_24 rfl ?_
    exact z_iret hE dX10_type_27 ⟨rfl, rfl, fun _ _ => rfl, _, _, _, _, _, hP, h'⟩
  · refine yes ⟨n, n1, n2, rfl⟩ ?_
    refine z_aload_n dX10_type_15 rfl ?_
    refine z_getI fRX10_126 dX10_type_16 (by first | assumption | rfl) (by rfl) ?_
    refine z_bipush (v := 20) dX10_type_19 rfl ?_
    rw [w4.1]
    refine z_icmp_ne (tgt := 28) dX10_type_21 (by decide) (fun _ => ?_) (fun hb => absurd hb (fun q => by have := (nI_eq (b := 20) (by omega) (by decide)).mp q; omega))
    refine z_aload_n dX10_type_28 rfl ?_
    refine z_getR fRX10_43 dX10_type_29 (by first | assumption | rfl) (by rfl) ?_
    refine z_aload_n dX10_type_32 rfl ?_
    refine z_getI fRX10_126 dX10_type_33 (by first | assumption | rfl) (by rfl) ?_
    refine z_iload_n dX10_type_36 rfl ?_
    rw [w4.1]
    refine z_iastN dX10_type_37 m_text (rfl) (ht) (by decide) ?_
    refine z_aload_n dX10_type_38 rfl ?_
    refine z_dup dX10_type_39 rfl ?_
    refine z_getI fRX10_126 dX10_type_40 (by first | assumption | rfl) (by rfl) ?_
    refine z_iconst (v := 1) dX10_type_43 rfl ?_
    refine z_iadd dX10_type_44 ?_
    refine z_putI fRX10_126 dX10_type_45 (by first | assumption | rfl) (by rfl) ?_
    refine z_aload_n dX10_type_48 rfl ?_
    refine z_getI fRX10_126 dX10_type_49 (by first | assumption | rfl) (by rfl) ?_
    have e0 : zup I 271 tc (nI n) 259 = I 259 := zup_ne _ _ _ (by decide)
    rw [zup_at, upd_at, e0, w4.1, nI_1]
    refine z_iret hE dX10_type_52 ⟨rfl, rfl, fun a ha => by rw [zup_ne _ _ _ (by omega), zup_ne _ _ _ (by omega)], _, _, _, _, _, hP, by rw [zup_ne _ _ _ (by decide), zup_ne _ _ _ (by decide)]; exact w1, w2, ⟨by rw [zup_at, upd_ne _ _ (by decide), e0]; exact w3.1, w3.2.1, fun i hi => by rw [zup_ne _ _ _ (by decide), zup_ne _ _ _ (by decide)]; exact w3.2.2 i hi⟩, by rw [zup_at, upd_at], ht, fun k hk => ?_⟩
    rw [zup_ne _ _ _ (by decide), zup_at]
    by_cases e : k = tc
    · subst e
      rw [upd_at, bfP, if_pos rfl]
      exact ⟨rfl, n1, n2⟩
    · rw [upd_ne _ _ e, bfP, if_neg e]
      exact w4.2.2 k (by omega)

