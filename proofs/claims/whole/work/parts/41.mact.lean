/-! ===== the model's history ===== -/
theorem q_act {I : ZI} {A : AS} {hc : Nat} {Hh : Nat → AS} {tc : Nat} {bf : Nat → Nat} (h : RI I A hc Hh tc bf) : ZP yX10_act cX10_act 2 none 0 [.ref 259] Sg I (fun r J => r = none ∧ (∀ a, a ≠ 259 → a ≠ 261 → J a = I a) ∧ (∀ k, k ≠ 2 → J 259 k = I 259 k) ∧ RI J A (phc hc) (pHh hc Hh A) tc bf) := by
  obtain ⟨w1, w2, ⟨w3, w4, w5⟩, w6⟩ := h
  have g0 := m_obj
  refine ZSp.of (own := RX10) (L := [.ref 259, zj]) mX10_act rfl (List.all_eq_true.mp rfl) (Nat.le_of_ble_eq_true rfl) rfl (fun X hE hN => ?_)
  -- the copy behind the rest: c states stand already
  have tail : ∀ (c : Nat) (K : ZI) (H2 : Nat → AS), c < 5 → (∀ a, a ≠ 259 → a ≠ 261 → K a = I a) → (∀ k, k ≠ 2 → K 259 k = I 259 k) → K 259 2 = nI c → (∀ i, i < c → RV (fun k => K 261 (540 * i + k)) (H2 i) ∧ AV (H2 i)) → phc hc = c + 1 → (∀ i, i < c → pHh hc Hh A i = H2 i) → pHh hc Hh A c = A → (ZG X RX10 cX10_act 2 0 0 0 0 0 49 [.ref 259, zj] [] Sg K) := by
    intro c K H2 hc5 k1 k2 k3 k4 e1 e2 e3
    have loop : ∀ (m i : Nat) (K2 : ZI), i + m = 540 → (∀ a, a ≠ 261 → K2 a = K a) → (∀ j, j < 540 * c → K2 261 j = K 261 j) → (∀ j, j < i → K2 261 (540 * c + j) = I 260 j) → (ZG X RX10 cX10_act 2 0 0 0 0 0 51 [.ref 259, .int (nI i)] [] Sg K2) := by
      intro m
      induction m with
      | zero =>
        intro i K2 hi l1 l2 l3
        have e : i = 540 := by omega
        subst e
        have hpm : K2 259 2 = nI c := by rw [l1 _ (by decide)]; exact k3
        refine z_iload_n dX10_act_51 rfl ?_
        refine z_sipush (v := 540) dX10_act_52 rfl ?_
        refine z_icmp_ge (tgt := 85) dX10_act_55 (by decide) (fun _ => ?_) (fun hb => absurd (by decide) hb)
        refine z_aload_n dX10_act_85 rfl ?_
        refine z_dup dX10_act_86 rfl ?_
        refine z_getI fRX10_46 dX10_act_87 (by first | assumption | rfl) (by rfl) ?_
        refine z_iconst (v := 1) dX10_act_90 rfl ?_
        refine z_iadd dX10_act_91 ?_
        refine z_putI fRX10_46 dX10_act_92 (by first | assumption | rfl) (by rfl) ?_
        rw [hpm, nI_1]
        have fr : ∀ a, a ≠ 259 → a ≠ 261 → zup K2 259 2 (nI (c + 1)) a = I a := fun a q1 q2 => by rw [zup_ne _ _ _ q1, l1 a q2, k1 a q1 q2]
        have fo : ∀ k, k ≠ 2 → zup K2 259 2 (nI (c + 1)) 259 k = I 259 k := fun k q => by rw [zup_at, upd_ne _ _ q, l1 _ (by decide), k2 k q]
        refine z_vret hE dX10_act_95 ⟨rfl, rfl, fr, fo, by rw [fr _ (by decide) (by decide)]; exact w1, w2, ⟨by rw [zup_at, upd_at, e1], by rw [e1]; omega, fun i hi => ?_⟩, ?_⟩
        · rw [e1] at hi
          rw [zup_ne _ _ _ (by decide)]
          by_cases e : i = c
          · subst e
            rw [e3]
            obtain ⟨r1, r2, r3, r4, r5, r6, r7⟩ := w1
            have hn := w2.1.1
            have hnv := w2.2.1
            have hns := w2.2.2.2.2.1
            refine ⟨⟨?_, ?_, ?_, ?_, fun q hq w hw => ?_, fun q hq => ?_, fun t ht => ⟨?_, fun p hp => ?_⟩⟩, w2⟩
            · exact (l3 0 (by decide)).trans r1
            · exact (l3 1 (by decide)).trans r2
            · exact (l3 2 (by decide)).trans r3
            · exact (l3 3 (by decide)).trans r4
            · exact (l3 (10 + 5 * q + w) (by omega)).trans (r5 q hq w hw)
            · exact (l3 (110 + q) (by omega)).trans (r6 q hq)
            · exact (l3 (116 + 21 * t) (by omega)).trans (r7 t ht).1
            · exact (l3 (116 + 21 * t + 1 + p) (by omega)).trans ((r7 t ht).2 p hp)
          · have hi2 : i < c := by omega
            rw [e2 i hi2]
            obtain ⟨⟨r1, r2, r3, r4, r5, r6, r7⟩, av⟩ := k4 i hi2
            have hn := av.1.1
            have hnv := av.2.1
            have hns := av.2.2.2.2.1
            refine ⟨⟨?_, ?_, ?_, ?_, fun q hq w hw => ?_, fun q hq => ?_, fun t ht => ⟨?_, fun p hp => ?_⟩⟩, av⟩
            · exact (l2 _ (by omega)).trans r1
            · exact (l2 _ (by omega)).trans r2
            · exact (l2 _ (by omega)).trans r3
            · exact (l2 _ (by omega)).trans r4
            · exact (l2 _ (by omega)).trans (r5 q hq w hw)
            · exact (l2 _ (by omega)).trans (r6 q hq)
            · exact (l2 _ (by omega)).trans (r7 t ht).1
            · exact (l2 _ (by omega)).trans ((r7 t ht).2 p hp)
        · exact ⟨by rw [fo _ (by decide)]; exact w6.1, w6.2.1, fun k hk => by rw [fr _ (by decide) (by decide)]; exact w6.2.2 k hk⟩
      | succ m ih =>
        intro i K2 hi l1 l2 l3
        have hpm : K2 259 2 = nI c := by rw [l1 _ (by decide)]; exact k3
        have hv : K2 260 = I 260 := by rw [l1 _ (by decide), k1 _ (by decide) (by decide)]
        refine z_iload_n dX10_act_51 rfl ?_
        refine z_sipush (v := 540) dX10_act_52 rfl ?_
        refine z_icmp_ge (tgt := 85) dX10_act_55 (by decide) (fun hb => absurd hb (nI_ge (b := 540) (show i < 540 by omega) (by decide))) (fun _ => ?_)
        refine z_aload_n dX10_act_58 rfl ?_
        refine z_getR fRX10_13 dX10_act_59 (by first | assumption | rfl) (by rfl) ?_
        refine z_sipush (v := 540) dX10_act_62 rfl ?_
        refine z_aload_n dX10_act_65 rfl ?_
        refine z_getI fRX10_46 dX10_act_66 (by first | assumption | rfl) (by rfl) ?_
        refine z_imul dX10_act_69 ?_
        refine z_iload_n dX10_act_70 rfl ?_
        refine z_iadd dX10_act_71 ?_
        refine z_aload_n dX10_act_72 rfl ?_
        refine z_getR fRX10_7 dX10_act_73 (by first | assumption | rfl) (by rfl) ?_
        refine z_iload_n dX10_act_76 rfl ?_
        rw [hpm]
        refine z_ialdN dX10_act_77 m_v (rfl) (by omega) (by decide) ?_
        rw [hv]
        refine z_iastN dX10_act_78 m_past (show (540 : Int32) * nI c + nI i = nI (540 * c + i) from by rw [← nI_add, ← pk_mul]; rfl) (by omega) (by decide) ?_
        refine z_inc1 (w := 1) dX10_act_79 rfl (by decide) rfl ?_
        refine z_goto (tgt := 51) dX10_act_82 (by decide) ?_
        rw [nI_1]
        refine ih (i + 1) _ (by omega) (fun a q => by rw [zup_ne _ _ _ q]; exact l1 a q) (fun j hj => by rw [zup_at, upd_ne _ _ (by omega)]; exact l2 j hj) (fun j hj => ?_)
        rw [zup_at]
        by_cases e : j = i
        · subst e
          rw [upd_at]
        · rw [upd_ne _ _ (by omega)]
          exact l3 j (by omega)
    refine z_iconst (v := 0) dX10_act_49 rfl ?_
    refine z_ist1 dX10_act_50 (by decide) rfl ?_
    exact loop 540 0 K (by omega) (fun _ _ => rfl) (fun _ _ => rfl) (fun j q => absurd q (Nat.not_lt_zero j))
  -- the oldest goes
  have shift : hc = 5 → ∀ (m i : Nat) (K : ZI), i + m = 2160 → (∀ a, a ≠ 261 → K a = I a) → (∀ j, j < i → K 261 j = I 261 (j + 540)) → (∀ j, i ≤ j → K 261 j = I 261 j) → (ZG X RX10 cX10_act 2 0 0 0 0 0 10 [.ref 259, .int (nI i)] [] Sg K) := by
    intro h5 m
    induction m with
    | zero =>
      intro i K hi l1 l2 l3
      have e : i = 2160 := by omega
      subst e
      have hpm : K 259 2 = nI 5 := by rw [l1 _ (by decide), w3, h5]
      refine z_iload_n dX10_act_10 rfl ?_
      refine z_sipush (v := 2160) dX10_act_11 rfl ?_
      refine z_icmp_ge (tgt := 39) dX10_act_14 (by decide) (fun _ => ?_) (fun hb => absurd (by decide) hb)
      refine z_aload_n dX10_act_39 rfl ?_
      refine z_dup dX10_act_40 rfl ?_
      refine z_getI fRX10_46 dX10_act_41 (by first | assumption | rfl) (by rfl) ?_
      refine z_iconst (v := 1) dX10_act_44 rfl ?_
      refine z_isub dX10_act_45 ?_
      refine z_putI fRX10_46 dX10_act_46 (by first | assumption | rfl) (by rfl) ?_
      rw [hpm]
      refine z_fg1 ?_
      refine tail 4 _ (fun i => Hh (i + 1)) (by decide) (fun a q1 q2 => by rw [zup_ne _ _ _ q1]; exact l1 a q2) (fun k q => by rw [zup_at, upd_ne _ _ q, l1 _ (by decide)]) (by rw [zup_at, upd_at]; decide) (fun i hi => ?_) (by rw [phc, if_pos h5]) (fun i hi => ?_) ?_
      · rw [zup_ne _ _ _ (by decide)]
        obtain ⟨⟨r1, r2, r3, r4, r5, r6, r7⟩, av⟩ := w5 (i + 1) (by omega)
        have hn := av.1.1
        have hnv := av.2.1
        have hns := av.2.2.2.2.1
        have tr : ∀ k, k < 540 → K 261 (540 * i + k) = I 261 (540 * (i + 1) + k) := fun k hk => by
          rw [l2 _ (by omega), show 540 * i + k + 540 = 540 * (i + 1) + k by omega]
        refine ⟨⟨?_, ?_, ?_, ?_, fun q hq w hw => ?_, fun q hq => ?_, fun t ht => ⟨?_, fun p hp => ?_⟩⟩, av⟩
        · exact (tr _ (by decide)).trans r1
        · exact (tr _ (by decide)).trans r2
        · exact (tr _ (by decide)).trans r3
        · exact (tr _ (by decide)).trans r4
        · exact (tr _ (by omega)).trans (r5 q hq w hw)
        · exact (tr _ (by omega)).trans (r6 q hq)
        · exact (tr _ (by omega)).trans (r7 t ht).1
        · exact (tr _ (by omega)).trans ((r7 t ht).2 p hp)
      · rw [pHh, if_pos h5]
        exact if_neg (by omega)
      · rw [pHh, if_pos h5]
        exact if_pos rfl
    | succ m ih =>
      intro i K hi l1 l2 l3
      refine z_iload_n dX10_act_10 rfl ?_
      refine z_sipush (v := 2160) dX10_act_11 rfl ?_
      refine z_icmp_ge (tgt := 39) dX10_act_14 (by decide) (fun hb => absurd hb (nI_ge (b := 2160) (show i < 2160 by omega) (by decide))) (fun _ => ?_)
      refine z_aload_n dX10_act_17 rfl ?_
      refine z_getR fRX10_13 dX10_act_18 (by first | assumption | rfl) (by rfl) ?_
      refine z_iload_n dX10_act_21 rfl ?_
      refine z_aload_n dX10_act_22 rfl ?_
      refine z_getR fRX10_13 dX10_act_23 (by first | assumption | rfl) (by rfl) ?_
      refine z_iload_n dX10_act_26 rfl ?_
      refine z_sipush (v := 540) dX10_act_27 rfl ?_
      refine z_iadd dX10_act_30 ?_
      refine z_ialdN dX10_act_31 m_past (nI_add i 540) (by omega) (by decide) ?_
      refine z_iastN dX10_act_32 m_past (rfl) (by omega) (by decide) ?_
      refine z_inc1 (w := 1) dX10_act_33 rfl (by decide) rfl ?_
      refine z_goto (tgt := 10) dX10_act_36 (by decide) ?_
      rw [nI_1]
      refine ih (i + 1) _ (by omega) (fun a q => by rw [zup_ne _ _ _ q]; exact l1 a q) (fun j hj => ?_) (fun j hj => ?_)
      · rw [zup_at]
        by_cases e : j = i
        · subst e
          rw [upd_at]
          exact l3 _ (by omega)
        · rw [upd_ne _ _ (by omega)]
          exact l2 j (by omega)
      · rw [zup_at, upd_ne _ _ (by omega)]
        exact l3 j (by omega)
  refine z_aload_n dX10_act_0 rfl ?_
  refine z_getI fRX10_46 dX10_act_1 (by first | assumption | rfl) (by rfl) ?_
  refine z_iconst (v := 5) dX10_act_4 rfl ?_
  rw [w3]
  by_cases h5 : hc = 5
  · refine z_icmp_ne (tgt := 49) dX10_act_5 (by decide) (fun hb => absurd (by rw [h5]; rfl) hb) (fun _ => ?_)
    refine z_iconst (v := 0) dX10_act_8 rfl ?_
    refine z_ist1 dX10_act_9 (by decide) rfl ?_
    exact shift h5 2160 0 I (by omega) (fun _ _ => rfl) (fun j q => absurd q (Nat.not_lt_zero j)) (fun _ _ => rfl)
  · refine z_icmp_ne (tgt := 49) dX10_act_5 (by decide) (fun _ => ?_) (fun hb => absurd hb (fun q => h5 ((nI_eq (b := 5) (by omega) (by decide)).mp q)))
    refine tail hc I Hh (by omega) (fun _ _ _ => rfl) (fun _ _ => rfl) w3 w5 (by rw [phc, if_neg h5]) (fun i hi => ?_) ?_
    · rw [pHh, if_neg h5]
      exact if_neg (by omega)
    · rw [pHh, if_neg h5]
      exact if_pos rfl

