/-! ===== the model: sameWrong, suspects, mistaken, mean ===== -/
theorem q_shared {I : ZI} {A : AS} {hc : Nat} {Hh : Nat → AS} {tc : Nat} {bf : Nat → Nat} {s t : Nat} {x y : Int32} (h : RI I A hc Hh tc bf) (hx : x = nI s) (hs : s < ans A) (hy : y = nI t) (ht : t < ans A) : ZP yX10_shared cX10_shared 6 (some FieldType.int) 6 [.ref 259, .int x, .int y] Sg I (fun r J => r = some (.int (nI (swF A s t (anq A)))) ∧ MFr I J) := by
  have g0 := m_obj
  have hn := h.2.1.1.1
  have hns := h.2.1.2.2.2.2.1
  subst hx
  subst hy
  refine ZSp.of (own := RX10) (L := [.ref 259, .int (nI s), .int (nI t), zj, zj, zj]) mX10_shared rfl (List.all_eq_true.mp rfl) (Nat.le_of_ble_eq_true rfl) rfl (fun X hE hN => ?_)
  have loop : ∀ (m q : Nat) (K : ZI), q + m = anq A → MFr I K → (ZG X RX10 cX10_shared 6 6 0 0 0 0 5 [.ref 259, .int (nI s), .int (nI t), .int (nI (swF A s t q)), .int (nI q), zj] [] Sg K) := by
    intro m
    induction m with
    | zero =>
      intro q K hq c1
      have e : q = anq A := by omega
      subst e
      have hRK := c1.ri h
      refine z_iload dX10_shared_5 rfl ?_
      refine z_aload_n dX10_shared_7 rfl ?_
      refine z_getR fRX10_7 dX10_shared_8 (by first | assumption | rfl) (by rfl) ?_
      refine z_iconst (v := 0) dX10_shared_11 rfl ?_
      refine z_ialdN (j := 0) dX10_shared_12 m_v (rfl) (by decide) (by decide) ?_
      rw [hRK.1.1]
      refine z_icmp_ge (tgt := 71) dX10_shared_13 (by decide) (fun _ => ?_) (fun hb => absurd (nI_le (Nat.le_refl _) (by omega)) hb)
      refine z_iload_n dX10_shared_71 rfl ?_
      exact z_iret hE dX10_shared_72 ⟨rfl, rfl, c1⟩
    | succ m ih =>
      intro q K hq c1
      have hq1 : q < anq A := by omega
      have hRK := c1.ri h
      have e1 : swF A s t (q + 1) = if pkA A s q ≠ -1 ∧ pkA A s q = pkA A t q ∧ pkA A s q ≠ nI (aqd A q 1) then swF A s t q + 1 else swF A s t q := rfl
      obtain ⟨v1, v2, v3, v4, v5, v6, v7⟩ := h.2.1.1.2 q hq1
      have i1 := an_none h.2.1 hs hq1
      have i2 := an_same h.2.1 hs ht hq1
      have i3 := an_eq h.2.1 hs hq1 (show aqd A q 1 < 5 by omega)
      have no : ∀ (J : ZI), MFr I J → ¬ (pkA A s q ≠ -1 ∧ pkA A s q = pkA A t q ∧ pkA A s q ≠ nI (aqd A q 1)) → (ZG X RX10 cX10_shared 6 6 0 0 0 0 62 [.ref 259, .int (nI s), .int (nI t), .int (nI (swF A s t q)), .int (nI q), .int (anF A s q)] [.int (nI (swF A s t q))] Sg J) := by
        intro J c2 hw
        have nxt := ih (q + 1) J (by omega) c2
        rw [e1, if_neg hw] at nxt
        refine z_iconst (v := 0) dX10_shared_62 rfl ?_
        refine z_iadd dX10_shared_63 ?_
        refine z_ist3 dX10_shared_64 (by decide) rfl ?_
        refine z_inc4 (w := 1) dX10_shared_65 rfl (by decide) rfl ?_
        refine z_goto (tgt := 5) dX10_shared_68 (by decide) ?_
        rw [Int32.add_zero, nI_1]
        refine z_fg5 ?_
        exact nxt
      refine z_iload dX10_shared_5 rfl ?_
      refine z_aload_n dX10_shared_7 rfl ?_
      refine z_getR fRX10_7 dX10_shared_8 (by first | assumption | rfl) (by rfl) ?_
      refine z_iconst (v := 0) dX10_shared_11 rfl ?_
      refine z_ialdN (j := 0) dX10_shared_12 m_v (rfl) (by decide) (by decide) ?_
      rw [hRK.1.1]
      refine z_icmp_ge (tgt := 71) dX10_shared_13 (by decide) (fun hb => absurd hb (nI_ge (by omega) (by omega))) (fun _ => ?_)
      refine z_aload_n dX10_shared_16 rfl ?_
      refine z_iload_n dX10_shared_17 rfl ?_
      refine z_iload dX10_shared_18 rfl ?_
      refine z_cV2p mX10_answerOf gRX10_157 dX10_shared_20 (q_answerOf hRK rfl hs rfl hq1) (by decide) (by first | assumption | rfl) (by rfl) (Nat.le_of_ble_eq_true rfl) (Nat.le_refl _) (Nat.le_refl _) (fun r J hq => ?_)
      obtain ⟨rfl, d1⟩ := hq
      have c2 := c1.trans d1
      have hRJ := c2.ri h
      refine z_ist5 dX10_shared_23 (by decide) rfl ?_
      refine z_iload_n dX10_shared_25 rfl ?_
      refine z_iload dX10_shared_26 rfl ?_
      refine z_sipush (v := -1009) dX10_shared_28 rfl ?_
      refine z_icmp_eq (tgt := 62) dX10_shared_31 (by decide) (fun ha => ?_) (fun ha => ?_)
      · exact no J c2 (fun z => z.1 (i1.mp ha))
      · refine z_iload dX10_shared_34 rfl ?_
        refine z_aload_n dX10_shared_36 rfl ?_
        refine z_iload dX10_shared_37 rfl ?_
        refine z_iconst (v := 1) dX10_shared_39 rfl ?_
        refine z_cV2s mX10_of gRX10_61 dX10_shared_40 (q_of hRJ.1 hn rfl (show (1 : Int32) = nI 1 from rfl) hq1 (by decide)) (by decide) (by first | assumption | rfl) (by rfl) (Nat.le_of_ble_eq_true rfl) (Nat.le_refl _) (Nat.le_refl _) ?_
        refine z_icmp_eq (tgt := 62) dX10_shared_43 (by decide) (fun hb => ?_) (fun hb => ?_)
        · exact no J c2 (fun z => z.2.2 (i3.mp hb))
        · refine z_iload dX10_shared_46 rfl ?_
          refine z_aload_n dX10_shared_48 rfl ?_
          refine z_iload_n dX10_shared_49 rfl ?_
          refine z_iload dX10_shared_50 rfl ?_
          refine z_cV2p mX10_answerOf gRX10_157 dX10_shared_52 (q_answerOf hRJ rfl ht rfl hq1) (by decide) (by first | assumption | rfl) (by rfl) (Nat.le_of_ble_eq_true rfl) (Nat.le_refl _) (Nat.le_refl _) (fun r J hq => ?_)
          obtain ⟨rfl, d2⟩ := hq
          have c3 := c2.trans d2
          refine z_icmp_ne (tgt := 62) dX10_shared_55 (by decide) (fun hd => ?_) (fun hd => ?_)
          · exact no J c3 (fun z => hd (i2.mpr z.2.1))
          · refine z_iconst (v := 1) dX10_shared_58 rfl ?_
            refine z_goto (tgt := 63) dX10_shared_59 (by decide) ?_
            refine z_iadd dX10_shared_63 ?_
            refine z_ist3 dX10_shared_64 (by decide) rfl ?_
            refine z_inc4 (w := 1) dX10_shared_65 rfl (by decide) rfl ?_
            refine z_goto (tgt := 5) dX10_shared_68 (by decide) ?_
            have nxt := ih (q + 1) J (by omega) c3
            rw [e1, if_pos ⟨fun z => ha (i1.mpr z), i2.mp hd, fun z => hb (i3.mpr z)⟩] at nxt
            rw [nI_1, nI_1]
            refine z_fg5 ?_
            exact nxt
  refine z_iconst (v := 0) dX10_shared_0 rfl ?_
  refine z_ist3 dX10_shared_1 (by decide) rfl ?_
  refine z_iconst (v := 0) dX10_shared_2 rfl ?_
  refine z_ist4 dX10_shared_3 (by decide) rfl ?_
  exact loop (anq A) 0 I (by omega) (MFr.refl I)
theorem q_sameWrong {I : ZI} {A : AS} {hc : Nat} {Hh : Nat → AS} {tc : Nat} {bf : Nat → Nat} {x y a : Int32} (h : RI I A hc Hh tc bf) (hD : aSameWrong A x y a) : ZP yX10_sameWrong cX10_sameWrong 3 (some FieldType.int) 7 [.ref 259, .int x, .int y] Sg I (fun r J => r = some (.int a) ∧ (∀ a, a < 259 → J a = I a) ∧ RI J A hc Hh tc bf) := by
  have g0 := m_obj
  have hns := h.2.1.2.2.2.2.1
  refine ZSp.of (own := RX10) (L := [.ref 259, .int x, .int y]) mX10_sameWrong rfl (List.all_eq_true.mp rfl) (Nat.le_of_ble_eq_true rfl) rfl (fun X hE hN => ?_)
  refine z_aload_n dX10_sameWrong_0 rfl ?_
  refine z_iload_n dX10_sameWrong_1 rfl ?_
  have bad : a = -1001 → (ZG X RX10 cX10_sameWrong 3 7 0 0 0 0 25 [.ref 259, .int x, .int y] [] Sg I) := by
    rintro rfl
    refine z_sipush (v := -1001) dX10_sameWrong_25 rfl ?_
    exact z_iret hE dX10_sameWrong_28 ⟨rfl, rfl, fun _ _ => rfl, h⟩
  rcases hD with ⟨s, t, hs, rfl, ht, rfl, rfl⟩ | ⟨hb, he⟩
  · refine z_cV1s mX10_isSheet gRX10_151 dX10_sameWrong_2 (q_isT (r := 1) h.1 hns (fun _ => rfl) (fun z => absurd ⟨s, hs, rfl⟩ z)) (by decide) (by first | assumption | rfl) (by rfl) (Nat.le_of_ble_eq_true rfl) (Nat.le_refl _) (Nat.le_refl _) ?_
    refine z_if_eq (tgt := 25) dX10_sameWrong_5 (by decide) (fun hb => absurd hb (by decide)) (fun _ => ?_)
    refine z_aload_n dX10_sameWrong_8 rfl ?_
    refine z_iload_n dX10_sameWrong_9 rfl ?_
    refine z_cV1s mX10_isSheet gRX10_151 dX10_sameWrong_10 (q_isT (r := 1) h.1 hns (fun _ => rfl) (fun z => absurd ⟨t, ht, rfl⟩ z)) (by decide) (by first | assumption | rfl) (by rfl) (Nat.le_of_ble_eq_true rfl) (Nat.le_refl _) (Nat.le_refl _) ?_
    refine z_if_eq (tgt := 25) dX10_sameWrong_13 (by decide) (fun hb => absurd hb (by decide)) (fun _ => ?_)
    refine z_aload_n dX10_sameWrong_16 rfl ?_
    refine z_iload_n dX10_sameWrong_17 rfl ?_
    refine z_iload_n dX10_sameWrong_18 rfl ?_
    refine z_cV2p mX10_shared gRX10_164 dX10_sameWrong_19 (q_shared h rfl hs rfl ht) (by decide) (by first | assumption | rfl) (by rfl) (Nat.le_of_ble_eq_true rfl) (Nat.le_refl _) (Nat.le_refl _) (fun r J hq => ?_)
    obtain ⟨rfl, b1⟩ := hq
    refine z_goto (tgt := 28) dX10_sameWrong_22 (by decide) ?_
    exact z_iret hE dX10_sameWrong_28 ⟨rfl, rfl, fun a ha => b1.1 a (Or.inl ha), b1.ri h⟩
  · by_cases hx : isT A x
    · have hy : ¬ isT A y := hb.elim (fun z => absurd hx z) id
      refine z_cV1s mX10_isSheet gRX10_151 dX10_sameWrong_2 (q_isT (r := 1) h.1 hns (fun _ => rfl) (fun z => absurd hx z)) (by decide) (by first | assumption | rfl) (by rfl) (Nat.le_of_ble_eq_true rfl) (Nat.le_refl _) (Nat.le_refl _) ?_
      refine z_if_eq (tgt := 25) dX10_sameWrong_5 (by decide) (fun hb => absurd hb (by decide)) (fun _ => ?_)
      refine z_aload_n dX10_sameWrong_8 rfl ?_
      refine z_iload_n dX10_sameWrong_9 rfl ?_
      refine z_cV1s mX10_isSheet gRX10_151 dX10_sameWrong_10 (q_isT (r := 0) h.1 hns (fun z => absurd z hy) (fun _ => rfl)) (by decide) (by first | assumption | rfl) (by rfl) (Nat.le_of_ble_eq_true rfl) (Nat.le_refl _) (Nat.le_refl _) ?_
      refine z_if_eq (tgt := 25) dX10_sameWrong_13 (by decide) (fun _ => ?_) (fun hb => absurd (rfl) hb)
      exact bad he
    · refine z_cV1s mX10_isSheet gRX10_151 dX10_sameWrong_2 (q_isT (r := 0) h.1 hns (fun z => absurd z hx) (fun _ => rfl)) (by decide) (by first | assumption | rfl) (by rfl) (Nat.le_of_ble_eq_true rfl) (Nat.le_refl _) (Nat.le_refl _) ?_
      refine z_if_eq (tgt := 25) dX10_sameWrong_5 (by decide) (fun _ => ?_) (fun hb => absurd (rfl) hb)
      exact bad he
theorem q_suspects {I : ZI} {A : AS} {hc : Nat} {Hh : Nat → AS} {tc : Nat} {bf : Nat → Nat} (h : RI I A hc Hh tc bf) : ZP yX10_suspects cX10_suspects 6 (some FieldType.int) 7 [.ref 259] Sg I (fun r J => r = some (.int (suO A (ans A)).1) ∧ (∀ a, a < 259 → J a = I a) ∧ RI J A hc Hh tc bf) := by
  have g0 := m_obj
  have hns := h.2.1.2.2.2.2.1
  refine ZSp.of (own := RX10) (L := [.ref 259, zj, zj, zj, zj, zj]) mX10_suspects rfl (List.all_eq_true.mp rfl) (Nat.le_of_ble_eq_true rfl) rfl (fun X hE hN => ?_)
  have inner : ∀ (s : Nat), s < ans A → ∀ (b : Int32 × Int32) (m k : Nat) (K : ZI), k + m = ans A - (s + 1) → MFr I K → (∀ J, MFr I J → (ZG X RX10 cX10_suspects 6 7 0 0 0 0 8 [.ref 259, .int (suI A s b (ans A - (s + 1))).1, .int (suI A s b (ans A - (s + 1))).2, .int (nI (s + 1)), zj, zj] [] Sg J)) → (ZG X RX10 cX10_suspects 6 7 0 0 0 0 23 [.ref 259, .int (suI A s b k).1, .int (suI A s b k).2, .int (nI s), .int (nI (s + 1 + k)), zj] [] Sg K) := by
    intro s hs1 b m
    induction m with
    | zero =>
      intro k K hk c1 nxt
      have e : k = ans A - (s + 1) := by omega
      subst e
      have hRK := c1.ri h
      refine z_iload dX10_suspects_23 rfl ?_
      refine z_aload_n dX10_suspects_25 rfl ?_
      refine z_getR fRX10_7 dX10_suspects_26 (by first | assumption | rfl) (by rfl) ?_
      refine z_iconst (v := 3) dX10_suspects_29 rfl ?_
      refine z_ialdN (j := 3) dX10_suspects_30 m_v (rfl) (by decide) (by decide) ?_
      rw [hRK.1.2.2.2.1]
      refine z_icmp_ge (tgt := 80) dX10_suspects_31 (by decide) (fun _ => ?_) (fun hb => absurd (nI_le (by omega) (by omega)) hb)
      refine z_inc3 (w := 1) dX10_suspects_80 rfl (by decide) rfl ?_
      refine z_goto (tgt := 8) dX10_suspects_83 (by decide) ?_
      rw [nI_1]
      refine z_fg4 (z_fg5 ?_)
      exact nxt K c1
    | succ m ih =>
      intro k K hk c1 nxt
      have hRK := c1.ri h
      have e1 : suI A s b (k + 1) = if (suI A s b k).2 < nI (swF A s (s + 1 + k) (anq A)) then (100 * nI s + nI (s + 1 + k), nI (swF A s (s + 1 + k) (anq A))) else suI A s b k := rfl
      refine z_iload dX10_suspects_23 rfl ?_
      refine z_aload_n dX10_suspects_25 rfl ?_
      refine z_getR fRX10_7 dX10_suspects_26 (by first | assumption | rfl) (by rfl) ?_
      refine z_iconst (v := 3) dX10_suspects_29 rfl ?_
      refine z_ialdN (j := 3) dX10_suspects_30 m_v (rfl) (by decide) (by decide) ?_
      rw [hRK.1.2.2.2.1]
      refine z_icmp_ge (tgt := 80) dX10_suspects_31 (by decide) (fun hb => absurd hb (nI_ge (by omega) (by omega))) (fun _ => ?_)
      refine z_aload_n dX10_suspects_34 rfl ?_
      refine z_iload_n dX10_suspects_35 rfl ?_
      refine z_iload dX10_suspects_36 rfl ?_
      refine z_cV2p mX10_shared gRX10_164 dX10_suspects_38 (q_shared hRK rfl hs1 rfl (show s + 1 + k < ans A by omega)) (by decide) (by first | assumption | rfl) (by rfl) (Nat.le_of_ble_eq_true rfl) (Nat.le_refl _) (Nat.le_refl _) (fun r J hq => ?_)
      obtain ⟨rfl, d1⟩ := hq
      have nx2 := ih (k + 1) J (by omega) (c1.trans d1) nxt
      refine z_ist5 dX10_suspects_41 (by decide) rfl ?_
      refine z_iload dX10_suspects_43 rfl ?_
      refine z_iload_n dX10_suspects_45 rfl ?_
      by_cases hlt : (suI A s b k).2 < nI (swF A s (s + 1 + k) (anq A))
      · rw [e1, if_pos hlt] at nx2
        refine z_icmp_le (tgt := 59) dX10_suspects_46 (by decide) (fun hb => absurd hb (Int32.not_le.mpr hlt)) (fun _ => ?_)
        refine z_bipush (v := 100) dX10_suspects_49 rfl ?_
        refine z_iload_n dX10_suspects_51 rfl ?_
        refine z_imul dX10_suspects_52 ?_
        refine z_iload dX10_suspects_53 rfl ?_
        refine z_iadd dX10_suspects_55 ?_
        refine z_goto (tgt := 60) dX10_suspects_56 (by decide) ?_
        refine z_ist1 dX10_suspects_60 (by decide) rfl ?_
        refine z_iload dX10_suspects_61 rfl ?_
        refine z_iload_n dX10_suspects_63 rfl ?_
        refine z_icmp_le (tgt := 72) dX10_suspects_64 (by decide) (fun hb => absurd hb (Int32.not_le.mpr hlt)) (fun _ => ?_)
        refine z_iload dX10_suspects_67 rfl ?_
        refine z_goto (tgt := 73) dX10_suspects_69 (by decide) ?_
        refine z_ist2 dX10_suspects_73 (by decide) rfl ?_
        refine z_inc4 (w := 1) dX10_suspects_74 rfl (by decide) rfl ?_
        refine z_goto (tgt := 23) dX10_suspects_77 (by decide) ?_
        rw [nI_1]
        refine z_fg5 ?_
        exact nx2
      · rw [e1, if_neg hlt] at nx2
        refine z_icmp_le (tgt := 59) dX10_suspects_46 (by decide) (fun _ => ?_) (fun hb => absurd (Int32.not_lt.mp hlt) hb)
        refine z_iload_n dX10_suspects_59 rfl ?_
        refine z_ist1 dX10_suspects_60 (by decide) rfl ?_
        refine z_iload dX10_suspects_61 rfl ?_
        refine z_iload_n dX10_suspects_63 rfl ?_
        refine z_icmp_le (tgt := 72) dX10_suspects_64 (by decide) (fun _ => ?_) (fun hb => absurd (Int32.not_lt.mp hlt) hb)
        refine z_iload_n dX10_suspects_72 rfl ?_
        refine z_ist2 dX10_suspects_73 (by decide) rfl ?_
        refine z_inc4 (w := 1) dX10_suspects_74 rfl (by decide) rfl ?_
        refine z_goto (tgt := 23) dX10_suspects_77 (by decide) ?_
        rw [nI_1]
        refine z_fg5 ?_
        exact nx2
  have outer : ∀ (m s : Nat) (K : ZI), s + m = ans A → MFr I K → (ZG X RX10 cX10_suspects 6 7 0 0 0 0 8 [.ref 259, .int (suO A s).1, .int (suO A s).2, .int (nI s), zj, zj] [] Sg K) := by
    intro m
    induction m with
    | zero =>
      intro s K hs1 c1
      have e : s = ans A := by omega
      subst e
      have hRK := c1.ri h
      refine z_iload_n dX10_suspects_8 rfl ?_
      refine z_aload_n dX10_suspects_9 rfl ?_
      refine z_getR fRX10_7 dX10_suspects_10 (by first | assumption | rfl) (by rfl) ?_
      refine z_iconst (v := 3) dX10_suspects_13 rfl ?_
      refine z_ialdN (j := 3) dX10_suspects_14 m_v (rfl) (by decide) (by decide) ?_
      rw [hRK.1.2.2.2.1]
      refine z_icmp_ge (tgt := 86) dX10_suspects_15 (by decide) (fun _ => ?_) (fun hb => absurd (nI_le (Nat.le_refl _) (by omega)) hb)
      refine z_iload_n dX10_suspects_86 rfl ?_
      exact z_iret hE dX10_suspects_87 ⟨rfl, rfl, fun a ha => c1.1 a (Or.inl ha), hRK⟩
    | succ m ih =>
      intro s K hs1 c1
      have hRK := c1.ri h
      refine z_iload_n dX10_suspects_8 rfl ?_
      refine z_aload_n dX10_suspects_9 rfl ?_
      refine z_getR fRX10_7 dX10_suspects_10 (by first | assumption | rfl) (by rfl) ?_
      refine z_iconst (v := 3) dX10_suspects_13 rfl ?_
      refine z_ialdN (j := 3) dX10_suspects_14 m_v (rfl) (by decide) (by decide) ?_
      rw [hRK.1.2.2.2.1]
      refine z_icmp_ge (tgt := 86) dX10_suspects_15 (by decide) (fun hb => absurd hb (nI_ge (by omega) (by omega))) (fun _ => ?_)
      refine z_iload_n dX10_suspects_18 rfl ?_
      refine z_iconst (v := 1) dX10_suspects_19 rfl ?_
      refine z_iadd dX10_suspects_20 ?_
      refine z_ist4 dX10_suspects_21 (by decide) rfl ?_
      rw [nI_1]
      exact inner s (by omega) (suO A s) (ans A - (s + 1)) 0 K (by omega) c1 (fun J q => ih (s + 1) J (by omega) q)
  refine z_sipush (v := -1009) dX10_suspects_0 rfl ?_
  refine z_ist1 dX10_suspects_3 (by decide) rfl ?_
  refine z_iconst (v := -1) dX10_suspects_4 rfl ?_
  refine z_ist2 dX10_suspects_5 (by decide) rfl ?_
  refine z_iconst (v := 0) dX10_suspects_6 rfl ?_
  refine z_ist3 dX10_suspects_7 (by decide) rfl ?_
  exact outer (ans A) 0 I (by omega) (MFr.refl I)
theorem q_mistaken {I : ZI} {A : AS} {hc : Nat} {Hh : Nat → AS} {tc : Nat} {bf : Nat → Nat} {x y a : Int32} (h : RI I A hc Hh tc bf) (hD : aMistaken A x y a) : ZP yX10_mistaken cX10_mistaken 3 (some FieldType.int) 5 [.ref 259, .int x, .int y] Sg I (fun r J => r = some (.int a) ∧ (∀ a, a < 259 → J a = I a) ∧ RI J A hc Hh tc bf) := by
  have g0 := m_obj
  have hn := h.2.1.1.1
  have hns := h.2.1.2.2.2.2.1
  have hnv := h.2.1.2.1
  refine ZSp.of (own := RX10) (L := [.ref 259, .int x, .int y]) mX10_mistaken rfl (List.all_eq_true.mp rfl) (Nat.le_of_ble_eq_true rfl) rfl (fun X hE hN => ?_)
  refine z_aload_n dX10_mistaken_0 rfl ?_
  refine z_iload_n dX10_mistaken_1 rfl ?_
  have bad : a = -1001 → (ZG X RX10 cX10_mistaken 3 5 0 0 0 0 16 [.ref 259, .int x, .int y] [] Sg I) := by
    rintro rfl
    refine z_sipush (v := -1001) dX10_mistaken_16 rfl ?_
    exact z_iret hE dX10_mistaken_19 ⟨rfl, rfl, fun _ _ => rfl, h⟩
  rcases hD with ⟨t, v, ht, rfl, hv, rfl, rfl⟩ | ⟨hb, he⟩
  · have hle : cR (amk A t) (vK A v) (anq A) + cW (amk A t) (vK A v) (anq A) ≤ anq A := cRW_le _ _ _
    refine z_cV1s mX10_isSheet gRX10_151 dX10_mistaken_2 (q_isT (r := 1) h.1 hns (fun _ => rfl) (fun z => absurd ⟨t, ht, rfl⟩ z)) (by decide) (by first | assumption | rfl) (by rfl) (Nat.le_of_ble_eq_true rfl) (Nat.le_refl _) (Nat.le_refl _) ?_
    refine z_if_eq (tgt := 16) dX10_mistaken_5 (by decide) (fun hb => absurd hb (by decide)) (fun _ => ?_)
    refine z_aload_n dX10_mistaken_8 rfl ?_
    refine z_iload_n dX10_mistaken_9 rfl ?_
    refine z_cV1s mX10_isVersion gRX10_103 dX10_mistaken_10 (q_isV (r := 1) h.1 hnv (fun _ => rfl) (fun z => absurd ⟨v, hv, rfl⟩ z)) (by decide) (by first | assumption | rfl) (by rfl) (Nat.le_of_ble_eq_true rfl) (Nat.le_refl _) (Nat.le_refl _) ?_
    refine z_if_ne (tgt := 20) dX10_mistaken_13 (by decide) (fun _ => ?_) (fun hb => absurd hb (by decide))
    refine z_aload_n dX10_mistaken_20 rfl ?_
    refine z_iload_n dX10_mistaken_21 rfl ?_
    refine z_cV1p mX10_opens gRX10_106 dX10_mistaken_22 (q_opens h.1 h.2.1 rfl hv) (by decide) (by first | assumption | rfl) (by rfl) (Nat.le_of_ble_eq_true rfl) (Nat.le_refl _) (Nat.le_refl _) (fun r J hq => ?_)
    obtain ⟨rfl, b1, b2⟩ := hq
    have hKf : ∀ p, p < anq A → J 263 p = nI (vK A v p) ∧ vK A v p < 5 := by
      intro p hp
      have c1 := (Ky_lt (seed := asd A v) h.2.1.1 hp).1
      have c2 := (h.2.1.1.2 _ ((Od_en (anq A) (aqd A) (asd A v)).1 p hp)).2.2.2.1
      exact ⟨b2.2.1 p hp, Nat.lt_of_lt_of_le c1 c2⟩
    refine z_aload_n dX10_mistaken_25 rfl ?_
    refine z_iload_n dX10_mistaken_26 rfl ?_
    refine z_cV1s mX10_counts gRX10_136 dX10_mistaken_27 (q_counts (b1.ri h).1 h.2.1 rfl ht hKf) (by decide) (by first | assumption | rfl) (by rfl) (Nat.le_of_ble_eq_true rfl) (Nat.le_refl _) (Nat.le_refl _) ?_
    refine z_cS1s mX10_pointsBy gRX10_142 dX10_mistaken_30 (q_pointsBy rfl (show cR (amk A t) (vK A v) (anq A) < 21 by omega) (show cW (amk A t) (vK A v) (anq A) < 21 by omega)) (by decide) (Nat.le_of_ble_eq_true rfl) (Nat.le_refl _) (Nat.le_refl _) ?_
    exact z_iret hE dX10_mistaken_33 ⟨rfl, rfl, fun a ha => b1.1 a (Or.inl ha), b1.ri h⟩
  · by_cases hx : isT A x
    · have hy : ¬ isV A y := hb.elim (fun z => absurd hx z) id
      refine z_cV1s mX10_isSheet gRX10_151 dX10_mistaken_2 (q_isT (r := 1) h.1 hns (fun _ => rfl) (fun z => absurd hx z)) (by decide) (by first | assumption | rfl) (by rfl) (Nat.le_of_ble_eq_true rfl) (Nat.le_refl _) (Nat.le_refl _) ?_
      refine z_if_eq (tgt := 16) dX10_mistaken_5 (by decide) (fun hb => absurd hb (by decide)) (fun _ => ?_)
      refine z_aload_n dX10_mistaken_8 rfl ?_
      refine z_iload_n dX10_mistaken_9 rfl ?_
      refine z_cV1s mX10_isVersion gRX10_103 dX10_mistaken_10 (q_isV (r := 0) h.1 hnv (fun z => absurd z hy) (fun _ => rfl)) (by decide) (by first | assumption | rfl) (by rfl) (Nat.le_of_ble_eq_true rfl) (Nat.le_refl _) (Nat.le_refl _) ?_
      refine z_if_ne (tgt := 20) dX10_mistaken_13 (by decide) (fun hb => absurd (rfl) hb) (fun _ => ?_)
      exact bad he
    · refine z_cV1s mX10_isSheet gRX10_151 dX10_mistaken_2 (q_isT (r := 0) h.1 hns (fun z => absurd z hx) (fun _ => rfl)) (by decide) (by first | assumption | rfl) (by rfl) (Nat.le_of_ble_eq_true rfl) (Nat.le_refl _) (Nat.le_refl _) ?_
      refine z_if_eq (tgt := 16) dX10_mistaken_5 (by decide) (fun _ => ?_) (fun hb => absurd (rfl) hb)
      exact bad he
theorem q_mean {I : ZI} {A : AS} {hc : Nat} {Hh : Nat → AS} {tc : Nat} {bf : Nat → Nat} (h : RI I A hc Hh tc bf) : ZP yX10_mean cX10_mean 3 (some FieldType.float) 7 [.ref 259] Sg I (fun r J => r = some (.float (mnF A)) ∧ (∀ a, a < 259 → J a = I a) ∧ RI J A hc Hh tc bf) := by
  have g0 := m_obj
  have hns := h.2.1.2.2.2.2.1
  refine ZSp.of (own := RX10) (L := [.ref 259, zj, zj]) mX10_mean rfl (List.all_eq_true.mp rfl) (Nat.le_of_ble_eq_true rfl) rfl (fun X hE hN => ?_)
  have loop : ∀ (m t : Nat) (K : ZI), t + m = ans A → MFr I K → (ZG X RX10 cX10_mean 3 7 0 0 0 0 4 [.ref 259, .int (mnS A t), .int (nI t)] [] Sg K) := by
    intro m
    induction m with
    | zero =>
      intro t K ht c1
      have e : t = ans A := by omega
      subst e
      have hRK := c1.ri h
      refine z_iload_n dX10_mean_4 rfl ?_
      refine z_aload_n dX10_mean_5 rfl ?_
      refine z_getR fRX10_7 dX10_mean_6 (by first | assumption | rfl) (by rfl) ?_
      refine z_iconst (v := 3) dX10_mean_9 rfl ?_
      refine z_ialdN (j := 3) dX10_mean_10 m_v (rfl) (by decide) (by decide) ?_
      rw [hRK.1.2.2.2.1]
      refine z_icmp_ge (tgt := 28) dX10_mean_11 (by decide) (fun _ => ?_) (fun hb => absurd (nI_le (Nat.le_refl _) (by omega)) hb)
      refine z_aload_n dX10_mean_28 rfl ?_
      refine z_getR fRX10_7 dX10_mean_29 (by first | assumption | rfl) (by rfl) ?_
      refine z_iconst (v := 3) dX10_mean_32 rfl ?_
      refine z_ialdN (j := 3) dX10_mean_33 m_v (rfl) (by decide) (by decide) ?_
      rw [hRK.1.2.2.2.1]
      by_cases hne : ans A = 0
      · refine z_if_ne (tgt := 41) dX10_mean_34 (by decide) (fun hb => absurd (by rw [hne]; rfl) hb) (fun _ => ?_)
        refine z_fconst0 dX10_mean_37 ?_
        refine z_goto (tgt := 51) dX10_mean_38 (by decide) ?_
        exact z_fret hE dX10_mean_51 ⟨rfl, by rw [mnF, if_pos hne], fun a ha => c1.1 a (Or.inl ha), hRK⟩
      · refine z_if_ne (tgt := 41) dX10_mean_34 (by decide) (fun _ => ?_) (fun hb => absurd hb (nI_ne0 (by omega) (by omega)))
        refine z_iload_n dX10_mean_41 rfl ?_
        refine z_i2f dX10_mean_42 ?_
        refine z_aload_n dX10_mean_43 rfl ?_
        refine z_getR fRX10_7 dX10_mean_44 (by first | assumption | rfl) (by rfl) ?_
        refine z_iconst (v := 3) dX10_mean_47 rfl ?_
        refine z_ialdN (j := 3) dX10_mean_48 m_v (rfl) (by decide) (by decide) ?_
        rw [hRK.1.2.2.2.1]
        refine z_i2f dX10_mean_49 ?_
        refine z_fdiv dX10_mean_50 (f_div _ hne (by omega)) ?_
        exact z_fret hE dX10_mean_51 ⟨rfl, by rw [mnF, if_neg hne], fun a ha => c1.1 a (Or.inl ha), hRK⟩
    | succ m ih =>
      intro t K ht c1
      have hRK := c1.ri h
      refine z_iload_n dX10_mean_4 rfl ?_
      refine z_aload_n dX10_mean_5 rfl ?_
      refine z_getR fRX10_7 dX10_mean_6 (by first | assumption | rfl) (by rfl) ?_
      refine z_iconst (v := 3) dX10_mean_9 rfl ?_
      refine z_ialdN (j := 3) dX10_mean_10 m_v (rfl) (by decide) (by decide) ?_
      rw [hRK.1.2.2.2.1]
      refine z_icmp_ge (tgt := 28) dX10_mean_11 (by decide) (fun hb => absurd hb (nI_ge (by omega) (by omega))) (fun _ => ?_)
      refine z_iload_n dX10_mean_14 rfl ?_
      refine z_aload_n dX10_mean_15 rfl ?_
      refine z_iload_n dX10_mean_16 rfl ?_
      refine z_cV1p mX10_points gRX10_145 dX10_mean_17 (q_points hRK rfl (show t < ans A by omega)) (by decide) (by first | assumption | rfl) (by rfl) (Nat.le_of_ble_eq_true rfl) (Nat.le_refl _) (Nat.le_refl _) (fun r J hq => ?_)
      obtain ⟨rfl, d1⟩ := hq
      refine z_iadd dX10_mean_20 ?_
      refine z_ist1 dX10_mean_21 (by decide) rfl ?_
      refine z_inc2 (w := 1) dX10_mean_22 rfl (by decide) rfl ?_
      refine z_goto (tgt := 4) dX10_mean_25 (by decide) ?_
      rw [nI_1]
      exact ih (t + 1) J (by omega) (c1.trans d1)
  refine z_iconst (v := 0) dX10_mean_0 rfl ?_
  refine z_ist1 dX10_mean_1 (by decide) rfl ?_
  refine z_iconst (v := 0) dX10_mean_2 rfl ?_
  refine z_ist2 dX10_mean_3 (by decide) rfl ?_
  exact loop (ans A) 0 I (by omega) (MFr.refl I)

