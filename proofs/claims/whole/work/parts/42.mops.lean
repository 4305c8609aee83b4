/-! ===== the model's small acts -/
theorem z_toRI {J K : ZI} {A A' : AS} {hc : Nat} {Hh : Nat → AS} {tc : Nat} {bf : Nat → Nat} (hB : RI J A hc Hh tc bf) (hS : RV (K 260) A') (hV : AV A') (hk : ∀ a, a = 259 ∨ a = 261 ∨ a = 271 → K a = J a) : RI K A' hc Hh tc bf :=
  ⟨hS, hV, ⟨by rw [hk _ (Or.inl rfl)]; exact hB.2.2.1.1, hB.2.2.1.2.1, fun i hi => by rw [hk _ (Or.inr (Or.inl rfl))]; exact hB.2.2.1.2.2 i hi⟩, by rw [hk _ (Or.inl rfl)]; exact hB.2.2.2.1, hB.2.2.2.2.1, fun k q => by rw [hk _ (Or.inr (Or.inr rfl))]; exact hB.2.2.2.2.2 k q⟩
theorem q_questions {I : ZI} {A : AS} {hc : Nat} {Hh : Nat → AS} {tc : Nat} {bf : Nat → Nat} (h : RI I A hc Hh tc bf) : ZE yX10_questions cX10_questions 1 (some FieldType.int) 0 [.ref 259] Sg I (some (.int (nI (anq A)))) I := by
  have g0 := m_obj
  refine ZSp.of (own := RX10) (L := [.ref 259]) mX10_questions rfl (List.all_eq_true.mp rfl) (Nat.le_of_ble_eq_true rfl) rfl (fun X hE hN => ?_)
  refine z_aload_n dX10_questions_0 rfl ?_
  refine z_getR fRX10_7 dX10_questions_1 (by first | assumption | rfl) (by rfl) ?_
  refine z_iconst (v := 0) dX10_questions_4 rfl ?_
  refine z_ialdN (j := 0) dX10_questions_5 m_v (rfl) (by decide) (by decide) ?_
  rw [h.1.1]
  exact z_eireturn hE dX10_questions_6 rfl rfl
theorem q_versions {I : ZI} {A : AS} {hc : Nat} {Hh : Nat → AS} {tc : Nat} {bf : Nat → Nat} (h : RI I A hc Hh tc bf) : ZE yX10_versions cX10_versions 1 (some FieldType.int) 0 [.ref 259] Sg I (some (.int (nI (anv A)))) I := by
  have g0 := m_obj
  refine ZSp.of (own := RX10) (L := [.ref 259]) mX10_versions rfl (List.all_eq_true.mp rfl) (Nat.le_of_ble_eq_true rfl) rfl (fun X hE hN => ?_)
  refine z_aload_n dX10_versions_0 rfl ?_
  refine z_getR fRX10_7 dX10_versions_1 (by first | assumption | rfl) (by rfl) ?_
  refine z_iconst (v := 1) dX10_versions_4 rfl ?_
  refine z_ialdN (j := 1) dX10_versions_5 m_v (rfl) (by decide) (by decide) ?_
  rw [h.1.2.1]
  exact z_eireturn hE dX10_versions_6 rfl rfl
theorem q_question {I : ZI} {A : AS} {hc : Nat} {Hh : Nat → AS} {tc : Nat} {bf : Nat → Nat} {x y a : Int32} (h : RI I A hc Hh tc bf) (hD : aQuestion A x y a) : ZE yX10_question cX10_question 3 (some FieldType.int) 2 [.ref 259, .int x, .int y] Sg I (some (.int a)) I := by
  have g0 := m_obj
  have hn := h.2.1.1.1
  refine ZSp.of (own := RX10) (L := [.ref 259, .int x, .int y]) mX10_question rfl (List.all_eq_true.mp rfl) (Nat.le_of_ble_eq_true rfl) rfl (fun X hE hN => ?_)
  refine z_aload_n dX10_question_0 rfl ?_
  refine z_iload_n dX10_question_1 rfl ?_
  rcases hD with ⟨q, w, hq, rfl, hw, rfl, rfl⟩ | ⟨hb, rfl⟩
  · refine z_cV1s mX10_isQuestion gRX10_57 dX10_question_2 (q_isQ (r := 1) h.1 hn (fun _ => rfl) (fun z => absurd ⟨q, hq, rfl⟩ z)) (by decide) (by first | assumption | rfl) (by rfl) (Nat.le_of_ble_eq_true rfl) (Nat.le_refl _) (Nat.le_refl _) ?_
    refine z_if_eq (tgt := 26) dX10_question_5 (by decide) (fun hb => absurd hb (by decide)) (fun _ => ?_)
    refine z_iload_n dX10_question_8 rfl ?_
    refine z_iconst (v := 0) dX10_question_9 rfl ?_
    refine z_iconst (v := 4) dX10_question_10 rfl ?_
    refine z_cS3s mX10_in gRX10_50 dX10_question_11 (q_in (r := 1) (fun _ _ => rfl) (fun z => z.elim (fun e => absurd e (nI_pos (by omega))) (fun e => absurd e (nI_nlt (b := w) (a := 4) (by omega) (by decide))))) (by decide) (Nat.le_of_ble_eq_true rfl) (Nat.le_refl _) (Nat.le_refl _) ?_
    refine z_if_eq (tgt := 26) dX10_question_14 (by decide) (fun hb => absurd hb (by decide)) (fun _ => ?_)
    refine z_aload_n dX10_question_17 rfl ?_
    refine z_iload_n dX10_question_18 rfl ?_
    refine z_iload_n dX10_question_19 rfl ?_
    refine z_cV2s mX10_of gRX10_61 dX10_question_20 (q_of h.1 hn rfl rfl hq hw) (by decide) (by first | assumption | rfl) (by rfl) (Nat.le_of_ble_eq_true rfl) (Nat.le_refl _) (Nat.le_refl _) ?_
    refine z_goto (tgt := 29) dX10_question_23 (by decide) ?_
    exact z_eireturn hE dX10_question_29 rfl rfl
  · have bad : (ZG X RX10 cX10_question 3 2 0 0 0 0 26 [.ref 259, .int x, .int y] [] Sg I) := by
      refine z_sipush (v := -1001) dX10_question_26 rfl ?_
      exact z_eireturn hE dX10_question_29 rfl rfl
    by_cases hx : isQ A x
    · refine z_cV1s mX10_isQuestion gRX10_57 dX10_question_2 (q_isQ (r := 1) h.1 hn (fun _ => rfl) (fun z => absurd hx z)) (by decide) (by first | assumption | rfl) (by rfl) (Nat.le_of_ble_eq_true rfl) (Nat.le_refl _) (Nat.le_refl _) ?_
      refine z_if_eq (tgt := 26) dX10_question_5 (by decide) (fun hb => absurd hb (by decide)) (fun _ => ?_)
      refine z_iload_n dX10_question_8 rfl ?_
      refine z_iconst (v := 0) dX10_question_9 rfl ?_
      refine z_iconst (v := 4) dX10_question_10 rfl ?_
      have hy : ¬ (¬ y < 0 ∧ y ≤ 4) := by
        rintro ⟨y1, y2⟩
        obtain ⟨w, hw, rfl⟩ := nI_of2 (M := 4) (n := 4) rfl y1 y2
        exact hb.elim (fun z => z hx) (fun z => z ⟨w, by omega, rfl⟩)
      refine z_cS3s mX10_in gRX10_50 dX10_question_11 (q_in (r := 0) (fun y1 y2 => absurd ⟨y1, y2⟩ hy) (fun _ => rfl)) (by decide) (Nat.le_of_ble_eq_true rfl) (Nat.le_refl _) (Nat.le_refl _) ?_
      refine z_if_eq (tgt := 26) dX10_question_14 (by decide) (fun _ => ?_) (fun hb => absurd (rfl) hb)
      exact bad
    · refine z_cV1s mX10_isQuestion gRX10_57 dX10_question_2 (q_isQ (r := 0) h.1 hn (fun z => absurd z hx) (fun _ => rfl)) (by decide) (by first | assumption | rfl) (by rfl) (Nat.le_of_ble_eq_true rfl) (Nat.le_refl _) (Nat.le_refl _) ?_
      refine z_if_eq (tgt := 26) dX10_question_5 (by decide) (fun _ => ?_) (fun hb => absurd (rfl) hb)
      exact bad
theorem q_sets {I : ZI} {A : AS} {hc : Nat} {Hh : Nat → AS} {tc : Nat} {bf : Nat → Nat} {x y : Int32} {k : Nat} (h : RI I A hc Hh tc bf) (hx : x = nI k) (hk : k < 540) : ZP yX10_sets cX10_sets 4 (some FieldType.int) 1 [.ref 259, .int x, .int y] Sg I (fun r J => r = some (.int (I 260 k)) ∧ (∀ a, a < 259 → J a = I a) ∧ J 260 = upd (I 260) k y ∧ ∀ A', RV (J 260) A' → AV A' → RI J A' (phc hc) (pHh hc Hh A) tc bf) := by
  have g0 := m_obj
  subst hx
  refine ZSp.of (own := RX10) (L := [.ref 259, .int (nI k), .int y, zj]) mX10_sets rfl (List.all_eq_true.mp rfl) (Nat.le_of_ble_eq_true rfl) rfl (fun X hE hN => ?_)
  refine z_aload_n dX10_sets_0 rfl ?_
  refine z_cV0p mX10_act gRX10_54 dX10_sets_1 (q_act h) (by decide) (by first | assumption | rfl) (by rfl) (Nat.le_of_ble_eq_true rfl) (Nat.le_refl _) (Nat.le_refl _) (fun r J hq => ?_)
  obtain ⟨rfl, b1, b2, b3⟩ := hq
  have e : J 260 = I 260 := b1 _ (by decide) (by decide)
  refine z_aload_n dX10_sets_4 rfl ?_
  refine z_getR fRX10_7 dX10_sets_5 (by first | assumption | rfl) (by rfl) ?_
  refine z_iload_n dX10_sets_8 rfl ?_
  refine z_ialdN dX10_sets_9 m_v (rfl) (hk) (by decide) ?_
  rw [e]
  refine z_ist3 dX10_sets_10 (by decide) rfl ?_
  refine z_aload_n dX10_sets_11 rfl ?_
  refine z_getR fRX10_7 dX10_sets_12 (by first | assumption | rfl) (by rfl) ?_
  refine z_iload_n dX10_sets_15 rfl ?_
  refine z_iload_n dX10_sets_16 rfl ?_
  refine z_iastN dX10_sets_17 m_v (rfl) (hk) (by decide) ?_
  refine z_iload_n dX10_sets_18 rfl ?_
  exact z_iret hE dX10_sets_19 ⟨rfl, rfl, fun a ha => by rw [zup_ne _ _ _ (by omega), b1 a (by omega) (by omega)], by rw [zup_at, e], fun A' r1 r2 => z_toRI b3 r1 r2 (fun a ha => zup_ne _ _ _ (by omega))⟩
theorem q_setLines {I : ZI} {A : AS} {hc : Nat} {Hh : Nat → AS} {tc : Nat} {bf : Nat → Nat} {x : Int32} {r0 : Option Value} {P : AS → Nat → (Nat → AS) → Nat → (Nat → Nat) → Prop} (h : RI I A hc Hh tc bf) (hD : (¬ isL x ∧ r0 = some (.int (-1001)) ∧ P A hc Hh tc bf) ∨ (∃ n, 9 ≤ n ∧ n ≤ 60 ∧ x = nI n ∧ r0 = some (.int (nI (aln A))) ∧ P (lnA A n) (phc hc) (pHh hc Hh A) tc bf)) : ZP yX10_setLines cX10_setLines 2 (some FieldType.int) 2 [.ref 259, .int x] Sg I (fun r J => r = r0 ∧ (∀ a, a < 259 → J a = I a) ∧ ∃ A' hc' Hh' tc' bf', P A' hc' Hh' tc' bf' ∧ RI J A' hc' Hh' tc' bf') := by
  have g0 := m_obj
  refine ZSp.of (own := RX10) (L := [.ref 259, .int x]) mX10_setLines rfl (List.all_eq_true.mp rfl) (Nat.le_of_ble_eq_true rfl) rfl (fun X hE hN => ?_)
  refine z_iload_n dX10_setLines_0 rfl ?_
  refine z_bipush (v := 9) dX10_setLines_1 rfl ?_
  refine z_bipush (v := 60) dX10_setLines_3 rfl ?_
  rcases hD with ⟨hb, rfl, hP⟩ | ⟨n, n1, n2, rfl, rfl, hP⟩
  · have hy : ¬ (¬ x < 9 ∧ x ≤ 60) := by
      rintro ⟨y1, y2⟩
      obtain ⟨w, hw, rfl⟩ := nI_of2 (M := 60) (n := 60) rfl (fun z => y1 (Int32.lt_trans z (by decide))) y2
      refine hb ⟨w, ?_, hw, rfl⟩
      rcases Nat.lt_or_ge w 9 with z | z
      · exact absurd (nI_lt (b := 9) z (by decide)) y1
      · exact z
    refine z_cS3s mX10_in gRX10_50 dX10_setLines_5 (q_in (r := 0) (fun y1 y2 => absurd ⟨y1, y2⟩ hy) (fun _ => rfl)) (by decide) (Nat.le_of_ble_eq_true rfl) (Nat.le_refl _) (Nat.le_refl _) ?_
    refine z_if_eq (tgt := 20) dX10_setLines_8 (by decide) (fun _ => ?_) (fun hb => absurd (rfl) hb)
    refine z_sipush (v := -1001) dX10_setLines_20 rfl ?_
    exact z_iret hE dX10_setLines_23 ⟨rfl, rfl, fun _ _ => rfl, _, _, _, _, _, hP, h⟩
  · refine z_cS3s mX10_in gRX10_50 dX10_setLines_5 (q_in (r := 1) (fun _ _ => rfl) (fun z => z.elim (fun e => absurd e (nI_nlt (b := 9) n1 (by omega))) (fun e => absurd e (nI_nlt (b := n) (a := 60) n2 (by decide))))) (by decide) (Nat.le_of_ble_eq_true rfl) (Nat.le_refl _) (Nat.le_refl _) ?_
    refine z_if_eq (tgt := 20) dX10_setLines_8 (by decide) (fun hb => absurd hb (by decide)) (fun _ => ?_)
    refine z_aload_n dX10_setLines_11 rfl ?_
    refine z_iconst (v := 2) dX10_setLines_12 rfl ?_
    refine z_iload_n dX10_setLines_13 rfl ?_
    refine z_cV2p mX10_sets gRX10_68 dX10_setLines_14 (q_sets h (show (2 : Int32) = nI 2 from rfl) (by decide)) (by decide) (by first | assumption | rfl) (by rfl) (Nat.le_of_ble_eq_true rfl) (Nat.le_refl _) (Nat.le_refl _) (fun r J hq => ?_)
    obtain ⟨rfl, b1, b2, b3⟩ := hq
    rw [h.1.2.2.1]
    refine z_goto (tgt := 23) dX10_setLines_17 (by decide) ?_
    refine z_iret hE dX10_setLines_23 ⟨rfl, rfl, b1, _, _, _, _, _, hP, b3 _ ?_ ?_⟩
    · rw [b2]
      obtain ⟨r1, r2, r3, r4, r5, r6, r7⟩ := h.1
      exact ⟨by rw [upd_ne _ _ (by decide)]; exact r1, by rw [upd_ne _ _ (by decide)]; exact r2, by rw [upd_at]; rfl, by rw [upd_ne _ _ (by decide)]; exact r4, fun i hi w hw => by rw [upd_ne _ _ (by omega)]; exact r5 i hi w hw, fun v hv => by rw [upd_ne _ _ (by omega)]; exact r6 v hv, fun t ht => ⟨by rw [upd_ne _ _ (by omega)]; exact (r7 t ht).1, fun p hp => by rw [upd_ne _ _ (by omega)]; exact (r7 t ht).2 p hp⟩⟩
    · obtain ⟨v1, v2, v3, v4, v5, v6⟩ := h.2.1
      exact ⟨v1, v2, n1, n2, v5, v6⟩
theorem q_version {I : ZI} {A : AS} {hc : Nat} {Hh : Nat → AS} {tc : Nat} {bf : Nat → Nat} {x : Int32} {r0 : Option Value} {P : AS → Nat → (Nat → AS) → Nat → (Nat → Nat) → Prop} (h : RI I A hc Hh tc bf) (hD : (∃ a, r0 = some (.int a) ∧ aVersion A a ∧ P A hc Hh tc bf) ∨ (ans A = 0 ∧ anv A < 6 ∧ r0 = some (.int (nI (anv A))) ∧ P (vrA A x) (phc hc) (pHh hc Hh A) tc bf)) : ZP yX10_version cX10_version 2 (some FieldType.int) 1 [.ref 259, .int x] Sg I (fun r J => r = r0 ∧ (∀ a, a < 259 → J a = I a) ∧ ∃ A' hc' Hh' tc' bf', P A' hc' Hh' tc' bf' ∧ RI J A' hc' Hh' tc' bf') := by
  have g0 := m_obj
  have hns := h.2.1.2.2.2.2.1
  have hnv := h.2.1.2.1
  refine ZSp.of (own := RX10) (L := [.ref 259, .int x]) mX10_version rfl (List.all_eq_true.mp rfl) (Nat.le_of_ble_eq_true rfl) rfl (fun X hE hN => ?_)
  refine z_aload_n dX10_version_0 rfl ?_
  refine z_getR fRX10_7 dX10_version_1 (by first | assumption | rfl) (by rfl) ?_
  refine z_iconst (v := 3) dX10_version_4 rfl ?_
  refine z_ialdN (j := 3) dX10_version_5 m_v (rfl) (by decide) (by decide) ?_
  rw [h.1.2.2.2.1]
  rcases hD with ⟨a, rfl, ⟨hz, rfl⟩ | ⟨hz, hv, rfl⟩, hP⟩ | ⟨hz, hv, rfl, hP⟩
  · refine z_if_le (tgt := 13) dX10_version_6 (by decide) (fun hb => absurd hb (nI_nle (by omega) (by omega))) (fun _ => ?_)
    refine z_sipush (v := -1002) dX10_version_9 rfl ?_
    exact z_iret hE dX10_version_12 ⟨rfl, rfl, fun _ _ => rfl, _, _, _, _, _, hP, h⟩
  · refine z_if_le (tgt := 13) dX10_version_6 (by decide) (fun _ => ?_) (fun hb => absurd (by rw [hz]; decide) hb)
    refine z_aload_n dX10_version_13 rfl ?_
    refine z_getR fRX10_7 dX10_version_14 (by first | assumption | rfl) (by rfl) ?_
    refine z_iconst (v := 1) dX10_version_17 rfl ?_
    refine z_ialdN (j := 1) dX10_version_18 m_v (rfl) (by decide) (by decide) ?_
    rw [h.1.2.1]
    refine z_bipush (v := 6) dX10_version_19 rfl ?_
    refine z_icmp_ne (tgt := 28) dX10_version_21 (by decide) (fun hb => absurd (by rw [hv]; rfl) hb) (fun _ => ?_)
    refine z_sipush (v := -1003) dX10_version_24 rfl ?_
    exact z_iret hE dX10_version_27 ⟨rfl, rfl, fun _ _ => rfl, _, _, _, _, _, hP, h⟩
  · refine z_if_le (tgt := 13) dX10_version_6 (by decide) (fun _ => ?_) (fun hb => absurd (by rw [hz]; decide) hb)
    refine z_aload_n dX10_version_13 rfl ?_
    refine z_getR fRX10_7 dX10_version_14 (by first | assumption | rfl) (by rfl) ?_
    refine z_iconst (v := 1) dX10_version_17 rfl ?_
    refine z_ialdN (j := 1) dX10_version_18 m_v (rfl) (by decide) (by decide) ?_
    rw [h.1.2.1]
    refine z_bipush (v := 6) dX10_version_19 rfl ?_
    refine z_icmp_ne (tgt := 28) dX10_version_21 (by decide) (fun _ => ?_) (fun hb => absurd hb (fun q => by have := (nI_eq (b := 6) (by omega) (by decide)).mp q; omega))
    refine z_aload_n dX10_version_28 rfl ?_
    refine z_cV0p mX10_act gRX10_54 dX10_version_29 (q_act h) (by decide) (by first | assumption | rfl) (by rfl) (Nat.le_of_ble_eq_true rfl) (Nat.le_refl _) (Nat.le_refl _) (fun r J hq => ?_)
    obtain ⟨rfl, b1, b2, b3⟩ := hq
    have e : J 260 = I 260 := b1 _ (by decide) (by decide)
    refine z_aload_n dX10_version_32 rfl ?_
    refine z_getR fRX10_7 dX10_version_33 (by first | assumption | rfl) (by rfl) ?_
    refine z_bipush (v := 110) dX10_version_36 rfl ?_
    refine z_aload_n dX10_version_38 rfl ?_
    refine z_getR fRX10_7 dX10_version_39 (by first | assumption | rfl) (by rfl) ?_
    refine z_iconst (v := 1) dX10_version_42 rfl ?_
    refine z_ialdN (j := 1) dX10_version_43 m_v (rfl) (by decide) (by decide) ?_
    rw [e, h.1.2.1]
    refine z_iadd dX10_version_44 ?_
    refine z_iload_n dX10_version_45 rfl ?_
    refine z_iastN dX10_version_46 m_v (show (110 : Int32) + nI (anv A) = nI (110 + anv A) from nI_add 110 _) (by omega) (by decide) ?_
    refine z_aload_n dX10_version_47 rfl ?_
    refine z_getR fRX10_7 dX10_version_48 (by first | assumption | rfl) (by rfl) ?_
    refine z_iconst (v := 1) dX10_version_51 rfl ?_
    refine z_dup2 dX10_version_52 rfl rfl ?_
    refine z_ialdN (j := 1) dX10_version_53 m_v (rfl) (by decide) (by decide) ?_
    rw [zup_at, upd_ne _ _ (by omega), e, h.1.2.1]
    refine z_iconst (v := 1) dX10_version_54 rfl ?_
    refine z_iadd dX10_version_55 ?_
    rw [nI_1]
    refine z_iastN (j := 1) dX10_version_56 m_v (rfl) (by decide) (by decide) ?_
    refine z_aload_n dX10_version_57 rfl ?_
    refine z_getR fRX10_7 dX10_version_58 (by first | assumption | rfl) (by rfl) ?_
    refine z_iconst (v := 1) dX10_version_61 rfl ?_
    refine z_ialdN (j := 1) dX10_version_62 m_v (rfl) (by decide) (by decide) ?_
    rw [zup_at, upd_at]
    refine z_iconst (v := 1) dX10_version_63 rfl ?_
    refine z_isub dX10_version_64 ?_
    rw [nI_pred]
    refine z_iret hE dX10_version_65 ⟨rfl, rfl, fun a ha => by rw [zup_ne _ _ _ (by omega), zup_ne _ _ _ (by omega), b1 a (by omega) (by omega)], _, _, _, _, _, hP, z_toRI b3 ?_ ?_ (fun a ha => by rw [zup_ne _ _ _ (by omega), zup_ne _ _ _ (by omega)])⟩
    · rw [zup_at, zup_at, e]
      obtain ⟨r1, r2, r3, r4, r5, r6, r7⟩ := h.1
      refine ⟨by rw [upd_ne _ _ (by decide), upd_ne _ _ (by omega)]; exact r1, by rw [upd_at]; rfl, by rw [upd_ne _ _ (by decide), upd_ne _ _ (by omega)]; exact r3, by rw [upd_ne _ _ (by decide), upd_ne _ _ (by omega), r4, hz]; rfl, fun i hi w hw => ?_, fun v hv' => ?_, fun t ht => absurd ht (Nat.not_lt_zero t)⟩
      · have hi2 : i < anq A := hi
        have := h.2.1.1.1
        rw [upd_ne _ _ (by omega), upd_ne _ _ (by omega)]
        exact r5 i hi w hw
      · have hv2 : v < anv A + 1 := hv'
        show _ = (if v = anv A then x else asd A v)
        rw [upd_ne _ _ (by omega)]
        by_cases e2 : v = anv A
        · subst e2
          rw [upd_at, if_pos rfl]
        · rw [upd_ne _ _ (by omega), if_neg e2]
          exact r6 v (by omega)
    · obtain ⟨v1, v2, v3, v4, v5, v6⟩ := h.2.1
      exact z_av0 rfl v1 hv v3 v4
theorem q_drop {I : ZI} {A : AS} {hc : Nat} {Hh : Nat → AS} {tc : Nat} {bf : Nat → Nat} {r0 : Option Value} {P : AS → Nat → (Nat → AS) → Nat → (Nat → Nat) → Prop} (h : RI I A hc Hh tc bf) (hD : ((ans A ≠ 0 ∨ anv A = 0) ∧ r0 = some (.long (-1002)) ∧ P A hc Hh tc bf) ∨ (ans A = 0 ∧ 0 < anv A ∧ r0 = some (.long (asd A (anv A - 1)).toInt64) ∧ P (drA A) (phc hc) (pHh hc Hh A) tc bf)) : ZP yX10_drop cX10_drop 1 (some FieldType.long) 1 [.ref 259] Sg I (fun r J => r = r0 ∧ (∀ a, a < 259 → J a = I a) ∧ ∃ A' hc' Hh' tc' bf', P A' hc' Hh' tc' bf' ∧ RI J A' hc' Hh' tc' bf') := by
  have g0 := m_obj
  have hns := h.2.1.2.2.2.2.1
  have hnv := h.2.1.2.1
  refine ZSp.of (own := RX10) (L := [.ref 259]) mX10_drop rfl (List.all_eq_true.mp rfl) (Nat.le_of_ble_eq_true rfl) rfl (fun X hE hN => ?_)
  refine z_aload_n dX10_drop_0 rfl ?_
  refine z_getR fRX10_7 dX10_drop_1 (by first | assumption | rfl) (by rfl) ?_
  refine z_iconst (v := 3) dX10_drop_4 rfl ?_
  refine z_ialdN (j := 3) dX10_drop_5 m_v (rfl) (by decide) (by decide) ?_
  rw [h.1.2.2.2.1]
  rcases hD with ⟨hb, rfl, hP⟩ | ⟨hz, hv, rfl, hP⟩
  · have bad : (ZG X RX10 cX10_drop 1 1 0 0 0 0 18 [.ref 259] [] Sg I) := by
      refine z_ldc2 kRX10_101 dX10_drop_18 ?_
      exact z_lret hE dX10_drop_21 ⟨rfl, rfl, fun _ _ => rfl, _, _, _, _, _, hP, h⟩
    by_cases hz : ans A = 0
    · have hv : anv A = 0 := hb.elim (fun z => absurd hz z) id
      refine z_if_gt (tgt := 18) dX10_drop_6 (by decide) (fun hb => absurd hb (by rw [hz]; decide)) (fun _ => ?_)
      refine z_aload_n dX10_drop_9 rfl ?_
      refine z_getR fRX10_7 dX10_drop_10 (by first | assumption | rfl) (by rfl) ?_
      refine z_iconst (v := 1) dX10_drop_13 rfl ?_
      refine z_ialdN (j := 1) dX10_drop_14 m_v (rfl) (by decide) (by decide) ?_
      rw [h.1.2.1]
      refine z_if_ne (tgt := 22) dX10_drop_15 (by decide) (fun hb => absurd (by rw [hv]; rfl) hb) (fun _ => ?_)
      exact bad
    · refine z_if_gt (tgt := 18) dX10_drop_6 (by decide) (fun _ => ?_) (fun hb => absurd (by rw [← nI_0]; exact nI_lt (by omega) (by omega)) hb)
      exact bad
  · refine z_if_gt (tgt := 18) dX10_drop_6 (by decide) (fun hb => absurd hb (by rw [hz]; decide)) (fun _ => ?_)
    refine z_aload_n dX10_drop_9 rfl ?_
    refine z_getR fRX10_7 dX10_drop_10 (by first | assumption | rfl) (by rfl) ?_
    refine z_iconst (v := 1) dX10_drop_13 rfl ?_
    refine z_ialdN (j := 1) dX10_drop_14 m_v (rfl) (by decide) (by decide) ?_
    rw [h.1.2.1]
    refine z_if_ne (tgt := 22) dX10_drop_15 (by decide) (fun _ => ?_) (fun hb => absurd hb (nI_ne0 hv (by omega)))
    refine z_aload_n dX10_drop_22 rfl ?_
    refine z_cV0p mX10_act gRX10_54 dX10_drop_23 (q_act h) (by decide) (by first | assumption | rfl) (by rfl) (Nat.le_of_ble_eq_true rfl) (Nat.le_refl _) (Nat.le_refl _) (fun r J hq => ?_)
    obtain ⟨rfl, b1, b2, b3⟩ := hq
    have e : J 260 = I 260 := b1 _ (by decide) (by decide)
    refine z_aload_n dX10_drop_26 rfl ?_
    refine z_getR fRX10_7 dX10_drop_27 (by first | assumption | rfl) (by rfl) ?_
    refine z_iconst (v := 1) dX10_drop_30 rfl ?_
    refine z_dup2 dX10_drop_31 rfl rfl ?_
    refine z_ialdN dX10_drop_32 m_v (rfl) (by decide) (by decide) ?_
    rw [e, h.1.2.1]
    refine z_iconst (v := 1) dX10_drop_33 rfl ?_
    refine z_isub dX10_drop_34 ?_
    rw [show nI (anv A) - 1 = nI (anv A - 1) from xI_sub (b := 1) (by omega)]
    refine z_iastN (j := 1) dX10_drop_35 m_v (rfl) (by decide) (by decide) ?_
    refine z_aload_n dX10_drop_36 rfl ?_
    refine z_getR fRX10_7 dX10_drop_37 (by first | assumption | rfl) (by rfl) ?_
    refine z_bipush (v := 110) dX10_drop_40 rfl ?_
    refine z_aload_n dX10_drop_42 rfl ?_
    refine z_getR fRX10_7 dX10_drop_43 (by first | assumption | rfl) (by rfl) ?_
    refine z_iconst (v := 1) dX10_drop_46 rfl ?_
    refine z_ialdN (j := 1) dX10_drop_47 m_v (rfl) (by decide) (by decide) ?_
    rw [zup_at, upd_at]
    refine z_iadd dX10_drop_48 ?_
    refine z_ialdN dX10_drop_49 m_v (show (110 : Int32) + nI (anv A - 1) = nI (110 + (anv A - 1)) from nI_add 110 _) (by omega) (by decide) ?_
    rw [zup_at, upd_ne _ _ (by omega), e, h.1.2.2.2.2.2.1 (anv A - 1) (by omega)]
    refine z_i2l dX10_drop_50 ?_
    refine z_lret hE dX10_drop_51 ⟨rfl, rfl, fun a ha => by rw [zup_ne _ _ _ (by omega), b1 a (by omega) (by omega)], _, _, _, _, _, hP, z_toRI b3 ?_ ?_ (fun a ha => by rw [zup_ne _ _ _ (by omega)])⟩
    · rw [zup_at, e]
      obtain ⟨r1, r2, r3, r4, r5, r6, r7⟩ := h.1
      exact ⟨by rw [upd_ne _ _ (by decide)]; exact r1, by rw [upd_at]; rfl, by rw [upd_ne _ _ (by decide)]; exact r3, by rw [upd_ne _ _ (by decide), r4, hz]; rfl, fun i hi w hw => by rw [upd_ne _ _ (by omega)]; exact r5 i hi w hw, fun v hv' => by rw [upd_ne _ _ (by omega)]; exact r6 v (by have : v < anv A - 1 := hv'; omega), fun t ht => absurd ht (Nat.not_lt_zero t)⟩
    · obtain ⟨v1, v2, v3, v4, v5, v6⟩ := h.2.1
      exact z_av0 rfl v1 (show anv A - 1 ≤ 6 by omega) v3 v4

