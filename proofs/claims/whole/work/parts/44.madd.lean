/-! ===== the model: add, change, remove -/
theorem q_dom2 {I : ZI} {x r : Int32} {n : Nat} (hn : n ≤ 64) (h1 : (∃ k, k < n ∧ x = nI k) → r = 1) (h0 : (¬ ∃ k, k < n ∧ x = nI k) → r = 0) : ZE yX10_in cX10_in 3 (some FieldType.boolean) 0 [.int x, .int 0, .int (nI n - 1)] Sg I (some (.int r)) I := by
  have e : (nI n - 1).toInt = (n : Int) - 1 := by
    cases n with
    | zero => rfl
    | succ m =>
      rw [nI_pred, nI_toInt (by omega)]
      omega
  refine q_in (fun a b => h1 ?_) (fun a => h0 ?_)
  · obtain ⟨k, hk, rfl⟩ := nI_of a
    rw [Int32.le_iff_toInt_le, e, nI_toInt hk] at b
    exact ⟨k, by omega, rfl⟩
  · rintro ⟨k, hk, rfl⟩
    rcases a with a | a
    · exact nI_pos (by omega) a
    · rw [Int32.lt_iff_toInt_lt, e, nI_toInt (by omega)] at a
      omega
theorem two_le : ∀ k, k < 6 → 2 ^ k ≤ 64 := by decide
theorem q_isIn {I : ZI} {A : AS} {x w v r : Int32} {q : Nat} (h : RV (I 260) A) (hV : AV A) (hx : x = nI q) (hq : q < anq A) (h1 : (∃ j n, w = nI j ∧ v = nI n ∧ okN j n (aqd A q 4)) → r = 1) (h0 : (¬ ∃ j n, w = nI j ∧ v = nI n ∧ okN j n (aqd A q 4)) → r = 0) : ZE yX10_isIn cX10_isIn 4 (some FieldType.boolean) 1 [.ref 259, .int x, .int w, .int v] Sg I (some (.int r)) I := by
  have g0 := m_obj
  have hn := hV.1.1
  have hc4 := (hV.1.2 q hq).2.2.2.1
  have hr : r = 0 ∨ r = 1 := by
    by_cases z : ∃ j n, w = nI j ∧ v = nI n ∧ okN j n (aqd A q 4)
    · exact Or.inr (h1 z)
    · exact Or.inl (h0 z)
  have un : ∀ {j : Nat}, j < 4 → w = nI j → ∀ {j' n : Nat}, w = nI j' → okN j' n (aqd A q 4) → j' = j := by
    intro j hj hw j' n hw' hok
    have := okN_lt hok
    exact (nI_eq (by omega) (by omega)).mp (hw'.symm.trans hw)
  subst hx
  refine ZSp.of (own := RX10) (L := [.ref 259, .int (nI q), .int w, .int v]) mX10_isIn rfl (List.all_eq_true.mp rfl) (Nat.le_of_ble_eq_true rfl) rfl (fun X hE hN => ?_)
  refine z_iload_n dX10_isIn_0 rfl ?_
  have far : (w.toInt < 0 ∨ 2 < w.toInt) → (ZG X RX10 cX10_isIn 4 1 0 0 0 0 66 [.ref 259, .int (nI q), .int w, .int v] [] Sg I) → (ZG X RX10 cX10_isIn 4 1 0 0 0 0 1 [.ref 259, .int (nI q), .int w, .int v] [.int w] Sg I) := by
    intro hw nxt
    refine z_tableOut (tgt := 66) dX10_isIn_1 (hw) (by decide) ?_
    exact nxt
  rcases z_sw4 w with rfl | rfl | rfl | rfl | hw
  · refine z_tableIn (off := 27) (tgt := 28) dX10_isIn_1 (by decide) (by decide) (by decide) (by decide) ?_
    refine z_iload_n dX10_isIn_28 rfl ?_
    refine z_iconst (v := 1) dX10_isIn_29 rfl ?_
    refine z_bipush (v := 9) dX10_isIn_30 rfl ?_
    have p1 : ¬ v < 1 → v ≤ 9 → r = 1 := by
      intro y1 y2
      apply h1
      obtain ⟨n, hn9, rfl⟩ := nI_of2 (M := 9) (n := 9) rfl (fun z => y1 (Int32.lt_trans z (by decide))) y2
      refine ⟨0, n, rfl, rfl, Or.inl ⟨rfl, ?_, hn9⟩⟩
      rcases Nat.lt_or_ge n 1 with z | z
      · exact absurd (nI_lt (b := 1) z (by decide)) y1
      · exact z
    have p0 : (v < 1 ∨ 9 < v) → r = 0 := by
      intro z
      apply h0
      rintro ⟨j, n, e1, rfl, hok⟩
      have := un (j := 0) (by decide) rfl e1 hok
      subst this
      rcases hok with ⟨_, k1, k2⟩ | ⟨k, _⟩ | ⟨k, _⟩ | ⟨k, _⟩
      · exact z.elim (fun e => absurd e (nI_nlt (b := 1) k1 (by omega))) (fun e => absurd e (nI_nlt (b := n) (a := 9) k2 (by decide)))
      · exact absurd k (by decide)
      · exact absurd k (by decide)
      · exact absurd k (by decide)
    refine z_cS3s mX10_in gRX10_50 dX10_isIn_32 (q_in (r := r) p1 p0) (by decide) (Nat.le_of_ble_eq_true rfl) (Nat.le_refl _) (Nat.le_refl _) ?_
    exact z_ezreturn hE dX10_isIn_35 hr rfl rfl
  · refine z_tableIn (off := 35) (tgt := 36) dX10_isIn_1 (by decide) (by decide) (by decide) (by decide) ?_
    refine z_iload_n dX10_isIn_36 rfl ?_
    refine z_iconst (v := 0) dX10_isIn_37 rfl ?_
    refine z_aload_n dX10_isIn_38 rfl ?_
    refine z_iload_n dX10_isIn_39 rfl ?_
    refine z_iconst (v := 4) dX10_isIn_40 rfl ?_
    refine z_cV2s mX10_of gRX10_61 dX10_isIn_41 (q_of h hn rfl (show (4 : Int32) = nI 4 from rfl) hq (by decide)) (by decide) (by first | assumption | rfl) (by rfl) (Nat.le_of_ble_eq_true rfl) (Nat.le_refl _) (Nat.le_refl _) ?_
    refine z_iconst (v := 1) dX10_isIn_44 rfl ?_
    refine z_isub dX10_isIn_45 ?_
    have p0 : (¬ ∃ k, k < aqd A q 4 ∧ v = nI k) → r = 0 := by
      intro z
      apply h0
      rintro ⟨j, n, e1, rfl, hok⟩
      have := un (j := 1) (by decide) rfl e1 hok
      subst this
      rcases hok with ⟨k, _⟩ | ⟨_, k⟩ | ⟨k, _⟩ | ⟨k, _⟩
      · exact absurd k (by decide)
      · exact z ⟨n, k, rfl⟩
      · exact absurd k (by decide)
      · exact absurd k (by decide)
    refine z_cS3s mX10_in gRX10_50 dX10_isIn_46 (q_dom2 (r := r) (show aqd A q 4 ≤ 64 by omega) (fun ⟨n, hn5, e⟩ => h1 ⟨1, n, rfl, e, Or.inr (Or.inl ⟨rfl, hn5⟩)⟩) p0) (by decide) (Nat.le_of_ble_eq_true rfl) (Nat.le_refl _) (Nat.le_refl _) ?_
    exact z_ezreturn hE dX10_isIn_49 hr rfl rfl
  · refine z_tableIn (off := 49) (tgt := 50) dX10_isIn_1 (by decide) (by decide) (by decide) (by decide) ?_
    refine z_iload_n dX10_isIn_50 rfl ?_
    refine z_iconst (v := 0) dX10_isIn_51 rfl ?_
    refine z_iconst (v := 1) dX10_isIn_52 rfl ?_
    refine z_aload_n dX10_isIn_53 rfl ?_
    refine z_iload_n dX10_isIn_54 rfl ?_
    refine z_iconst (v := 4) dX10_isIn_55 rfl ?_
    refine z_cV2s mX10_of gRX10_61 dX10_isIn_56 (q_of h hn rfl (show (4 : Int32) = nI 4 from rfl) hq (by decide)) (by decide) (by first | assumption | rfl) (by rfl) (Nat.le_of_ble_eq_true rfl) (Nat.le_refl _) (Nat.le_refl _) ?_
    refine z_ishl dX10_isIn_59 ?_
    refine z_iconst (v := 1) dX10_isIn_60 rfl ?_
    refine z_isub dX10_isIn_61 ?_
    rw [alw_sh _ (show aqd A q 4 < 6 by omega)]
    have p0 : (¬ ∃ k, k < 2 ^ aqd A q 4 ∧ v = nI k) → r = 0 := by
      intro z
      apply h0
      rintro ⟨j, n, e1, rfl, hok⟩
      have := un (j := 2) (by decide) rfl e1 hok
      subst this
      rcases hok with ⟨k, _⟩ | ⟨k, _⟩ | ⟨_, k⟩ | ⟨k, _⟩
      · exact absurd k (by decide)
      · exact absurd k (by decide)
      · exact z ⟨n, k, rfl⟩
      · exact absurd k (by decide)
    refine z_cS3s mX10_in gRX10_50 dX10_isIn_62 (q_dom2 (r := r) (two_le _ (show aqd A q 4 < 6 by omega)) (fun ⟨n, hn5, e⟩ => h1 ⟨2, n, rfl, e, Or.inr (Or.inr (Or.inl ⟨rfl, hn5⟩))⟩) p0) (by decide) (Nat.le_of_ble_eq_true rfl) (Nat.le_refl _) (Nat.le_refl _) ?_
    exact z_ezreturn hE dX10_isIn_65 hr rfl rfl
  · refine far (by decide) ?_
    refine z_iload_n dX10_isIn_66 rfl ?_
    refine z_iconst (v := 3) dX10_isIn_67 rfl ?_
    refine z_icmp_ne (tgt := 84) dX10_isIn_68 (by decide) (fun hb => absurd (rfl) hb) (fun _ => ?_)
    refine z_iload_n dX10_isIn_71 rfl ?_
    refine z_iconst (v := 0) dX10_isIn_72 rfl ?_
    refine z_iconst (v := 5) dX10_isIn_73 rfl ?_
    by_cases hv : ¬ v < 0 ∧ v ≤ 5
    · refine z_cS3s mX10_in gRX10_50 dX10_isIn_74 (q_in (r := 1) (fun _ _ => rfl) (fun z => z.elim (fun e => absurd e hv.1) (fun e => absurd hv.2 (Int32.not_le.mpr e)))) (by decide) (Nat.le_of_ble_eq_true rfl) (Nat.le_refl _) (Nat.le_refl _) ?_
      refine z_if_eq (tgt := 84) dX10_isIn_77 (by decide) (fun hb => absurd hb (by decide)) (fun _ => ?_)
      refine z_iconst (v := 1) dX10_isIn_80 rfl ?_
      refine z_goto (tgt := 85) dX10_isIn_81 (by decide) ?_
      obtain ⟨n, hn5, rfl⟩ := nI_of2 (M := 5) (n := 5) rfl hv.1 hv.2
      exact z_ezreturn hE dX10_isIn_85 (by decide) (by rw [h1 ⟨3, n, rfl, rfl, Or.inr (Or.inr (Or.inr ⟨rfl, hn5⟩))⟩]) rfl
    · refine z_cS3s mX10_in gRX10_50 dX10_isIn_74 (q_in (r := 0) (fun y1 y2 => absurd ⟨y1, y2⟩ hv) (fun _ => rfl)) (by decide) (Nat.le_of_ble_eq_true rfl) (Nat.le_refl _) (Nat.le_refl _) ?_
      refine z_if_eq (tgt := 84) dX10_isIn_77 (by decide) (fun _ => ?_) (fun hb => absurd (rfl) hb)
      refine z_iconst (v := 0) dX10_isIn_84 rfl ?_
      have hno : ¬ ∃ j n, (3 : Int32) = nI j ∧ v = nI n ∧ okN j n (aqd A q 4) := by
        rintro ⟨j, n, e1, rfl, hok⟩
        have := un (j := 3) (by decide) rfl e1 hok
        subst this
        rcases hok with ⟨k, _⟩ | ⟨k, _⟩ | ⟨k, _⟩ | ⟨_, k⟩
        · exact absurd k (by decide)
        · exact absurd k (by decide)
        · exact absurd k (by decide)
        · exact hv ⟨nI_pos (by omega), nI_le (b := 5) k (by decide)⟩
      exact z_ezreturn hE dX10_isIn_85 (by decide) (by rw [h0 hno]) rfl
  · refine far (by omega) ?_
    have hno : ¬ ∃ j n, w = nI j ∧ v = nI n ∧ okN j n (aqd A q 4) := by
      rintro ⟨j, n, rfl, -, hok⟩
      have := okN_lt hok
      rw [nI_toInt (by omega)] at hw
      omega
    refine z_iload_n dX10_isIn_66 rfl ?_
    refine z_iconst (v := 3) dX10_isIn_67 rfl ?_
    refine z_icmp_ne (tgt := 84) dX10_isIn_68 (by decide) (fun _ => ?_) (fun hb => absurd hb (fun q => by subst q; exact absurd hw (by decide)))
    refine z_iconst (v := 0) dX10_isIn_84 rfl ?_
    exact z_ezreturn hE dX10_isIn_85 (by decide) (by rw [h0 hno]) rfl
theorem q_change {I : ZI} {A : AS} {hc : Nat} {Hh : Nat → AS} {tc : Nat} {bf : Nat → Nat} {x w v : Int32} {r0 : Option Value} {P : AS → Nat → (Nat → AS) → Nat → (Nat → Nat) → Prop} (h : RI I A hc Hh tc bf) (hD : (∃ a, r0 = some (.int a) ∧ aChange A x w v a ∧ P A hc Hh tc bf) ∨ (∃ q j n, vC2 A x w v q j n ∧ ans A = 0 ∧ r0 = some (.int (nI (aqd A q j))) ∧ P (chA A q j n) (phc hc) (pHh hc Hh A) tc bf)) : ZP yX10_change cX10_change 4 (some FieldType.int) 2 [.ref 259, .int x, .int w, .int v] Sg I (fun r J => r = r0 ∧ (∀ a, a < 259 → J a = I a) ∧ ∃ A' hc' Hh' tc' bf', P A' hc' Hh' tc' bf' ∧ RI J A' hc' Hh' tc' bf') := by
  have g0 := m_obj
  have hn := h.2.1.1.1
  have hns := h.2.1.2.2.2.2.1
  refine ZSp.of (own := RX10) (L := [.ref 259, .int x, .int w, .int v]) mX10_change rfl (List.all_eq_true.mp rfl) (Nat.le_of_ble_eq_true rfl) rfl (fun X hE hN => ?_)
  refine z_aload_n dX10_change_0 rfl ?_
  refine z_iload_n dX10_change_1 rfl ?_
  have yes : ∀ q j n, vC2 A x w v q j n → (ZG X RX10 cX10_change 4 2 0 0 0 0 22 [.ref 259, .int x, .int w, .int v] [] Sg I) → (ZG X RX10 cX10_change 4 2 0 0 0 0 2 [.ref 259, .int x, .int w, .int v] [.int x, .ref 259] Sg I) := by
    rintro q j n ⟨hq, rfl, hj, rfl, rfl, hok⟩ nxt
    refine z_cV1s mX10_isQuestion gRX10_57 dX10_change_2 (q_isQ (r := 1) h.1 hn (fun _ => rfl) (fun z => absurd ⟨q, hq, rfl⟩ z)) (by decide) (by first | assumption | rfl) (by rfl) (Nat.le_of_ble_eq_true rfl) (Nat.le_refl _) (Nat.le_refl _) ?_
    refine z_if_eq (tgt := 18) dX10_change_5 (by decide) (fun hb => absurd hb (by decide)) (fun _ => ?_)
    refine z_aload_n dX10_change_8 rfl ?_
    refine z_iload_n dX10_change_9 rfl ?_
    refine z_iload_n dX10_change_10 rfl ?_
    refine z_iload_n dX10_change_11 rfl ?_
    refine z_cV3s mX10_isIn gRX10_65 dX10_change_12 (q_isIn (r := 1) h.1 h.2.1 rfl hq (fun _ => rfl) (fun z => absurd ⟨j, n, rfl, rfl, hok⟩ z)) (by decide) (by first | assumption | rfl) (by rfl) (Nat.le_of_ble_eq_true rfl) (Nat.le_refl _) (Nat.le_refl _) ?_
    refine z_if_ne (tgt := 22) dX10_change_15 (by decide) (fun _ => ?_) (fun hb => absurd hb (by decide))
    exact nxt
  rcases hD with ⟨a, rfl, ⟨hb, rfl⟩ | ⟨⟨q, j, n, hv⟩, hz, rfl⟩, hP⟩ | ⟨q, j, n, hv, hz, rfl, hP⟩
  · have bad : (ZG X RX10 cX10_change 4 2 0 0 0 0 18 [.ref 259, .int x, .int w, .int v] [] Sg I) := by
      refine z_sipush (v := -1001) dX10_change_18 rfl ?_
      exact z_iret hE dX10_change_21 ⟨rfl, rfl, fun _ _ => rfl, _, _, _, _, _, hP, h⟩
    by_cases hx : isQ A x
    · obtain ⟨q, hq, rfl⟩ := hx
      refine z_cV1s mX10_isQuestion gRX10_57 dX10_change_2 (q_isQ (r := 1) h.1 hn (fun _ => rfl) (fun z => absurd ⟨q, hq, rfl⟩ z)) (by decide) (by first | assumption | rfl) (by rfl) (Nat.le_of_ble_eq_true rfl) (Nat.le_refl _) (Nat.le_refl _) ?_
      refine z_if_eq (tgt := 18) dX10_change_5 (by decide) (fun hb => absurd hb (by decide)) (fun _ => ?_)
      refine z_aload_n dX10_change_8 rfl ?_
      refine z_iload_n dX10_change_9 rfl ?_
      refine z_iload_n dX10_change_10 rfl ?_
      refine z_iload_n dX10_change_11 rfl ?_
      refine z_cV3s mX10_isIn gRX10_65 dX10_change_12 (q_isIn (r := 0) h.1 h.2.1 rfl hq (fun ⟨j, n, e1, e2, hok⟩ => absurd ⟨q, j, n, hq, rfl, okN_lt hok, e1, e2, hok⟩ hb) (fun _ => rfl)) (by decide) (by first | assumption | rfl) (by rfl) (Nat.le_of_ble_eq_true rfl) (Nat.le_refl _) (Nat.le_refl _) ?_
      refine z_if_ne (tgt := 22) dX10_change_15 (by decide) (fun hb => absurd (rfl) hb) (fun _ => ?_)
      exact bad
    · refine z_cV1s mX10_isQuestion gRX10_57 dX10_change_2 (q_isQ (r := 0) h.1 hn (fun z => absurd z hx) (fun _ => rfl)) (by decide) (by first | assumption | rfl) (by rfl) (Nat.le_of_ble_eq_true rfl) (Nat.le_refl _) (Nat.le_refl _) ?_
      refine z_if_eq (tgt := 18) dX10_change_5 (by decide) (fun _ => ?_) (fun hb => absurd (rfl) hb)
      exact bad
  · refine yes q j n hv ?_
    refine z_aload_n dX10_change_22 rfl ?_
    refine z_getR fRX10_7 dX10_change_23 (by first | assumption | rfl) (by rfl) ?_
    refine z_iconst (v := 3) dX10_change_26 rfl ?_
    refine z_ialdN (j := 3) dX10_change_27 m_v (rfl) (by decide) (by decide) ?_
    rw [h.1.2.2.2.1]
    refine z_if_le (tgt := 37) dX10_change_28 (by decide) (fun hb => absurd hb (nI_nle (by omega) (by omega))) (fun _ => ?_)
    refine z_sipush (v := -1002) dX10_change_31 rfl ?_
    refine z_goto (tgt := 50) dX10_change_34 (by decide) ?_
    exact z_iret hE dX10_change_50 ⟨rfl, rfl, fun _ _ => rfl, _, _, _, _, _, hP, h⟩
  · refine yes q j n hv ?_
    obtain ⟨hq, rfl, hj, rfl, rfl, hok⟩ := hv
    refine z_aload_n dX10_change_22 rfl ?_
    refine z_getR fRX10_7 dX10_change_23 (by first | assumption | rfl) (by rfl) ?_
    refine z_iconst (v := 3) dX10_change_26 rfl ?_
    refine z_ialdN (j := 3) dX10_change_27 m_v (rfl) (by decide) (by decide) ?_
    rw [h.1.2.2.2.1]
    refine z_if_le (tgt := 37) dX10_change_28 (by decide) (fun _ => ?_) (fun hb => absurd (by rw [hz]; decide) hb)
    refine z_aload_n dX10_change_37 rfl ?_
    refine z_bipush (v := 10) dX10_change_38 rfl ?_
    refine z_iconst (v := 5) dX10_change_40 rfl ?_
    refine z_iload_n dX10_change_41 rfl ?_
    refine z_imul dX10_change_42 ?_
    refine z_iadd dX10_change_43 ?_
    refine z_iload_n dX10_change_44 rfl ?_
    refine z_iadd dX10_change_45 ?_
    refine z_iload_n dX10_change_46 rfl ?_
    refine z_cV2p mX10_sets gRX10_68 dX10_change_47 (q_sets h (show (10 : Int32) + 5 * nI q + nI j = nI (10 + 5 * q + j) from by rw [← nI_add, ← nI_add, ← pk_mul]; rfl) (by omega)) (by decide) (by first | assumption | rfl) (by rfl) (Nat.le_of_ble_eq_true rfl) (Nat.le_refl _) (Nat.le_refl _) (fun r J hq => ?_)
    obtain ⟨rfl, b1, b2, b3⟩ := hq
    rw [h.1.2.2.2.2.1 q hq j (by omega)]
    refine z_iret hE dX10_change_50 ⟨rfl, rfl, b1, _, _, _, _, _, hP, b3 _ ?_ ?_⟩
    · rw [b2]
      obtain ⟨r1, r2, r3, r4, r5, r6, r7⟩ := h.1
      refine ⟨by rw [upd_ne _ _ (by omega)]; exact r1, by rw [upd_ne _ _ (by omega)]; exact r2, by rw [upd_ne _ _ (by omega)]; exact r3, by rw [upd_ne _ _ (by omega), r4, hz]; rfl, fun i hi w hw => ?_, fun v hv => by rw [upd_ne _ _ (by omega)]; exact r6 v hv, fun t ht => absurd ht (Nat.not_lt_zero t)⟩
      show _ = nI (if i = q ∧ w = j then n else aqd A i w)
      by_cases e : i = q ∧ w = j
      · obtain ⟨rfl, rfl⟩ := e
        rw [upd_at, if_pos ⟨rfl, rfl⟩]
      · rw [upd_ne _ _ (by omega), if_neg e]
        exact r5 i hi w hw
    · obtain ⟨v1, v2, v3, v4, v5, v6⟩ := h.2.1
      exact z_av0 rfl (chA_QV v1 hq hok) v2 v3 v4

