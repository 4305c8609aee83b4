/-! ===== the questions of a state ===== -/
theorem z_five (i w : Nat) : nI i * 5 + nI w = nI (5 * i + w) := by
  show nI i * nI 5 + nI w = _
  rw [pk_mul, nI_add, Nat.mul_comm]
def Qs (I : ZI) (q nq : Nat) (qd : Qd) : Prop := I q 1 = nI nq ∧ ∀ i, i < nq → ∀ w, w < 5 → I (q + 1 + 1) (5 * i + w) = nI (qd i w)
theorem s_numberAt {I : ZI} {q i w : Nat} {x y : Int32} (h : QsAt q) (hx : x = nI i) (hy : y = nI w) (hi : i < 20) (hw : w < 5) : ZE yX5_number cX5_number 3 (some FieldType.int) 1 [.ref q, .int x, .int y] Sg I (some (.int (I (q + 1 + 1) (5 * i + w)))) I := by
  obtain ⟨h1, h2⟩ := h
  refine ZSp.of (own := RX5) (L := [.ref q, .int x, .int y]) mX5_number rfl (List.all_eq_true.mp rfl) (Nat.le_of_ble_eq_true rfl) rfl (fun X hE hN => ?_)
  refine z_aload_n dX5_number_0 rfl ?_
  refine z_getR fRX5_14 dX5_number_1 (by first | assumption | rfl) (by rfl) ?_
  refine z_iload_n dX5_number_4 rfl ?_
  refine z_iconst (v := 5) dX5_number_5 rfl ?_
  refine z_imul dX5_number_6 ?_
  refine z_iload_n dX5_number_7 rfl ?_
  refine z_iadd dX5_number_8 ?_
  have h3 := h2.1
  refine z_cV1s mX6_get gRX5_24 dX5_number_9 (s_getN h2 (show x * 5 + y = nI (5 * i + w) by rw [hx, hy, z_five]) (by omega)) (by decide) (by first | assumption | rfl) (by rfl) (Nat.le_of_ble_eq_true rfl) (Nat.le_refl _) (Nat.le_refl _) ?_
  exact z_eireturn hE dX5_number_12 rfl rfl
theorem s_number {I : ZI} {q i w nq : Nat} {qd : Qd} {x y : Int32} (h : QsAt q) (hQ : Qs I q nq qd) (hn : nq ≤ 20) (hx : x = nI i) (hy : y = nI w) (hi : i < nq) (hw : w < 5) : ZE yX5_number cX5_number 3 (some FieldType.int) 1 [.ref q, .int x, .int y] Sg I (some (.int (nI (qd i w)))) I :=
  (s_numberAt h hx hy (by omega) hw).of_eq (by rw [hQ.2 i hi w hw]) rfl
theorem s_put {I : ZI} {q i w : Nat} {x y v : Int32} (h : QsAt q) (hx : x = nI i) (hy : y = nI w) (hi : i < 20) (hw : w < 5) : ZE yX5_put cX5_put 4 none 1 [.ref q, .int x, .int y, .int v] Sg I none (zup I (q + 1 + 1) (5 * i + w) v) := by
  obtain ⟨h1, h2⟩ := h
  refine ZSp.of (own := RX5) (L := [.ref q, .int x, .int y, .int v]) mX5_put rfl (List.all_eq_true.mp rfl) (Nat.le_of_ble_eq_true rfl) rfl (fun X hE hN => ?_)
  refine z_aload_n dX5_put_0 rfl ?_
  refine z_getR fRX5_14 dX5_put_1 (by first | assumption | rfl) (by rfl) ?_
  refine z_iload_n dX5_put_4 rfl ?_
  refine z_iconst (v := 5) dX5_put_5 rfl ?_
  refine z_imul dX5_put_6 ?_
  refine z_iload_n dX5_put_7 rfl ?_
  refine z_iadd dX5_put_8 ?_
  refine z_iload_n dX5_put_9 rfl ?_
  have h3 := h2.1
  refine z_cV2n mX6_set gRX5_28 dX5_put_10 (s_setN h2 (show x * 5 + y = nI (5 * i + w) by rw [hx, hy, z_five]) (by omega)) (by decide) (by first | assumption | rfl) (by rfl) (Nat.le_of_ble_eq_true rfl) (Nat.le_refl _) (Nat.le_refl _) ?_
  exact z_evreturn hE dX5_put_13 rfl
theorem s_has {I : ZI} {q : Nat} {x : Int32} (h : QsAt q) : ZE yX5_has cX5_has 2 (some FieldType.boolean) 0 [.ref q, .int x] Sg I (some (.int (if x < 0 ∨ I q 1 ≤ x then 0 else 1))) I := by
  obtain ⟨h1, h2⟩ := h
  refine ZSp.of (own := RX5) (L := [.ref q, .int x]) mX5_has rfl (List.all_eq_true.mp rfl) (Nat.le_of_ble_eq_true rfl) rfl (fun X hE hN => ?_)
  refine z_iload_n dX5_has_0 rfl ?_
  refine z_if_lt (tgt := 16) dX5_has_1 (by decide) (fun hb => ?_) (fun hb => ?_)
  · refine z_iconst (v := 0) dX5_has_16 rfl ?_
    exact z_ezreturn hE dX5_has_17 (by decide) (by rw [if_pos (Or.inl hb)]) rfl
  · refine z_iload_n dX5_has_4 rfl ?_
    refine z_aload_n dX5_has_5 rfl ?_
    refine z_getI fRX5_20 dX5_has_6 (by first | assumption | rfl) (by rfl) ?_
    refine z_icmp_ge (tgt := 16) dX5_has_9 (by decide) (fun hc => ?_) (fun hc => ?_)
    · refine z_iconst (v := 0) dX5_has_16 rfl ?_
      exact z_ezreturn hE dX5_has_17 (by decide) (by rw [if_pos (Or.inr hc)]) rfl
    · refine z_iconst (v := 1) dX5_has_12 rfl ?_
      refine z_goto (tgt := 17) dX5_has_13 (by decide) ?_
      exact z_ezreturn hE dX5_has_17 (by decide) (by rw [if_neg (fun h => h.elim hb hc)]) rfl
def alw (w v c : Int32) : Prop := (w = 0 ∧ ¬ v < 1 ∧ ¬ 9 < v) ∨ (w = 1 ∧ ¬ v < 0 ∧ v < c) ∨ (w = 2 ∧ ¬ v < 0 ∧ v < 1 <<< (c &&& 31)) ∨ (w = 3 ∧ ¬ v < 0 ∧ ¬ 5 < v)
theorem z_sw4 (w : Int32) : w = 0 ∨ w = 1 ∨ w = 2 ∨ w = 3 ∨ (w.toInt < 0 ∨ 3 < w.toInt) := by
  by_cases h0 : w = 0
  · exact Or.inl h0
  by_cases h1 : w = 1
  · exact Or.inr (Or.inl h1)
  by_cases h2 : w = 2
  · exact Or.inr (Or.inr (Or.inl h2))
  by_cases h3 : w = 3
  · exact Or.inr (Or.inr (Or.inr (Or.inl h3)))
  refine Or.inr (Or.inr (Or.inr (Or.inr ?_)))
  have e : ∀ k : Int32, w ≠ k → w.toInt ≠ k.toInt := fun k hk h => hk (Int32.toInt_inj.mp h)
  have a0 := e 0 h0
  have a1 := e 1 h1
  have a2 := e 2 h2
  have a3 := e 3 h3
  have b0 : (0 : Int32).toInt = 0 := rfl
  have b1 : (1 : Int32).toInt = 1 := rfl
  have b2 : (2 : Int32).toInt = 2 := rfl
  have b3 : (3 : Int32).toInt = 3 := rfl
  omega
theorem s_allows {I : ZI} {w v c : Int32} {r : Int32} (hr1 : alw w v c → r = 1) (hr0 : ¬ alw w v c → r = 0) : ZE yX5_allows cX5_allows 3 (some FieldType.boolean) 0 [.int w, .int v, .int c] Sg I (some (.int r)) I := by
  refine ZSp.of (own := RX5) (L := [.int w, .int v, .int c]) mX5_allows rfl (List.all_eq_true.mp rfl) (Nat.le_of_ble_eq_true rfl) rfl (fun X hE hN => ?_)
  refine z_iload_n dX5_allows_0 rfl ?_
  rcases z_sw4 w with rfl | rfl | rfl | rfl | hw
  · refine z_tableIn (off := 31) (tgt := 32) dX5_allows_1 (by decide) (by decide) (by decide) (by decide) ?_
    refine z_iload_n dX5_allows_32 rfl ?_
    refine z_iconst (v := 1) dX5_allows_33 rfl ?_
    refine z_icmp_lt (tgt := 47) dX5_allows_34 (by decide) (fun hb => ?_) (fun hb => ?_)
    · refine z_iconst (v := 0) dX5_allows_47 rfl ?_
      exact z_ezreturn hE dX5_allows_48 (by decide) (hr0 (by rintro (⟨h, a, b⟩ | ⟨h, a, b⟩ | ⟨h, a, b⟩ | ⟨h, a, b⟩) <;> first | exact absurd h (by decide) | exact a hb)).symm rfl
    · refine z_iload_n dX5_allows_37 rfl ?_
      refine z_bipush (v := 9) dX5_allows_38 rfl ?_
      refine z_icmp_gt (tgt := 47) dX5_allows_40 (by decide) (fun hc => ?_) (fun hc => ?_)
      · refine z_iconst (v := 0) dX5_allows_47 rfl ?_
        exact z_ezreturn hE dX5_allows_48 (by decide) (hr0 (by rintro (⟨h, a, b⟩ | ⟨h, a, b⟩ | ⟨h, a, b⟩ | ⟨h, a, b⟩) <;> first | exact absurd h (by decide) | exact b hc)).symm rfl
      · refine z_iconst (v := 1) dX5_allows_43 rfl ?_
        refine z_goto (tgt := 48) dX5_allows_44 (by decide) ?_
        exact z_ezreturn hE dX5_allows_48 (by decide) (hr1 (Or.inl ⟨rfl, hb, hc⟩)).symm rfl
  · refine z_tableIn (off := 48) (tgt := 49) dX5_allows_1 (by decide) (by decide) (by decide) (by decide) ?_
    refine z_iload_n dX5_allows_49 rfl ?_
    refine z_if_lt (tgt := 62) dX5_allows_50 (by decide) (fun hb => ?_) (fun hb => ?_)
    · refine z_iconst (v := 0) dX5_allows_62 rfl ?_
      exact z_ezreturn hE dX5_allows_63 (by decide) (hr0 (by rintro (⟨h, a, b⟩ | ⟨h, a, b⟩ | ⟨h, a, b⟩ | ⟨h, a, b⟩) <;> first | exact absurd h (by decide) | exact a hb)).symm rfl
    · refine z_iload_n dX5_allows_53 rfl ?_
      refine z_iload_n dX5_allows_54 rfl ?_
      refine z_icmp_ge (tgt := 62) dX5_allows_55 (by decide) (fun hc => ?_) (fun hc => ?_)
      · refine z_iconst (v := 0) dX5_allows_62 rfl ?_
        exact z_ezreturn hE dX5_allows_63 (by decide) (hr0 (by rintro (⟨h, a, b⟩ | ⟨h, a, b⟩ | ⟨h, a, b⟩ | ⟨h, a, b⟩) <;> first | exact absurd h (by decide) | exact absurd b (Int32.not_lt.mpr hc))).symm rfl
      · refine z_iconst (v := 1) dX5_allows_58 rfl ?_
        refine z_goto (tgt := 63) dX5_allows_59 (by decide) ?_
        exact z_ezreturn hE dX5_allows_63 (by decide) (hr1 (Or.inr (Or.inl ⟨rfl, hb, Int32.not_le.mp hc⟩))).symm rfl
  · refine z_tableIn (off := 63) (tgt := 64) dX5_allows_1 (by decide) (by decide) (by decide) (by decide) ?_
    refine z_iload_n dX5_allows_64 rfl ?_
    refine z_if_lt (tgt := 79) dX5_allows_65 (by decide) (fun hb => ?_) (fun hb => ?_)
    · refine z_iconst (v := 0) dX5_allows_79 rfl ?_
      exact z_ezreturn hE dX5_allows_80 (by decide) (hr0 (by rintro (⟨h, a, b⟩ | ⟨h, a, b⟩ | ⟨h, a, b⟩ | ⟨h, a, b⟩) <;> first | exact absurd h (by decide) | exact a hb)).symm rfl
    · refine z_iload_n dX5_allows_68 rfl ?_
      refine z_iconst (v := 1) dX5_allows_69 rfl ?_
      refine z_iload_n dX5_allows_70 rfl ?_
      refine z_ishl dX5_allows_71 ?_
      refine z_icmp_ge (tgt := 79) dX5_allows_72 (by decide) (fun hc => ?_) (fun hc => ?_)
      · refine z_iconst (v := 0) dX5_allows_79 rfl ?_
        exact z_ezreturn hE dX5_allows_80 (by decide) (hr0 (by rintro (⟨h, a, b⟩ | ⟨h, a, b⟩ | ⟨h, a, b⟩ | ⟨h, a, b⟩) <;> first | exact absurd h (by decide) | exact absurd b (Int32.not_lt.mpr hc))).symm rfl
      · refine z_iconst (v := 1) dX5_allows_75 rfl ?_
        refine z_goto (tgt := 80) dX5_allows_76 (by decide) ?_
        exact z_ezreturn hE dX5_allows_80 (by decide) (hr1 (Or.inr (Or.inr (Or.inl ⟨rfl, hb, Int32.not_le.mp hc⟩)))).symm rfl
  · refine z_tableIn (off := 80) (tgt := 81) dX5_allows_1 (by decide) (by decide) (by decide) (by decide) ?_
    refine z_iload_n dX5_allows_81 rfl ?_
    refine z_if_lt (tgt := 94) dX5_allows_82 (by decide) (fun hb => ?_) (fun hb => ?_)
    · refine z_iconst (v := 0) dX5_allows_94 rfl ?_
      exact z_ezreturn hE dX5_allows_95 (by decide) (hr0 (by rintro (⟨h, a, b⟩ | ⟨h, a, b⟩ | ⟨h, a, b⟩ | ⟨h, a, b⟩) <;> first | exact absurd h (by decide) | exact a hb)).symm rfl
    · refine z_iload_n dX5_allows_85 rfl ?_
      refine z_iconst (v := 5) dX5_allows_86 rfl ?_
      refine z_icmp_gt (tgt := 94) dX5_allows_87 (by decide) (fun hc => ?_) (fun hc => ?_)
      · refine z_iconst (v := 0) dX5_allows_94 rfl ?_
        exact z_ezreturn hE dX5_allows_95 (by decide) (hr0 (by rintro (⟨h, a, b⟩ | ⟨h, a, b⟩ | ⟨h, a, b⟩ | ⟨h, a, b⟩) <;> first | exact absurd h (by decide) | exact b hc)).symm rfl
      · refine z_iconst (v := 1) dX5_allows_90 rfl ?_
        refine z_goto (tgt := 95) dX5_allows_91 (by decide) ?_
        exact z_ezreturn hE dX5_allows_95 (by decide) (hr1 (Or.inr (Or.inr (Or.inr ⟨rfl, hb, hc⟩)))).symm rfl
  · refine z_tableOut (tgt := 96) dX5_allows_1 (hw) (by decide) ?_
    refine z_iconst (v := 0) dX5_allows_96 rfl ?_
    exact z_ezreturn hE dX5_allows_97 (by decide) (hr0 (by rintro (⟨rfl, a, b⟩ | ⟨rfl, a, b⟩ | ⟨rfl, a, b⟩ | ⟨rfl, a, b⟩) <;> exact absurd hw (by decide))).symm rfl
theorem s_together {I : ZI} {q nq i j : Nat} {qd : Qd} {x y : Int32} (h : QsAt q) (hQ : Qs I q nq qd) (hV : QV nq qd) (hx : x = nI i) (hy : y = nI j) (hi : i < nq) (hj : j < nq) : ZE yX5_together cX5_together 3 (some FieldType.boolean) 2 [.ref q, .int x, .int y] Sg I (some (.int (if tog qd i j = true then 1 else 0))) I := by
  have hn := hV.1
  have hgi := (hV.2 i hi).2.2.2.2.2.2
  have hgj := (hV.2 j hj).2.2.2.2.2.2
  have h1 := h.1
  subst hx
  subst hy
  refine ZSp.of (own := RX5) (L := [.ref q, .int (nI i), .int (nI j)]) mX5_together rfl (List.all_eq_true.mp rfl) (Nat.le_of_ble_eq_true rfl) rfl (fun X hE hN => ?_)
  refine z_iload_n dX5_together_0 rfl ?_
  refine z_iload_n dX5_together_1 rfl ?_
  refine z_icmp_eq (tgt := 29) dX5_together_2 (by decide) (fun hb => ?_) (fun hb => ?_)
  · refine z_iconst (v := 1) dX5_together_29 rfl ?_
    refine z_goto (tgt := 34) dX5_together_30 (by decide) ?_
    have e := (nI_eq (by omega) (by omega)).mp hb
    exact z_ezreturn hE dX5_together_34 (by decide) (by rw [if_pos (by simp [tog, e])]) rfl
  · refine z_aload_n dX5_together_5 rfl ?_
    refine z_iload_n dX5_together_6 rfl ?_
    refine z_iconst (v := 3) dX5_together_7 rfl ?_
    have e : i ≠ j := fun e => hb (by rw [e])
    refine z_cV2s mX5_number gRX5_36 dX5_together_8 (s_number h hQ hn rfl (show (3 : Int32) = nI 3 from rfl) hi (by omega)) (by decide) (by first | assumption | rfl) (by rfl) (Nat.le_of_ble_eq_true rfl) (Nat.le_refl _) (Nat.le_refl _) ?_
    refine z_if_eq (tgt := 33) dX5_together_11 (by decide) (fun hc => ?_) (fun hc => ?_)
    · refine z_iconst (v := 0) dX5_together_33 rfl ?_
      have e2 := (nI_eq (b := 0) (by omega) (by omega)).mp hc
      exact z_ezreturn hE dX5_together_34 (by decide) (by rw [if_neg (by simp [tog, e, e2])]) rfl
    · refine z_aload_n dX5_together_14 rfl ?_
      refine z_iload_n dX5_together_15 rfl ?_
      refine z_iconst (v := 3) dX5_together_16 rfl ?_
      have e2 : qd i 3 ≠ 0 := fun e => hc (by rw [e]; rfl)
      refine z_cV2s mX5_number gRX5_36 dX5_together_17 (s_number h hQ hn rfl (show (3 : Int32) = nI 3 from rfl) hi (by omega)) (by decide) (by first | assumption | rfl) (by rfl) (Nat.le_of_ble_eq_true rfl) (Nat.le_refl _) (Nat.le_refl _) ?_
      refine z_aload_n dX5_together_20 rfl ?_
      refine z_iload_n dX5_together_21 rfl ?_
      refine z_iconst (v := 3) dX5_together_22 rfl ?_
      refine z_cV2s mX5_number gRX5_36 dX5_together_23 (s_number h hQ hn rfl (show (3 : Int32) = nI 3 from rfl) hj (by omega)) (by decide) (by first | assumption | rfl) (by rfl) (Nat.le_of_ble_eq_true rfl) (Nat.le_refl _) (Nat.le_refl _) ?_
      refine z_icmp_ne (tgt := 33) dX5_together_26 (by decide) (fun hd => ?_) (fun hd => ?_)
      · refine z_iconst (v := 0) dX5_together_33 rfl ?_
        have e3 : qd i 3 ≠ qd j 3 := fun e => hd (by rw [e])
        exact z_ezreturn hE dX5_together_34 (by decide) (by rw [if_neg (by simp [tog, e, e3])]) rfl
      · refine z_iconst (v := 1) dX5_together_29 rfl ?_
        refine z_goto (tgt := 34) dX5_together_30 (by decide) ?_
        have e3 : qd i 3 = qd j 3 := (nI_eq (by omega) (by omega)).mp hd
        exact z_ezreturn hE dX5_together_34 (by decide) (by rw [if_pos (by simp [tog, e2, e3]; exact Or.inr (e3 ▸ e2))]) rfl
theorem s_isFirst {I : ZI} {q nq i : Nat} {qd : Qd} {x : Int32} (h : QsAt q) (hQ : Qs I q nq qd) (hV : QV nq qd) (hx : x = nI i) (hi : i < nq) : ZE yX5_isFirstOfUnit cX5_isFirstOfUnit 4 (some FieldType.boolean) 2 [.ref q, .int x] Sg I (some (.int (if lead qd i = true then 1 else 0))) I := by
  have hn := hV.1
  have h1 := h.1
  have hgi := (hV.2 i hi).2.2.2.2.2.2
  subst hx
  refine ZSp.of (own := RX5) (L := [.ref q, .int (nI i), zj, zj]) mX5_isFirstOfUnit rfl (List.all_eq_true.mp rfl) (Nat.le_of_ble_eq_true rfl) rfl (fun X hE hN => ?_)
  have loop : qd i 3 ≠ 0 → ∀ (n k : Nat), k + n = i → (∀ j, j < k → tog qd j i = false) → (ZG X RX5 cX5_isFirstOfUnit 4 2 0 0 0 0 15 [.ref q, .int (nI i), .int (nI (qd i 3)), .int (nI k)] [] Sg I) := by
    intro hg n
    induction n with
    | zero =>
      intro k hk hl
      refine z_iload_n dX5_isFirstOfUnit_15 rfl ?_
      refine z_iload_n dX5_isFirstOfUnit_16 rfl ?_
      refine z_icmp_ge (tgt := 38) dX5_isFirstOfUnit_17 (by decide) (fun _ => ?_) (fun hb => absurd (nI_le (by omega) (by omega)) hb)
      refine z_iconst (v := 1) dX5_isFirstOfUnit_38 rfl ?_
      exact z_ezreturn hE dX5_isFirstOfUnit_39 (by decide) (by rw [if_pos (by simp only [lead, decide_eq_true_eq]; exact fun j hj => hl j (by omega))]) rfl
    | succ n ih =>
      intro k hk hl
      have hgk := (hV.2 k (by omega)).2.2.2.2.2.2
      refine z_iload_n dX5_isFirstOfUnit_15 rfl ?_
      refine z_iload_n dX5_isFirstOfUnit_16 rfl ?_
      refine z_icmp_ge (tgt := 38) dX5_isFirstOfUnit_17 (by decide) (fun hb => absurd hb (nI_ge (by omega) (by omega))) (fun _ => ?_)
      refine z_aload_n dX5_isFirstOfUnit_20 rfl ?_
      refine z_iload_n dX5_isFirstOfUnit_21 rfl ?_
      refine z_iconst (v := 3) dX5_isFirstOfUnit_22 rfl ?_
      refine z_cV2s mX5_number gRX5_36 dX5_isFirstOfUnit_23 (s_number h hQ hn rfl (show (3 : Int32) = nI 3 from rfl) (show k < nq by omega) (by omega)) (by decide) (by first | assumption | rfl) (by rfl) (Nat.le_of_ble_eq_true rfl) (Nat.le_refl _) (Nat.le_refl _) ?_
      refine z_iload_n dX5_isFirstOfUnit_26 rfl ?_
      refine z_icmp_ne (tgt := 32) dX5_isFirstOfUnit_27 (by decide) (fun hb => ?_) (fun hb => ?_)
      · refine z_inc3 (w := 1) dX5_isFirstOfUnit_32 rfl (by decide) rfl ?_
        refine z_goto (tgt := 15) dX5_isFirstOfUnit_35 (by decide) ?_
        rw [nI_1]
        refine ih (k + 1) (by omega) (fun j hj => ?_)
        by_cases hjk : j = k
        · subst hjk
          have e3 : qd j 3 ≠ qd i 3 := fun e => hb (by rw [e])
          exact decide_eq_false (fun hh => hh.elim (fun he => absurd he (by omega)) (fun he => e3 he.2))
        · exact hl j (by omega)
      · refine z_iconst (v := 0) dX5_isFirstOfUnit_30 rfl ?_
        have e3 : qd k 3 = qd i 3 := (nI_eq (by omega) (by omega)).mp hb
        have ht : tog qd k i = true := decide_eq_true (Or.inr ⟨by rw [e3]; exact hg, e3⟩)
        exact z_ezreturn hE dX5_isFirstOfUnit_31 (by decide) (by
          rw [if_neg]
          simp only [lead, decide_eq_true_eq]
          intro hall
          rw [hall k (by omega)] at ht
          cases ht) rfl
  refine z_aload_n dX5_isFirstOfUnit_0 rfl ?_
  refine z_iload_n dX5_isFirstOfUnit_1 rfl ?_
  refine z_iconst (v := 3) dX5_isFirstOfUnit_2 rfl ?_
  refine z_cV2s mX5_number gRX5_36 dX5_isFirstOfUnit_3 (s_number h hQ hn rfl (show (3 : Int32) = nI 3 from rfl) hi (by omega)) (by decide) (by first | assumption | rfl) (by rfl) (Nat.le_of_ble_eq_true rfl) (Nat.le_refl _) (Nat.le_refl _) ?_
  refine z_ist2 dX5_isFirstOfUnit_6 (by decide) rfl ?_
  refine z_iload_n dX5_isFirstOfUnit_7 rfl ?_
  refine z_if_ne (tgt := 13) dX5_isFirstOfUnit_8 (by decide) (fun hb => ?_) (fun hb => ?_)
  · refine z_iconst (v := 0) dX5_isFirstOfUnit_13 rfl ?_
    refine z_ist3 dX5_isFirstOfUnit_14 (by decide) rfl ?_
    exact loop (fun e => hb (by rw [e]; rfl)) i 0 (by omega) (fun j hj => absurd hj (Nat.not_lt_zero j))
  · refine z_iconst (v := 1) dX5_isFirstOfUnit_11 rfl ?_
    have e : qd i 3 = 0 := (nI_eq (b := 0) (by omega) (by omega)).mp hb
    exact z_ezreturn hE dX5_isFirstOfUnit_12 (by decide) (by
      rw [if_pos]
      simp only [lead, decide_eq_true_eq]
      exact fun j hj => decide_eq_false (fun hh => hh.elim (fun he => absurd he (by omega)) (fun he => he.1 (by rw [he.2]; exact e)))) rfl
theorem s_qAppend {I : ZI} {q c : Nat} {x1 x2 x3 x4 x5 : Int32} (h : QsAt q) (hc : I q 1 = nI c) (hc20 : c < 20) : ZE yX5_append cX5_append 7 (some FieldType.int) 2 [.ref q, .int x1, .int x2, .int x3, .int x4, .int x5] Sg I (some (.int (nI c)))
    (zup (zup (zup (zup (zup (zup I q 1 (nI (c + 1))) (q + 1 + 1) (5 * c + 0) x1) (q + 1 + 1) (5 * c + 1) x3) (q + 1 + 1) (5 * c + 2) x4) (q + 1 + 1) (5 * c + 3) x5) (q + 1 + 1) (5 * c + 4) x2) := by
  have h1 := h.1
  refine ZSp.of (own := RX5) (L := [.ref q, .int x1, .int x2, .int x3, .int x4, .int x5, zj]) mX5_append rfl (List.all_eq_true.mp rfl) (Nat.le_of_ble_eq_true rfl) rfl (fun X hE hN => ?_)
  refine z_aload_n dX5_append_0 rfl ?_
  refine z_getI fRX5_20 dX5_append_1 (by first | assumption | rfl) (by rfl) ?_
  rw [hc]
  refine z_ist6 dX5_append_4 (by decide) rfl ?_
  refine z_aload_n dX5_append_6 rfl ?_
  refine z_dup dX5_append_7 rfl ?_
  refine z_getI fRX5_20 dX5_append_8 (by first | assumption | rfl) (by rfl) ?_
  refine z_iconst (v := 1) dX5_append_11 rfl ?_
  refine z_iadd dX5_append_12 ?_
  refine z_putI fRX5_20 dX5_append_13 (by first | assumption | rfl) (by rfl) ?_
  refine z_aload_n dX5_append_16 rfl ?_
  refine z_iload dX5_append_17 rfl ?_
  refine z_iconst (v := 0) dX5_append_19 rfl ?_
  refine z_iload_n dX5_append_20 rfl ?_
  rw [hc, nI_1]
  refine z_cV3n mX5_put gRX5_32 dX5_append_21 (s_put h rfl (show (0 : Int32) = nI 0 from rfl) hc20 (by omega)) (by decide) (by first | assumption | rfl) (by rfl) (Nat.le_of_ble_eq_true rfl) (Nat.le_refl _) (Nat.le_refl _) ?_
  refine z_aload_n dX5_append_24 rfl ?_
  refine z_iload dX5_append_25 rfl ?_
  refine z_iconst (v := 1) dX5_append_27 rfl ?_
  refine z_iload_n dX5_append_28 rfl ?_
  refine z_cV3n mX5_put gRX5_32 dX5_append_29 (s_put h rfl (show (1 : Int32) = nI 1 from rfl) hc20 (by omega)) (by decide) (by first | assumption | rfl) (by rfl) (Nat.le_of_ble_eq_true rfl) (Nat.le_refl _) (Nat.le_refl _) ?_
  refine z_aload_n dX5_append_32 rfl ?_
  refine z_iload dX5_append_33 rfl ?_
  refine z_iconst (v := 2) dX5_append_35 rfl ?_
  refine z_iload dX5_append_36 rfl ?_
  refine z_cV3n mX5_put gRX5_32 dX5_append_38 (s_put h rfl (show (2 : Int32) = nI 2 from rfl) hc20 (by omega)) (by decide) (by first | assumption | rfl) (by rfl) (Nat.le_of_ble_eq_true rfl) (Nat.le_refl _) (Nat.le_refl _) ?_
  refine z_aload_n dX5_append_41 rfl ?_
  refine z_iload dX5_append_42 rfl ?_
  refine z_iconst (v := 3) dX5_append_44 rfl ?_
  refine z_iload dX5_append_45 rfl ?_
  refine z_cV3n mX5_put gRX5_32 dX5_append_47 (s_put h rfl (show (3 : Int32) = nI 3 from rfl) hc20 (by omega)) (by decide) (by first | assumption | rfl) (by rfl) (Nat.le_of_ble_eq_true rfl) (Nat.le_refl _) (Nat.le_refl _) ?_
  refine z_aload_n dX5_append_50 rfl ?_
  refine z_iload dX5_append_51 rfl ?_
  refine z_iconst (v := 4) dX5_append_53 rfl ?_
  refine z_iload_n dX5_append_54 rfl ?_
  refine z_cV3n mX5_put gRX5_32 dX5_append_55 (s_put h rfl (show (4 : Int32) = nI 4 from rfl) hc20 (by omega)) (by decide) (by first | assumption | rfl) (by rfl) (Nat.le_of_ble_eq_true rfl) (Nat.le_refl _) (Nat.le_refl _) ?_
  refine z_iload dX5_append_58 rfl ?_
  exact z_eireturn hE dX5_append_60 rfl rfl
/-- what delete leaves: the later questions one place down -/
theorem s_qDelete {I : ZI} {q c x : Nat} {y : Int32} (h : QsAt q) (hc : I q 1 = nI (c + 1)) (hc20 : c < 20) (hy : y = nI x) (hx : x ≤ c) : ZP yX5_delete cX5_delete 4 none 2 [.ref q, .int y] Sg I (fun r J => r = none ∧ (∀ a, a ≠ q → a ≠ q + 1 + 1 → J a = I a) ∧ J q = upd (I q) 1 (nI c) ∧ (∀ k, k < 5 * x → J (q + 1 + 1) k = I (q + 1 + 1) k) ∧ ∀ k, 5 * x ≤ k → k < 5 * c → J (q + 1 + 1) k = I (q + 1 + 1) (k + 5)) := by
  have h1 := h.1
  subst hy
  have hqq : q + 1 + 1 ≠ q := by omega
  refine ZSp.of (own := RX5) (L := [.ref q, .int (nI x), zj, zj]) mX5_delete rfl (List.all_eq_true.mp rfl) (Nat.le_of_ble_eq_true rfl) rfl (fun X hE hN => ?_)
  have inner : ∀ (m w i : Nat) (J : ZI), w + m = 5 → i < c → (∀ a, a ≠ q → a ≠ q + 1 + 1 → J a = I a) → J q = upd (I q) 1 (nI c) → (∀ k, k < 5 * x → J (q + 1 + 1) k = I (q + 1 + 1) k) → (∀ k, 5 * x ≤ k → k < 5 * i + w → J (q + 1 + 1) k = I (q + 1 + 1) (k + 5)) → (∀ k, 5 * i + w ≤ k → x ≤ i → J (q + 1 + 1) k = I (q + 1 + 1) k) → x ≤ i →
      (∀ J' : ZI, (∀ a, a ≠ q → a ≠ q + 1 + 1 → J' a = I a) → J' q = upd (I q) 1 (nI c) → (∀ k, k < 5 * x → J' (q + 1 + 1) k = I (q + 1 + 1) k) → (∀ k, 5 * x ≤ k → k < 5 * (i + 1) → J' (q + 1 + 1) k = I (q + 1 + 1) (k + 5)) → (∀ k, 5 * (i + 1) ≤ k → J' (q + 1 + 1) k = I (q + 1 + 1) k) → (ZG X RX5 cX5_delete 4 2 0 0 0 0 12 [.ref q, .int (nI x), .int (nI (i + 1)), zj] [] Sg J')) →
      (ZG X RX5 cX5_delete 4 2 0 0 0 0 22 [.ref q, .int (nI x), .int (nI i), .int (nI w)] [] Sg J) := by
    intro m
    induction m with
    | zero =>
      intro w i J hw hi a1 a2 a3 a4 a5 hxi kk
      refine z_iload_n dX5_delete_22 rfl ?_
      refine z_iconst (v := 5) dX5_delete_23 rfl ?_
      refine z_icmp_ge (tgt := 47) dX5_delete_24 (by decide) (fun _ => ?_) (fun hb => absurd (nI_le (show 5 ≤ w by omega) (by omega)) hb)
      refine z_inc2 (w := 1) dX5_delete_47 rfl (by decide) rfl ?_
      refine z_goto (tgt := 12) dX5_delete_50 (by decide) ?_
      rw [nI_1]
      refine z_fg3 ?_
      exact kk J a1 a2 a3 (fun k hk1 hk2 => a4 k hk1 (by omega)) (fun k hk => a5 k (by omega) hxi)
    | succ m ih =>
      intro w i J hw hi a1 a2 a3 a4 a5 hxi kk
      refine z_iload_n dX5_delete_22 rfl ?_
      refine z_iconst (v := 5) dX5_delete_23 rfl ?_
      refine z_icmp_ge (tgt := 47) dX5_delete_24 (by decide) (fun hb => absurd hb (nI_ge (b := 5) (show w < 5 by omega) (by omega))) (fun _ => ?_)
      refine z_aload_n dX5_delete_27 rfl ?_
      refine z_iload_n dX5_delete_28 rfl ?_
      refine z_iload_n dX5_delete_29 rfl ?_
      refine z_aload_n dX5_delete_30 rfl ?_
      refine z_iload_n dX5_delete_31 rfl ?_
      refine z_iconst (v := 1) dX5_delete_32 rfl ?_
      refine z_iadd dX5_delete_33 ?_
      refine z_iload_n dX5_delete_34 rfl ?_
      refine z_cV2s mX5_number gRX5_36 dX5_delete_35 (s_numberAt h (nI_1 i) rfl (by omega) (by omega)) (by decide) (by first | assumption | rfl) (by rfl) (Nat.le_of_ble_eq_true rfl) (Nat.le_refl _) (Nat.le_refl _) ?_
      refine z_cV3n mX5_put gRX5_32 dX5_delete_38 (s_put h rfl rfl (by omega) (by omega)) (by decide) (by first | assumption | rfl) (by rfl) (Nat.le_of_ble_eq_true rfl) (Nat.le_refl _) (Nat.le_refl _) ?_
      refine z_inc3 (w := 1) dX5_delete_41 rfl (by decide) rfl ?_
      refine z_goto (tgt := 22) dX5_delete_44 (by decide) ?_
      rw [nI_1]
      refine ih (w + 1) i _ (by omega) hi (fun a ha hb => ?_) ?_ (fun k hk => ?_) (fun k hk1 hk2 => ?_) (fun k hk _ => ?_) hxi kk
      · rw [zup_ne _ _ _ hb, a1 a ha hb]
      · rw [zup_ne _ _ _ hqq.symm, a2]
      · rw [zup_at, upd_ne _ _ (by omega), a3 k hk]
      · rw [zup_at]
        by_cases hk : k = 5 * i + w
        · subst hk
          rw [upd_at, a5 _ (by omega) hxi]
          congr 1
          omega
        · rw [upd_ne _ _ hk, a4 k hk1 (by omega)]
      · rw [zup_at, upd_ne _ _ (by omega), a5 k (by omega) hxi]
  have outer : ∀ (n i : Nat) (J : ZI), i + n = c → x ≤ i → (∀ a, a ≠ q → a ≠ q + 1 + 1 → J a = I a) → J q = upd (I q) 1 (nI c) → (∀ k, k < 5 * x → J (q + 1 + 1) k = I (q + 1 + 1) k) → (∀ k, 5 * x ≤ k → k < 5 * i → J (q + 1 + 1) k = I (q + 1 + 1) (k + 5)) → (∀ k, 5 * i ≤ k → J (q + 1 + 1) k = I (q + 1 + 1) k) → (ZG X RX5 cX5_delete 4 2 0 0 0 0 12 [.ref q, .int (nI x), .int (nI i), zj] [] Sg J) := by
    intro n
    induction n with
    | zero =>
      intro i J hi hxi a1 a2 a3 a4 a5
      refine z_iload_n dX5_delete_12 rfl ?_
      refine z_aload_n dX5_delete_13 rfl ?_
      refine z_getI fRX5_20 dX5_delete_14 (by first | assumption | rfl) (by rfl) ?_
      refine z_icmp_ge (tgt := 53) dX5_delete_17 (by decide) (fun _ => ?_) (fun hb => absurd (by rw [a2, upd_at]; exact nI_le (by omega) (by omega)) hb)
      exact z_vret hE dX5_delete_53 ⟨rfl, rfl, a1, a2, a3, fun k hk1 hk2 => a4 k hk1 (by omega)⟩
    | succ n ih =>
      intro i J hi hxi a1 a2 a3 a4 a5
      refine z_iload_n dX5_delete_12 rfl ?_
      refine z_aload_n dX5_delete_13 rfl ?_
      refine z_getI fRX5_20 dX5_delete_14 (by first | assumption | rfl) (by rfl) ?_
      refine z_icmp_ge (tgt := 53) dX5_delete_17 (by decide) (fun hb => absurd hb (by rw [a2, upd_at]; exact nI_ge (by omega) (by omega))) (fun _ => ?_)
      refine z_iconst (v := 0) dX5_delete_20 rfl ?_
      refine z_ist3 dX5_delete_21 (by decide) rfl ?_
      exact inner 5 0 i J rfl (by omega) a1 a2 a3 (fun k hk1 hk2 => a4 k hk1 (by omega)) (fun k hk _ => a5 k (by omega)) hxi (fun J' b1 b2 b3 b4 b5 => ih (i + 1) J' (by omega) (by omega) b1 b2 b3 b4 b5)
  refine z_aload_n dX5_delete_0 rfl ?_
  refine z_dup dX5_delete_1 rfl ?_
  refine z_getI fRX5_20 dX5_delete_2 (by first | assumption | rfl) (by rfl) ?_
  refine z_iconst (v := 1) dX5_delete_5 rfl ?_
  refine z_isub dX5_delete_6 ?_
  refine z_putI fRX5_20 dX5_delete_7 (by first | assumption | rfl) (by rfl) ?_
  refine z_iload_n dX5_delete_10 rfl ?_
  refine z_ist2 dX5_delete_11 (by decide) rfl ?_
  rw [hc, nI_pred]
  exact outer (c - x) x _ (by omega) (Nat.le_refl x) (fun a ha _ => zup_ne _ _ _ ha) (zup_at _ _ _ _) (fun k _ => by rw [zup_ne _ _ _ hqq]) (fun k hk1 hk2 => absurd hk2 (by omega)) (fun k _ => by rw [zup_ne _ _ _ hqq])
theorem s_qCopy {I : ZI} {q o : Nat} (h : QsAt q) (ho : QsAt o) (hne : o ≠ q + 1 + 1) : ZE yX5_copy cX5_copy 2 none 2 [.ref q, .ref o] Sg I none (zup (zcp I (q + 1 + 1) (rcopy 100 (I (o + 1 + 1)) (I (q + 1 + 1)))) q 1 (I o 1)) := by
  have h1 := h.1
  have h2 := h.2.1
  have g1 := ho.1
  refine ZSp.of (own := RX5) (L := [.ref q, .ref o]) mX5_copy rfl (List.all_eq_true.mp rfl) (Nat.le_of_ble_eq_true rfl) rfl (fun X hE hN => ?_)
  refine z_aload_n dX5_copy_0 rfl ?_
  refine z_getR fRX5_14 dX5_copy_1 (by first | assumption | rfl) (by rfl) ?_
  refine z_aload_n dX5_copy_4 rfl ?_
  refine z_getR fRX5_14 dX5_copy_5 (by first | assumption | rfl) (by rfl) ?_
  refine z_cV1n mX6_copy gRX5_40 dX5_copy_8 (s_rowCopy h.2 ho.2) (by decide) (by first | assumption | rfl) (by rfl) (Nat.le_of_ble_eq_true rfl) (Nat.le_refl _) (Nat.le_refl _) ?_
  refine z_aload_n dX5_copy_11 rfl ?_
  refine z_aload_n dX5_copy_12 rfl ?_
  refine z_getI fRX5_20 dX5_copy_13 (by first | assumption | rfl) (by rfl) ?_
  refine z_putI fRX5_20 dX5_copy_16 (by first | assumption | rfl) (by rfl) ?_
  rw [zcp_ne _ _ hne]
  exact z_evreturn hE dX5_copy_19 rfl

