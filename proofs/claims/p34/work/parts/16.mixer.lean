/-! ===== papers and their mixing ===== -/
theorem at_q : QsAt 2 := ⟨rfl, rfl, rfl, by decide⟩
theorem at_units : RowAt 107 20 := ⟨rfl, rfl, by decide⟩
theorem at_members : RowAt 109 20 := ⟨rfl, rfl, by decide⟩
theorem at_loose : RowAt 111 5 := ⟨rfl, rfl, by decide⟩
theorem at_lots : LoAt 106 := rfl
theorem Qs.keep {I J : ZI} {q nq : Nat} {qd : Qd} (h : Qs I q nq qd) (h1 : J q = I q) (h2 : J (q + 1 + 1) = I (q + 1 + 1)) : Qs J q nq qd := ⟨by rw [h1]; exact h.1, fun i hi w hw => by rw [h2]; exact h.2 i hi w hw⟩
theorem s_pAppend {I : ZI} {p c q : Nat} {x : Int32} (h : PpAt p) (hc : I p 5 = nI c) (hc20 : c < 20) (hx : x = nI q) (hq : q < 20) : ZE yX4_append cX4_append 2 none 1 [.ref p, .int x] Sg I none (zup (zup (zup I (p + 1 + 1) c (nI q)) (p + 3 + 1) q (nI c)) p 5 (nI (c + 1))) := by
  obtain ⟨h0, h1, h2, h3, h4, h5⟩ := h
  have g1 := h1.1
  have g2 := h2.1
  subst hx
  refine ZSp.of (own := RX4) (L := [.ref p, .int (nI q)]) mX4_append rfl (List.all_eq_true.mp rfl) (Nat.le_of_ble_eq_true rfl) rfl (fun X hE hN => ?_)
  refine z_aload_n dX4_append_0 rfl ?_
  refine z_getR fRX4_14 dX4_append_1 (by first | assumption | rfl) (by rfl) ?_
  refine z_aload_n dX4_append_4 rfl ?_
  refine z_getI fRX4_36 dX4_append_5 (by first | assumption | rfl) (by rfl) ?_
  refine z_iload_n dX4_append_8 rfl ?_
  rw [hc]
  refine z_cV2n mX6_set gRX4_40 dX4_append_9 (s_setN h1 rfl hc20) (by decide) (by first | assumption | rfl) (by rfl) (Nat.le_of_ble_eq_true rfl) (Nat.le_refl _) (Nat.le_refl _) ?_
  refine z_aload_n dX4_append_12 rfl ?_
  refine z_getR fRX4_20 dX4_append_13 (by first | assumption | rfl) (by rfl) ?_
  refine z_iload_n dX4_append_16 rfl ?_
  refine z_aload_n dX4_append_17 rfl ?_
  refine z_getI fRX4_36 dX4_append_18 (by first | assumption | rfl) (by rfl) ?_
  rw [zup_ne _ _ _ (show p ≠ p + 1 + 1 by omega), hc]
  refine z_cV2n mX6_set gRX4_40 dX4_append_21 (s_setN h2 rfl hq) (by decide) (by first | assumption | rfl) (by rfl) (Nat.le_of_ble_eq_true rfl) (Nat.le_refl _) (Nat.le_refl _) ?_
  refine z_aload_n dX4_append_24 rfl ?_
  refine z_dup dX4_append_25 rfl ?_
  refine z_getI fRX4_36 dX4_append_26 (by first | assumption | rfl) (by rfl) ?_
  refine z_iconst (v := 1) dX4_append_29 rfl ?_
  refine z_iadd dX4_append_30 ?_
  refine z_putI fRX4_36 dX4_append_31 (by first | assumption | rfl) (by rfl) ?_
  rw [zup_ne _ _ _ (show p ≠ p + 3 + 1 by omega), zup_ne _ _ _ (show p ≠ p + 1 + 1 by omega), hc, nI_1]
  exact z_evreturn hE dX4_append_34 rfl
theorem s_choiceAt {I : ZI} {p i k : Nat} {x y : Int32} (h : PpAt p) (hx : x = nI i) (hy : y = nI k) (hi : i < 20) (hk : k < 5) : ZE yX4_choiceAt cX4_choiceAt 3 (some FieldType.int) 1 [.ref p, .int x, .int y] Sg I (some (.int (I (p + 7 + 1) (5 * i + k)))) I := by
  obtain ⟨h0, h1, h2, h3, h4, h5⟩ := h
  have g4 := h4.1
  refine ZSp.of (own := RX4) (L := [.ref p, .int x, .int y]) mX4_choiceAt rfl (List.all_eq_true.mp rfl) (Nat.le_of_ble_eq_true rfl) rfl (fun X hE hN => ?_)
  refine z_aload_n dX4_choiceAt_0 rfl ?_
  refine z_getR fRX4_26 dX4_choiceAt_1 (by first | assumption | rfl) (by rfl) ?_
  refine z_iload_n dX4_choiceAt_4 rfl ?_
  refine z_iconst (v := 5) dX4_choiceAt_5 rfl ?_
  refine z_imul dX4_choiceAt_6 ?_
  refine z_iload_n dX4_choiceAt_7 rfl ?_
  refine z_iadd dX4_choiceAt_8 ?_
  refine z_cV1s mX6_get gRX4_44 dX4_choiceAt_9 (s_getN h4 (show x * 5 + y = nI (5 * i + k) by rw [hx, hy, z_five]) (by omega)) (by decide) (by first | assumption | rfl) (by rfl) (Nat.le_of_ble_eq_true rfl) (Nat.le_refl _) (Nat.le_refl _) ?_
  exact z_eireturn hE dX4_choiceAt_12 rfl rfl
theorem s_putChoice {I : ZI} {p i k : Nat} {x y v : Int32} (h : PpAt p) (hx : x = nI i) (hy : y = nI k) (hi : i < 20) (hk : k < 5) : ZE yX4_putChoice cX4_putChoice 4 none 1 [.ref p, .int x, .int y, .int v] Sg I none (zup I (p + 7 + 1) (5 * i + k) v) := by
  obtain ⟨h0, h1, h2, h3, h4, h5⟩ := h
  have g4 := h4.1
  refine ZSp.of (own := RX4) (L := [.ref p, .int x, .int y, .int v]) mX4_putChoice rfl (List.all_eq_true.mp rfl) (Nat.le_of_ble_eq_true rfl) rfl (fun X hE hN => ?_)
  refine z_aload_n dX4_putChoice_0 rfl ?_
  refine z_getR fRX4_26 dX4_putChoice_1 (by first | assumption | rfl) (by rfl) ?_
  refine z_iload_n dX4_putChoice_4 rfl ?_
  refine z_iconst (v := 5) dX4_putChoice_5 rfl ?_
  refine z_imul dX4_putChoice_6 ?_
  refine z_iload_n dX4_putChoice_7 rfl ?_
  refine z_iadd dX4_putChoice_8 ?_
  refine z_iload_n dX4_putChoice_9 rfl ?_
  refine z_cV2n mX6_set gRX4_40 dX4_putChoice_10 (s_setN h4 (show x * 5 + y = nI (5 * i + k) by rw [hx, hy, z_five]) (by omega)) (by decide) (by first | assumption | rfl) (by rfl) (Nat.le_of_ble_eq_true rfl) (Nat.le_refl _) (Nat.le_refl _) ?_
  exact z_evreturn hE dX4_putChoice_13 rfl
theorem s_hasPlace {I : ZI} {p : Nat} {x : Int32} (h : PpAt p) : ZE yX4_hasPlace cX4_hasPlace 2 (some FieldType.boolean) 0 [.ref p, .int x] Sg I (some (.int (if x < 0 ∨ I p 5 ≤ x then 0 else 1))) I := by
  have h0 := h.1
  refine ZSp.of (own := RX4) (L := [.ref p, .int x]) mX4_hasPlace rfl (List.all_eq_true.mp rfl) (Nat.le_of_ble_eq_true rfl) rfl (fun X hE hN => ?_)
  refine z_iload_n dX4_hasPlace_0 rfl ?_
  refine z_if_lt (tgt := 16) dX4_hasPlace_1 (by decide) (fun hb => ?_) (fun hb => ?_)
  · refine z_iconst (v := 0) dX4_hasPlace_16 rfl ?_
    exact z_ezreturn hE dX4_hasPlace_17 (by decide) (by rw [if_pos (Or.inl hb)]) rfl
  · refine z_iload_n dX4_hasPlace_4 rfl ?_
    refine z_aload_n dX4_hasPlace_5 rfl ?_
    refine z_getI fRX4_36 dX4_hasPlace_6 (by first | assumption | rfl) (by rfl) ?_
    refine z_icmp_ge (tgt := 16) dX4_hasPlace_9 (by decide) (fun hc => ?_) (fun hc => ?_)
    · refine z_iconst (v := 0) dX4_hasPlace_16 rfl ?_
      exact z_ezreturn hE dX4_hasPlace_17 (by decide) (by rw [if_pos (Or.inr hc)]) rfl
    · refine z_iconst (v := 1) dX4_hasPlace_12 rfl ?_
      refine z_goto (tgt := 17) dX4_hasPlace_13 (by decide) ?_
      exact z_ezreturn hE dX4_hasPlace_17 (by decide) (by rw [if_neg (fun h => h.elim hb hc)]) rfl
theorem s_listUnits {I : ZI} {nq : Nat} {qd : Qd} (hQ : Qs I 2 nq qd) (hV : QV nq qd) : ZP yX3_listUnits cX3_listUnits 4 (some FieldType.int) 3 [.ref 105, .ref 2] Sg I (fun r J => r = some (.int (nI (col (lead qd) nq).1)) ∧ (∀ a, a ≠ 108 → J a = I a) ∧ Rp (J 108) (col (lead qd) nq).2 (col (lead qd) nq).1) := by
  have hn := hV.1
  have hq1 := at_q.1
  refine ZSp.of (own := RX3) (L := [.ref 105, .ref 2, zj, zj]) mX3_listUnits rfl (List.all_eq_true.mp rfl) (Nat.le_of_ble_eq_true rfl) rfl (fun X hE hN => ?_)
  have loop : ∀ (n k : Nat) (J : ZI), k + n = nq → (∀ a, a ≠ 108 → J a = I a) → Rp (J 108) (col (lead qd) k).2 (col (lead qd) k).1 → (ZG X RX3 cX3_listUnits 4 3 0 0 0 0 4 [.ref 105, .ref 2, .int (nI (col (lead qd) k).1), .int (nI k)] [] Sg J) := by
    intro n
    induction n with
    | zero =>
      intro k J hk hJ hR
      have e : k = nq := by omega
      subst e
      refine z_iload_n dX3_listUnits_4 rfl ?_
      refine z_aload_n dX3_listUnits_5 rfl ?_
      refine z_getI fRX3_61 dX3_listUnits_6 (by first | assumption | rfl) (by rfl) ?_
      refine z_icmp_ge (tgt := 38) dX3_listUnits_9 (by decide) (fun _ => ?_) (fun hb => absurd (by rw [hJ 2 (by decide), hQ.1]; exact nI_le (Nat.le_refl _) (by omega)) hb)
      refine z_iload_n dX3_listUnits_38 rfl ?_
      exact z_iret hE dX3_listUnits_39 ⟨rfl, rfl, hJ, hR⟩
    | succ n ih =>
      intro k J hk hJ hR
      have hQJ : Qs J 2 nq qd := hQ.keep (hJ _ (by decide)) (hJ _ (by decide))
      refine z_iload_n dX3_listUnits_4 rfl ?_
      refine z_aload_n dX3_listUnits_5 rfl ?_
      refine z_getI fRX3_61 dX3_listUnits_6 (by first | assumption | rfl) (by rfl) ?_
      refine z_icmp_ge (tgt := 38) dX3_listUnits_9 (by decide) (fun hb => absurd hb (by rw [hJ 2 (by decide), hQ.1]; exact nI_ge (by omega) (by omega))) (fun _ => ?_)
      refine z_aload_n dX3_listUnits_12 rfl ?_
      refine z_iload_n dX3_listUnits_13 rfl ?_
      refine z_cV1s mX5_isFirstOfUnit gRX3_64 dX3_listUnits_14 (s_isFirst at_q hQJ hV rfl (show k < nq by omega)) (by decide) (by first | assumption | rfl) (by rfl) (Nat.le_of_ble_eq_true rfl) (Nat.le_refl _) (Nat.le_refl _) ?_
      refine z_if_eq (tgt := 32) dX3_listUnits_17 (by decide) (fun hb => ?_) (fun hb => ?_)
      · refine z_inc3 (w := 1) dX3_listUnits_32 rfl (by decide) rfl ?_
        refine z_goto (tgt := 4) dX3_listUnits_35 (by decide) ?_
        have hl : ¬ lead qd k = true := fun h => by rw [if_pos h] at hb; exact absurd hb (by decide)
        rw [nI_1]
        refine (congrArg (fun z => (ZG X RX3 cX3_listUnits 4 3 0 0 0 0 4 [.ref 105, .ref 2, .int (nI z), .int (nI (k + 1))] [] Sg J)) (show (col (lead qd) k).1 = (col (lead qd) (k + 1)).1 by rw [col_no hl])).mpr ?_
        exact ih (k + 1) J (by omega) hJ (by rw [col_no hl]; exact hR)
      · refine z_aload_n dX3_listUnits_20 rfl ?_
        refine z_getR fRX3_23 dX3_listUnits_21 (by first | assumption | rfl) (by rfl) ?_
        refine z_iload_n dX3_listUnits_24 rfl ?_
        refine z_iload_n dX3_listUnits_25 rfl ?_
        have hl : lead qd k = true := by
          by_cases h : lead qd k = true
          · exact h
          · rw [if_neg h] at hb; exact absurd rfl hb
        have hc : (col (lead qd) k).1 < 20 := by have := col_le (lead qd) k; omega
        refine z_cV2n mX6_set gRX3_68 dX3_listUnits_26 (s_setN at_units rfl hc) (by decide) (by first | assumption | rfl) (by rfl) (Nat.le_of_ble_eq_true rfl) (Nat.le_refl _) (Nat.le_refl _) ?_
        refine z_inc2 (w := 1) dX3_listUnits_29 rfl (by decide) rfl ?_
        refine z_inc3 (w := 1) dX3_listUnits_32 rfl (by decide) rfl ?_
        refine z_goto (tgt := 4) dX3_listUnits_35 (by decide) ?_
        rw [nI_1, nI_1]
        refine (congrArg (fun z => (ZG X RX3 cX3_listUnits 4 3 0 0 0 0 4 [.ref 105, .ref 2, .int (nI z), .int (nI (k + 1))] [] Sg _)) (show (col (lead qd) k).1 + 1 = (col (lead qd) (k + 1)).1 by rw [col_yes hl])).mpr ?_
        refine ih (k + 1) _ (by omega) (fun a ha => by rw [zup_ne _ _ _ ha]; exact hJ a ha) ?_
        rw [col_yes hl]
        intro j hj
        show zup J 108 _ _ 108 j = nI (if j = (col (lead qd) k).1 then k else (col (lead qd) k).2 j)
        rw [zup_at]
        by_cases hjc : j = (col (lead qd) k).1
        · rw [if_pos hjc, hjc, upd_at]
        · rw [if_neg hjc, upd_ne _ _ hjc]
          have hj2 : j < (col (lead qd) k).1 + 1 := hj
          exact hR j (by omega)
  refine z_iconst (v := 0) dX3_listUnits_0 rfl ?_
  refine z_ist2 dX3_listUnits_1 (by decide) rfl ?_
  refine z_iconst (v := 0) dX3_listUnits_2 rfl ?_
  refine z_ist3 dX3_listUnits_3 (by decide) rfl ?_
  exact loop nq 0 I (by omega) (fun _ _ => rfl) (fun k hk => absurd hk (Nat.not_lt_zero k))

