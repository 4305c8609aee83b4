/-! ===== the buffer; the questions ===== -/
theorem s_questions {I : ZI} {A : AS} {hc : Nat} {Hh : Nat → AS} {tc : Nat} {bf : Nat → Nat} (h : CI I A hc Hh tc bf) : ZE yX9_questions cX9_questions 1 (some FieldType.int) 0 [.ref 0] Sg I (some (.int (nI (anq A)))) I := by
  have h0 := at_tv
  have hn1 := at_now.1
  have hq0 := at_q.1
  have hq1 : I 2 1 = nI (anq A) := h.1.1.1
  refine ZSp.of (own := RX9) (L := [.ref 0]) mX9_questions rfl (List.all_eq_true.mp rfl) (Nat.le_of_ble_eq_true rfl) rfl (fun X hE hN => ?_)
  refine z_aload_n dX9_questions_0 rfl ?_
  refine z_getR fRX9_10 dX9_questions_1 (by first | assumption | rfl) (by rfl) ?_
  refine z_getR fRX9_76 dX9_questions_4 (by first | assumption | rfl) (by rfl) ?_
  refine z_getI fRX9_80 dX9_questions_7 (by first | assumption | rfl) (by rfl) ?_
  rw [hq1]
  exact z_eireturn hE dX9_questions_10 rfl rfl
theorem s_versions {I : ZI} {A : AS} {hc : Nat} {Hh : Nat → AS} {tc : Nat} {bf : Nat → Nat} (h : CI I A hc Hh tc bf) : ZE yX9_versions cX9_versions 1 (some FieldType.int) 0 [.ref 0] Sg I (some (.int (nI (anv A)))) I := by
  have h0 := at_tv
  have hn1 := at_now.1
  refine ZSp.of (own := RX9) (L := [.ref 0]) mX9_versions rfl (List.all_eq_true.mp rfl) (Nat.le_of_ble_eq_true rfl) rfl (fun X hE hN => ?_)
  refine z_aload_n dX9_versions_0 rfl ?_
  refine z_getR fRX9_10 dX9_versions_1 (by first | assumption | rfl) (by rfl) ?_
  refine z_getI fRX9_103 dX9_versions_4 (by first | assumption | rfl) (by rfl) ?_
  rw [h.1.2.1]
  exact z_eireturn hE dX9_versions_7 rfl rfl
def aQuestion (A : AS) (x y r : Int32) : Prop := (∃ q w, q < anq A ∧ x = nI q ∧ w < 5 ∧ y = nI w ∧ r = nI (aqd A q w)) ∨ ((¬ isQ A x ∨ ¬ ∃ w, w < 5 ∧ y = nI w) ∧ r = -1001)
theorem s_question {I : ZI} {A : AS} {hc : Nat} {Hh : Nat → AS} {tc : Nat} {bf : Nat → Nat} {x y : Int32} (h : CI I A hc Hh tc bf) : ZP yX9_question cX9_question 3 (some FieldType.int) 2 [.ref 0, .int x, .int y] Sg I (fun r J => (∃ a, r = some (.int a) ∧ aQuestion A x y a) ∧ J = I) := by
  have h0 := at_tv
  have hn1 := at_now.1
  have hn := h.2.1.1.1
  have hq1 : I 2 1 = nI (anq A) := h.1.1.1
  refine ZSp.of (own := RX9) (L := [.ref 0, .int x, .int y]) mX9_question rfl (List.all_eq_true.mp rfl) (Nat.le_of_ble_eq_true rfl) rfl (fun X hE hN => ?_)
  refine z_aload_n dX9_question_0 rfl ?_
  refine z_getR fRX9_10 dX9_question_1 (by first | assumption | rfl) (by rfl) ?_
  refine z_getR fRX9_76 dX9_question_4 (by first | assumption | rfl) (by rfl) ?_
  refine z_iload_n dX9_question_7 rfl ?_
  refine z_cV1s mX5_has gRX9_88 dX9_question_8 (s_has at_q) (by decide) (by first | assumption | rfl) (by rfl) (Nat.le_of_ble_eq_true rfl) (Nat.le_refl _) (Nat.le_refl _) ?_
  rw [hq1]
  have bad : (¬ isQ A x ∨ ¬ ∃ w, w < 5 ∧ y = nI w) → (ZG X RX9 cX9_question 3 2 0 0 0 0 23 [.ref 0, .int x, .int y] [] Sg I) := by
    intro hw
    refine z_sipush (v := -1001) dX9_question_23 rfl ?_
    exact z_iret hE dX9_question_26 ⟨rfl, ⟨_, rfl, Or.inr ⟨hw, rfl⟩⟩, rfl⟩
  rcases z_dom x (anq A) (by omega) with ⟨q, hq, rfl, hx⟩ | ⟨hx, hxq⟩
  · rw [if_neg hx]
    refine z_if_eq (tgt := 23) dX9_question_11 (by decide) (fun hb => absurd hb (by decide)) (fun _ => ?_)
    refine z_iload_n dX9_question_14 rfl ?_
    refine z_if_lt (tgt := 23) dX9_question_15 (by decide) (fun h1 => ?_) (fun h1 => ?_)
    · refine bad (Or.inr ?_)
      rintro ⟨w, hw, rfl⟩
      exact absurd h1 (nI_pos (by omega))
    · refine z_iload_n dX9_question_18 rfl ?_
      refine z_iconst (v := 5) dX9_question_19 rfl ?_
      refine z_icmp_lt (tgt := 27) dX9_question_20 (by decide) (fun h2 => ?_) (fun h2 => ?_)
      · refine z_aload_n dX9_question_27 rfl ?_
        refine z_getR fRX9_10 dX9_question_28 (by first | assumption | rfl) (by rfl) ?_
        refine z_getR fRX9_76 dX9_question_31 (by first | assumption | rfl) (by rfl) ?_
        refine z_iload_n dX9_question_34 rfl ?_
        refine z_iload_n dX9_question_35 rfl ?_
        obtain ⟨w, _, rfl⟩ := nI_of h1
        have hw5 : w < 5 := (nI_ltI (b := 5) (by omega) (by decide)).mp h2
        refine z_cV2s mX5_number gRX9_95 dX9_question_36 (s_number at_q h.1.1 hn rfl rfl hq hw5) (by decide) (by first | assumption | rfl) (by rfl) (Nat.le_of_ble_eq_true rfl) (Nat.le_refl _) (Nat.le_refl _) ?_
        exact z_iret hE dX9_question_39 ⟨rfl, ⟨_, rfl, Or.inl ⟨q, w, hq, rfl, hw5, rfl, rfl⟩⟩, rfl⟩
      · refine bad (Or.inr ?_)
        rintro ⟨w, hw, rfl⟩
        exact absurd (nI_lt (b := 5) hw (by decide)) h2
  · rw [if_pos hx]
    refine z_if_eq (tgt := 23) dX9_question_11 (by decide) (fun _ => ?_) (fun hb => absurd (rfl) hb)
    exact bad (Or.inl hxq)
/-- the buffer with one sign more -/
def bfP (tc : Nat) (bf : Nat → Nat) (n : Nat) : Nat → Nat := fun k => if k = tc then n else bf k
def isCh (x : Int32) : Prop := ∃ n, 32 ≤ n ∧ n ≤ 126 ∧ x = nI n
def aType (tc : Nat) (x r : Int32) : Prop := (¬ isCh x ∧ r = -1001) ∨ (isCh x ∧ tc = 20 ∧ r = -1003)
theorem isCh_of {x : Int32} (h1 : ¬ x < 32) (h2 : x ≤ 126) : isCh x := by
  obtain ⟨n, hn, rfl⟩ := nI_of2 (M := 126) (n := 126) rfl (fun z => h1 (Int32.lt_trans z (by decide))) h2
  refine ⟨n, ?_, hn, rfl⟩
  rcases Nat.lt_or_ge n 32 with z | z
  · exact absurd (nI_lt (b := 32) z (by decide)) h1
  · exact z
theorem s_type {I : ZI} {A : AS} {hc : Nat} {Hh : Nat → AS} {tc : Nat} {bf : Nat → Nat} {x : Int32} (h : CI I A hc Hh tc bf) : ZP yX9_type cX9_type 2 (some FieldType.int) 1 [.ref 0, .int x] Sg I (fun r J => (∀ a, 259 ≤ a → J a = I a) ∧ ((∃ a, r = some (.int a) ∧ aType tc x a ∧ CI J A hc Hh tc bf) ∨ (∃ n, 32 ≤ n ∧ n ≤ 126 ∧ x = nI n ∧ tc < 20 ∧ r = some (.int (nI (tc + 1))) ∧ CI J A hc Hh (tc + 1) (bfP tc bf n)))) := by
  have h0 := at_tv
  obtain ⟨h1, h2, h3, h4, h5⟩ := h
  have hty : RowAt 137 20 := ⟨rfl, rfl, by decide⟩
  have ht0 := hty.1
  refine ZSp.of (own := RX9) (L := [.ref 0, .int x]) mX9_type rfl (List.all_eq_true.mp rfl) (Nat.le_of_ble_eq_true rfl) rfl (fun X hE hN => ?_)
  have bad : ¬ isCh x → (ZG X RX9 cX9_type 2 1 0 0 0 0 12 [.ref 0, .int x] [] Sg I) := by
    intro hw
    refine z_sipush (v := -1001) dX9_type_12 rfl ?_
    exact z_iret hE dX9_type_15 ⟨rfl, fun _ _ => rfl, Or.inl ⟨_, rfl, Or.inl ⟨hw, rfl⟩, h1, h2, h3, h4, h5⟩⟩
  refine z_iload_n dX9_type_0 rfl ?_
  refine z_bipush (v := 32) dX9_type_1 rfl ?_
  refine z_icmp_lt (tgt := 12) dX9_type_3 (by decide) (fun ha => ?_) (fun ha => ?_)
  · refine bad ?_
    rintro ⟨n, n1, n2, rfl⟩
    exact absurd ha (nI_nlt (b := 32) n1 (by omega))
  · refine z_iload_n dX9_type_6 rfl ?_
    refine z_bipush (v := 126) dX9_type_7 rfl ?_
    refine z_icmp_le (tgt := 16) dX9_type_9 (by decide) (fun hc => ?_) (fun hc => ?_)
    · refine z_aload_n dX9_type_16 rfl ?_
      refine z_getI fRX9_175 dX9_type_17 (by first | assumption | rfl) (by rfl) ?_
      refine z_bipush (v := 20) dX9_type_20 rfl ?_
      have hch := isCh_of ha hc
      rw [h5.1]
      refine z_icmp_lt (tgt := 29) dX9_type_22 (by decide) (fun hd => ?_) (fun hd => ?_)
      · refine z_aload_n dX9_type_29 rfl ?_
        refine z_getR fRX9_57 dX9_type_30 (by first | assumption | rfl) (by rfl) ?_
        refine z_aload_n dX9_type_33 rfl ?_
        refine z_getI fRX9_175 dX9_type_34 (by first | assumption | rfl) (by rfl) ?_
        refine z_iload_n dX9_type_37 rfl ?_
        have ht20 : tc < 20 := (nI_ltI (b := 20) (by have := h5.2.1; omega) (by decide)).mp hd
        obtain ⟨n, n1, n2, rfl⟩ := hch
        rw [h5.1]
        refine z_cV2n mX6_set gRX9_109 dX9_type_38 (s_setN hty rfl ht20) (by decide) (by first | assumption | rfl) (by rfl) (Nat.le_of_ble_eq_true rfl) (Nat.le_refl _) (Nat.le_refl _) ?_
        refine z_aload_n dX9_type_41 rfl ?_
        refine z_dup dX9_type_42 rfl ?_
        refine z_getI fRX9_175 dX9_type_43 (by first | assumption | rfl) (by rfl) ?_
        refine z_iconst (v := 1) dX9_type_46 rfl ?_
        refine z_iadd dX9_type_47 ?_
        refine z_putI fRX9_175 dX9_type_48 (by first | assumption | rfl) (by rfl) ?_
        refine z_aload_n dX9_type_51 rfl ?_
        refine z_getI fRX9_175 dX9_type_52 (by first | assumption | rfl) (by rfl) ?_
        have e0 : zup I (137 + 1) tc (nI n) 0 = I 0 := zup_ne _ _ _ (by decide)
        rw [zup_at, upd_at, e0, h5.1, nI_1]
        refine z_iret hE dX9_type_55 ⟨rfl, fun a ha => by rw [zup_ne _ _ _ (by omega), zup_ne _ _ _ (by omega)], Or.inr ⟨n, n1, n2, rfl, ht20, rfl, ?_⟩⟩
        have fr : ∀ a, a ≠ 0 → a ≠ 138 → zup (zup I (137 + 1) tc (nI n)) 0 8 (nI (tc + 1)) a = I a := fun a q1 q2 => by rw [zup_ne _ _ _ q1, zup_ne _ _ _ q2]
        refine ⟨h1.keep (fun a q1 q2 => fr a (by omega) (by omega)), h2, h3.keep (fun a q1 q2 => fr a (by omega) (by omega)), ?_, ?_⟩
        · intro w hw
          rcases h4 w hw with g | ⟨g1, g2, g3, g4⟩
          · exact Or.inl (by rw [fr _ (by omega) (by omega)]; exact g)
          · exact Or.inr ⟨by rw [fr _ (by omega) (by omega)]; exact g1, g2, g3.keep (fun a q1 q2 => fr a (by omega) (by omega)), g4.keep (fun a q1 q2 => fr a (by omega) (by omega))⟩
        · refine ⟨by rw [zup_at, upd_at], ht20, fun k hk => ?_⟩
          rw [zup_ne _ _ _ (by decide), zup_at]
          by_cases e : k = tc
          · subst e
            rw [upd_at, bfP, if_pos rfl]
            exact ⟨rfl, n1, n2⟩
          · rw [upd_ne _ _ e, bfP, if_neg e]
            exact h5.2.2 k (by omega)
      · refine z_sipush (v := -1003) dX9_type_25 rfl ?_
        have ht20 : tc = 20 := by
          have := h5.2.1
          rcases Nat.lt_or_ge tc 20 with z | z
          · exact absurd (nI_lt (b := 20) z (by decide)) hd
          · omega
        exact z_iret hE dX9_type_28 ⟨rfl, fun _ _ => rfl, Or.inl ⟨_, rfl, Or.inr ⟨hch, ht20, rfl⟩, h1, h2, h3, h4, h5⟩⟩
    · refine bad ?_
      rintro ⟨n, n1, n2, rfl⟩
      exact absurd (nI_le (b := 126) n2 (by decide)) hc
theorem s_clear {I : ZI} {A : AS} {hc : Nat} {Hh : Nat → AS} {tc : Nat} {bf : Nat → Nat} (h : CI I A hc Hh tc bf) : ZP yX9_clear cX9_clear 2 (some FieldType.int) 0 [.ref 0] Sg I (fun r J => (∀ a, 259 ≤ a → J a = I a) ∧ r = some (.int (nI tc)) ∧ CI J A hc Hh 0 bf) := by
  have h0 := at_tv
  obtain ⟨h1, h2, h3, h4, h5⟩ := h
  refine ZSp.of (own := RX9) (L := [.ref 0, zj]) mX9_clear rfl (List.all_eq_true.mp rfl) (Nat.le_of_ble_eq_true rfl) rfl (fun X hE hN => ?_)
  refine z_aload_n dX9_clear_0 rfl ?_
  refine z_getI fRX9_175 dX9_clear_1 (by first | assumption | rfl) (by rfl) ?_
  refine z_ist1 dX9_clear_4 (by decide) rfl ?_
  refine z_aload_n dX9_clear_5 rfl ?_
  refine z_iconst (v := 0) dX9_clear_6 rfl ?_
  refine z_putI fRX9_175 dX9_clear_7 (by first | assumption | rfl) (by rfl) ?_
  refine z_iload_n dX9_clear_10 rfl ?_
  rw [h5.1]
  have fr : ∀ a, a ≠ 0 → zup I 0 8 0 a = I a := fun a q1 => zup_ne _ _ _ q1
  refine z_iret hE dX9_clear_11 ⟨rfl, fun a ha => fr a (by omega), rfl, h1.keep (fun a q1 q2 => fr a (by omega)), h2, h3.keep (fun a q1 q2 => fr a (by omega)), ?_, ?_⟩
  · intro w hw
    rcases h4 w hw with g | ⟨g1, g2, g3, g4⟩
    · exact Or.inl (by rw [fr _ (by omega)]; exact g)
    · exact Or.inr ⟨by rw [fr _ (by omega)]; exact g1, g2, g3.keep (fun a q1 q2 => fr a (by omega)), g4.keep (fun a q1 q2 => fr a (by omega))⟩
  · exact ⟨by rw [zup_at, upd_at]; rfl, Nat.zero_le _, fun k hk => absurd hk (Nat.not_lt_zero k)⟩

