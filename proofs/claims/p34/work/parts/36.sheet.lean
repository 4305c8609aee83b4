/-! ===== sheet, guess ===== -/
def okC (b c : Nat) : Prop := b = 45 ∨ (65 ≤ b ∧ b < 65 + c)
def tmk (b : Nat) : Option Nat := if b = 45 then none else some (b - 65)
theorem s_markOf {I : ZI} {b c : Nat} {r : Int32} (hb : b < 127) (hc : c < 6) (h1 : okC b c → r = mkI (tmk b)) (h2 : ¬ okC b c → r = -1001) : ZE yX9_markOf cX9_markOf 2 (some FieldType.int) 0 [.int (nI b), .int (nI c)] Sg I (some (.int r)) I := by
  refine ZSp.of (own := RX9) (L := [.int (nI b), .int (nI c)]) mX9_markOf rfl (List.all_eq_true.mp rfl) (Nat.le_of_ble_eq_true rfl) rfl (fun X hE hN => ?_)
  have bad : ¬ okC b c → (ZG X RX9 cX9_markOf 2 0 0 0 0 0 29 [.int (nI b), .int (nI c)] [] Sg I) := by
    intro hw
    refine z_sipush (v := -1001) dX9_markOf_29 rfl ?_
    exact z_eireturn hE dX9_markOf_32 (by rw [h2 hw]) rfl
  refine z_iload_n dX9_markOf_0 rfl ?_
  refine z_bipush (v := 45) dX9_markOf_1 rfl ?_
  refine z_icmp_ne (tgt := 8) dX9_markOf_3 (by decide) (fun g1 => ?_) (fun g1 => ?_)
  · refine z_iload_n dX9_markOf_8 rfl ?_
    refine z_bipush (v := 65) dX9_markOf_9 rfl ?_
    have e : b ≠ 45 := fun q => g1 (by rw [q]; rfl)
    refine z_icmp_lt (tgt := 29) dX9_markOf_11 (by decide) (fun g2 => ?_) (fun g2 => ?_)
    · refine bad ?_
      rintro (q | ⟨q1, q2⟩)
      · exact e q
      · exact absurd g2 (nI_nlt (b := 65) q1 (by omega))
    · refine z_iload_n dX9_markOf_14 rfl ?_
      refine z_bipush (v := 65) dX9_markOf_15 rfl ?_
      refine z_iload_n dX9_markOf_17 rfl ?_
      refine z_iadd dX9_markOf_18 ?_
      have e3 : (65 : Int32) + nI c = nI (65 + c) := nI_add 65 c
      rw [e3]
      have q1 : 65 ≤ b := by
        rcases Nat.lt_or_ge b 65 with q | q
        · exact absurd (nI_lt (b := 65) q (by decide)) g2
        · exact q
      refine z_icmp_ge (tgt := 29) dX9_markOf_19 (by decide) (fun g3 => ?_) (fun g3 => ?_)
      · refine bad ?_
        rintro (q | ⟨-, q2⟩)
        · exact e q
        · exact absurd g3 (nI_ge q2 (by omega))
      · refine z_iload_n dX9_markOf_22 rfl ?_
        refine z_bipush (v := 65) dX9_markOf_23 rfl ?_
        refine z_isub dX9_markOf_25 ?_
        refine z_goto (tgt := 32) dX9_markOf_26 (by decide) ?_
        have q2 : b < 65 + c := by
          rcases Nat.lt_or_ge b (65 + c) with q | q
          · exact q
          · exact absurd (nI_le q (by omega)) g3
        have e4 : nI b - 65 = nI (b - 65) := xI_sub (b := 65) q1
        rw [e4]
        exact z_eireturn hE dX9_markOf_32 (by rw [h1 (Or.inr ⟨q1, q2⟩), tmk, if_neg e]; rfl) rfl
  · refine z_iconst (v := -1) dX9_markOf_6 rfl ?_
    have e : b = 45 := (nI_eq (b := 45) (by omega) (by decide)).mp g1
    exact z_eireturn hE dX9_markOf_7 (by rw [h1 (Or.inl e), tmk, if_pos e]; rfl) rfl
theorem tmk_ne {b c : Nat} (hb : b < 127) (h : okC b c) : mkI (tmk b) ≠ -1001 := by
  unfold tmk
  by_cases e : b = 45
  · rw [if_pos e]; decide
  · rw [if_neg e]
    intro q
    have q2 : nI (b - 65) = -1001 := q
    have q3 := nI_pos (n := b - 65) (by omega)
    rw [q2] at q3
    exact q3 (by decide)
def badAt (A : AS) (v tc : Nat) (bf : Nat → Nat) (i : Nat) : Prop := i ≤ tc ∧ i ≤ anq A ∧ (∀ j, j < i → okC (bf j) (aqd A (vO A v j) 4)) ∧ ((i = tc ∧ i < anq A) ∨ (i = anq A ∧ i < tc) ∨ (i < tc ∧ i < anq A ∧ ¬ okC (bf i) (aqd A (vO A v i) 4)))
def okAll (A : AS) (v tc : Nat) (bf : Nat → Nat) : Prop := tc = anq A ∧ ∀ j, j < anq A → okC (bf j) (aqd A (vO A v j) 4)
theorem s_readTyped {I : ZI} {A : AS} {hc : Nat} {Hh : Nat → AS} {tc : Nat} {bf : Nat → Nat} {v : Nat} (h : CI I A hc Hh tc bf) (hv : v < anv A) (hP : Pm I (139 + 20 * v) (anq A) (aqd A) (asd A v)) : ZP yX9_readTyped cX9_readTyped 4 (some FieldType.int) 3 [.ref 0, .ref (139 + 20 * v)] Sg I (fun r J => ∃ i, r = some (.int (nI i)) ∧ (∀ a, a ≠ 136 → J a = I a) ∧ i ≤ tc ∧ i ≤ anq A ∧ (∀ j, j < i → okC (bf j) (aqd A (vO A v j) 4) ∧ J 136 j = mkI (tmk (bf j))) ∧ (i = tc ∨ i = anq A ∨ (i < tc ∧ i < anq A ∧ ¬ okC (bf i) (aqd A (vO A v i) 4)))) := by
  have h0 := at_tv
  have hn1 := at_now.1
  have hnv := h.2.1.2.1
  have hn := h.2.1.1.1
  have hv6 : v < 6 := by omega
  have hpp := at_paper hv6
  have hp0 := hpp.1
  have hty : RowAt 137 20 := ⟨rfl, rfl, by decide⟩
  have hdr : RowAt 135 20 := ⟨rfl, rfl, by decide⟩
  have ht0 := hty.1
  have hd0 := hdr.1
  obtain ⟨f1, f2, f3⟩ := h.2.2.2.2
  refine ZSp.of (own := RX9) (L := [.ref 0, .ref (139 + 20 * v), zj, zj]) mX9_readTyped rfl (List.all_eq_true.mp rfl) (Nat.le_of_ble_eq_true rfl) rfl (fun X hE hN => ?_)
  have loop : ∀ (m i : Nat) (K : ZI), i + m = tc → i ≤ anq A → (∀ a, a ≠ 136 → K a = I a) → (∀ j, j < i → okC (bf j) (aqd A (vO A v j) 4) ∧ K 136 j = mkI (tmk (bf j))) → (ZG X RX9 cX9_readTyped 4 3 0 0 0 0 2 [.ref 0, .ref (139 + 20 * v), .int (nI i), zj] [] Sg K) := by
    intro m
    induction m with
    | zero =>
      intro i K hi hin hk hj
      have e : i = tc := by omega
      subst e
      refine z_iload_n dX9_readTyped_2 rfl ?_
      refine z_aload_n dX9_readTyped_3 rfl ?_
      refine z_getI fRX9_175 dX9_readTyped_4 (by first | assumption | rfl) (by rfl) ?_
      refine z_icmp_ge (tgt := 60) dX9_readTyped_7 (by decide) (fun _ => ?_) (fun hb => absurd (by rw [hk 0 (by decide), f1]; exact nI_le (Nat.le_refl _) (by omega)) hb)
      refine z_iload_n dX9_readTyped_60 rfl ?_
      exact z_iret hE dX9_readTyped_61 ⟨rfl, i, rfl, hk, Nat.le_refl _, hin, hj, Or.inl rfl⟩
    | succ m ih =>
      intro i K hi hin hk hj
      refine z_iload_n dX9_readTyped_2 rfl ?_
      refine z_aload_n dX9_readTyped_3 rfl ?_
      refine z_getI fRX9_175 dX9_readTyped_4 (by first | assumption | rfl) (by rfl) ?_
      refine z_icmp_ge (tgt := 60) dX9_readTyped_7 (by decide) (fun hb => absurd hb (by rw [hk 0 (by decide), f1]; exact nI_ge (by omega) (by omega))) (fun _ => ?_)
      refine z_iload_n dX9_readTyped_10 rfl ?_
      refine z_aload_n dX9_readTyped_11 rfl ?_
      refine z_getI fRX9_140 dX9_readTyped_12 (by first | assumption | rfl) (by rfl) ?_
      rw [hk _ (by omega), hP.1]
      by_cases he : i = anq A
      · refine z_icmp_ge (tgt := 60) dX9_readTyped_15 (by decide) (fun _ => ?_) (fun hb => absurd (nI_le (by omega) (by omega)) hb)
        refine z_iload_n dX9_readTyped_60 rfl ?_
        exact z_iret hE dX9_readTyped_61 ⟨rfl, i, rfl, hk, by omega, hin, hj, Or.inr (Or.inl he)⟩
      · have hi1 : i < anq A := by omega
        obtain ⟨g1, g2, g3⟩ := f3 i (by omega)
        have hPK : Pm K (139 + 20 * v) (anq A) (aqd A) (asd A v) := hP.keep (fun a q1 q2 => hk a (by omega))
        have hSK : Sc K 1 A := h.1.keep (fun a q1 q2 => hk a (by omega))
        have hc6 : aqd A (vO A v i) 4 < 6 := by
          have := (h.2.1.1.2 _ ((Od_en (anq A) (aqd A) (asd A v)).1 i hi1)).2.2.2.1
          exact Nat.lt_of_le_of_lt this (by decide)
        refine z_icmp_ge (tgt := 60) dX9_readTyped_15 (by decide) (fun hb => absurd hb (nI_ge (by omega) (by omega))) (fun _ => ?_)
        refine z_aload_n dX9_readTyped_18 rfl ?_
        refine z_getR fRX9_57 dX9_readTyped_19 (by first | assumption | rfl) (by rfl) ?_
        refine z_iload_n dX9_readTyped_22 rfl ?_
        refine z_cV1s mX6_get gRX9_115 dX9_readTyped_23 (s_getN hty rfl (show i < 20 by omega)) (by decide) (by first | assumption | rfl) (by rfl) (Nat.le_of_ble_eq_true rfl) (Nat.le_refl _) (Nat.le_refl _) ?_
        rw [hk (137 + 1) (by decide), g1]
        refine z_aload_n dX9_readTyped_26 rfl ?_
        refine z_aload_n dX9_readTyped_27 rfl ?_
        refine z_iload_n dX9_readTyped_28 rfl ?_
        refine z_cV2s mX9_choicesAt gRX9_130 dX9_readTyped_29 (s_choicesAt hSK h.2.1 hv6 hPK rfl hi1) (by decide) (by first | assumption | rfl) (by rfl) (Nat.le_of_ble_eq_true rfl) (Nat.le_refl _) (Nat.le_refl _) ?_
        by_cases ho : okC (bf i) (aqd A (vO A v i) 4)
        · refine z_cS2s mX9_markOf gRX9_255 dX9_readTyped_32 (s_markOf (r := mkI (tmk (bf i))) (show bf i < 127 by omega) hc6 (fun _ => rfl) (fun q => absurd ho q)) (by decide) (Nat.le_of_ble_eq_true rfl) (Nat.le_refl _) (Nat.le_refl _) ?_
          refine z_ist3 dX9_readTyped_35 (by decide) rfl ?_
          refine z_iload_n dX9_readTyped_36 rfl ?_
          refine z_sipush (v := -1001) dX9_readTyped_37 rfl ?_
          refine z_icmp_ne (tgt := 45) dX9_readTyped_40 (by decide) (fun _ => ?_) (fun hb => absurd hb (tmk_ne (by omega) ho))
          refine z_aload_n dX9_readTyped_45 rfl ?_
          refine z_getR fRX9_53 dX9_readTyped_46 (by first | assumption | rfl) (by rfl) ?_
          refine z_iload_n dX9_readTyped_49 rfl ?_
          refine z_iload_n dX9_readTyped_50 rfl ?_
          refine z_cV2n mX6_set gRX9_109 dX9_readTyped_51 (s_setN hdr rfl (show i < 20 by omega)) (by decide) (by first | assumption | rfl) (by rfl) (Nat.le_of_ble_eq_true rfl) (Nat.le_refl _) (Nat.le_refl _) ?_
          refine z_inc2 (w := 1) dX9_readTyped_54 rfl (by decide) rfl ?_
          refine z_goto (tgt := 2) dX9_readTyped_57 (by decide) ?_
          rw [nI_1]
          refine z_fg3 ?_
          refine ih (i + 1) _ (by omega) (by omega) (fun a q => by rw [zup_ne _ _ _ q]; exact hk a q) (fun j q => ?_)
          rw [zup_at]
          by_cases e : j = i
          · subst e
            rw [upd_at]
            exact ⟨ho, rfl⟩
          · rw [upd_ne _ _ e]
            exact hj j (by omega)
        · refine z_cS2s mX9_markOf gRX9_255 dX9_readTyped_32 (s_markOf (r := -1001) (show bf i < 127 by omega) hc6 (fun q => absurd q ho) (fun _ => rfl)) (by decide) (Nat.le_of_ble_eq_true rfl) (Nat.le_refl _) (Nat.le_refl _) ?_
          refine z_ist3 dX9_readTyped_35 (by decide) rfl ?_
          refine z_iload_n dX9_readTyped_36 rfl ?_
          refine z_sipush (v := -1001) dX9_readTyped_37 rfl ?_
          refine z_icmp_ne (tgt := 45) dX9_readTyped_40 (by decide) (fun hb => absurd (rfl) hb) (fun _ => ?_)
          refine z_iload_n dX9_readTyped_43 rfl ?_
          exact z_iret hE dX9_readTyped_44 ⟨rfl, i, rfl, hk, by omega, hin, hj, Or.inr (Or.inr ⟨by omega, hi1, ho⟩)⟩
  refine z_iconst (v := 0) dX9_readTyped_0 rfl ?_
  refine z_ist2 dX9_readTyped_1 (by decide) rfl ?_
  exact loop tc 0 I (by omega) (Nat.zero_le _) (fun _ _ => rfl) (fun j q => absurd q (Nat.not_lt_zero j))
def shA (A : AS) (v : Nat) (m : Nat → Option Nat) : AS := (anq A, aqd A, anv A, asd A, aln A, ans A + 1, fun t => if t = ans A then v else asv A t, fun t => if t = ans A then m else amk A t)
theorem s_handIn {I : ZI} {A : AS} {hc : Nat} {Hh : Nat → AS} {tc : Nat} {bf : Nat → Nat} {v : Nat} {x : Int32} {mm : Nat → Option Nat} (h : CI I A hc Hh tc bf) (hx : x = nI v) (hv : v < anv A) (hs20 : ans A < 20) (hP : Pm I (139 + 20 * v) (anq A) (aqd A) (asd A v)) (hm : ∀ i, i < anq A → I 136 i = mkI (mm i) ∧ ∀ k, mm i = some k → k < aqd A (vO A v i) 4) : ZP yX9_handIn cX9_handIn 3 (some FieldType.int) 5 [.ref 0, .int x, .ref (139 + 20 * v)] Sg I (fun r J => (∀ a, 259 ≤ a → J a = I a) ∧ r = some (.int (nI (ans A))) ∧ CI J (shA A v mm) (phc hc) (pHh hc Hh A) tc bf) := by
  have h0 := at_tv
  have hn1 := at_now.1
  have hnv := h.2.1.2.1
  have hn := h.2.1.1.1
  have hv6 : v < 6 := by omega
  have hpp := at_paper hv6
  have hdr : RowAt 135 20 := ⟨rfl, rfl, by decide⟩
  have hs0 := at_sheets.1
  subst hx
  refine ZSp.of (own := RX9) (L := [.ref 0, .int (nI v), .ref (139 + 20 * v)]) mX9_handIn rfl (List.all_eq_true.mp rfl) (Nat.le_of_ble_eq_true rfl) rfl (fun X hE hN => ?_)
  refine z_aload_n dX9_handIn_0 rfl ?_
  refine z_getR fRX9_19 dX9_handIn_1 (by first | assumption | rfl) (by rfl) ?_
  refine z_aload_n dX9_handIn_4 rfl ?_
  refine z_getR fRX9_10 dX9_handIn_5 (by first | assumption | rfl) (by rfl) ?_
  refine z_cV1p mX0_keep gRX9_191 dX9_handIn_8 (s_keep h.1 h.2.1 h.2.2.1) (by decide) (by first | assumption | rfl) (by rfl) (Nat.le_of_ble_eq_true rfl) (Nat.le_refl _) (Nat.le_refl _) (fun r J hq => ?_)
  obtain ⟨rfl, b1, b2⟩ := hq
  have b1' := b1
  have b2' := b2
  have hcnt : J 7 5 = nI (ans A) := by rw [b1 7 (by decide)]; exact h.1.2.2.2.2.1
  have hPJ : Pm J (139 + 20 * v) (anq A) (aqd A) (asd A v) := hP.keep (fun a q1 q2 => b1 a (by omega))
  have hmJ : ∀ i, i < anq A → J (135 + 1) i = mkI (mm i) ∧ ∀ k, mm i = some k → k < aqd A (Od (anq A) (aqd A) (asd A v) i) 4 := fun i hi => by rw [b1 (135 + 1) (by decide)]; exact hm i hi
  refine z_aload_n dX9_handIn_11 rfl ?_
  refine z_getR fRX9_10 dX9_handIn_12 (by first | assumption | rfl) (by rfl) ?_
  refine z_getR fRX9_66 dX9_handIn_15 (by first | assumption | rfl) (by rfl) ?_
  refine z_iload_n dX9_handIn_18 rfl ?_
  refine z_aload_n dX9_handIn_19 rfl ?_
  refine z_aload_n dX9_handIn_20 rfl ?_
  refine z_getR fRX9_53 dX9_handIn_21 (by first | assumption | rfl) (by rfl) ?_
  refine z_cV3p mX7_append gRX9_258 dX9_handIn_24 (s_shAppend at_sheets hcnt hs20 h.2.1.1 hpp hPJ hdr rfl hmJ (Or.inl ⟨by decide, by omega⟩)) (by decide) (by first | assumption | rfl) (by rfl) (Nat.le_of_ble_eq_true rfl) (Nat.le_refl _) (Nat.le_refl _) (fun r J hq => ?_)
  obtain ⟨rfl, c1, c2, c3, c4, c5, c6, c7, c8, c9⟩ := hq
  rename_i K
  have fr : ∀ a, a ≠ 7 → a ≠ 9 → a ≠ 11 → a ≠ 13 → a ≠ 15 → a ≠ 17 → J a = K a := fun a q1 q2 q3 q4 q5 q6 => c1 a q1 q2 q3 q4 q5 q6
  have fl : ∀ a, (a < 7 ∨ 105 ≤ a) → J a = I a := fun a ha => by rw [fr a (by omega) (by omega) (by omega) (by omega) (by omega) (by omega), b1' a (by omega)]
  refine z_iret hE dX9_handIn_27 ⟨rfl, fun a ha => fl a (by omega), rfl, ?_, ?_, b2'.keep (fun a q1 q2 => fr a (by omega) (by omega) (by omega) (by omega) (by omega) (by omega)), ?_, h.2.2.2.2.keep (fl 0 (by decide)) (fl 138 (by decide))⟩
  · obtain ⟨s1, s2, s3, s4, s5, s6⟩ := h.1
    refine ⟨s1.keep (fl _ (by decide)) (fl _ (by decide)), by rw [fl _ (by decide)]; exact s2, fun w hw => by rw [fl _ (by decide)]; exact s3 w hw, by rw [fl _ (by decide)]; exact s4, ?_, fun t ht => ?_⟩
    · show J 7 5 = _
      rw [c2, upd_at]
      rfl
    · have ht1 : t < ans A + 1 := ht
      by_cases e : t = ans A
      · subst e
        have e1 : asv (shA A v mm) (ans A) = v := if_pos rfl
        have e2 : amk (shA A v mm) (ans A) = mm := if_pos rfl
        rw [shR, shW, e1, e2]
        refine ⟨?_, ?_, ?_, fun p hp => ⟨c6 p hp, c8 p hp⟩⟩
        · show J (7 + 1 + 1) (ans A) = _
          rw [c3, upd_at]
        · show J (7 + 3 + 1) (ans A) = _
          rw [c4, upd_at]
          rfl
        · show J (7 + 5 + 1) (ans A) = _
          rw [c5, upd_at]
          rfl
      · have e1 : asv (shA A v mm) t = asv A t := if_neg e
        have e2 : amk (shA A v mm) t = amk A t := if_neg e
        have ht2 : t < ans A := by omega
        rw [shR, shW, e1, e2]
        obtain ⟨r1, r2, r3, r4⟩ := s6 t ht2
        refine ⟨?_, ?_, ?_, fun p hp => ⟨?_, ?_⟩⟩
        · show J (7 + 1 + 1) t = _
          rw [c3, upd_ne _ _ e, b1' _ (by decide)]
          exact r1
        · show J (7 + 3 + 1) t = _
          rw [c4, upd_ne _ _ e, b1' _ (by decide)]
          exact r2
        · show J (7 + 5 + 1) t = _
          rw [c5, upd_ne _ _ e, b1' _ (by decide)]
          exact r3
        · have hp2 : p < anq A := hp
          show J (7 + 7 + 1) (20 * t + p) = _
          rw [c7 _ (by omega), b1' _ (by decide)]
          exact (r4 p hp).1
        · have hp2 : p < anq A := hp
          have hO : vO A (asv A t) p < anq A := (Od_en (anq A) (aqd A) (asd A (asv A t))).1 p hp2
          show J (7 + 9 + 1) (20 * t + vO A (asv A t) p) = _
          rw [c9 _ (by omega), b1' _ (by decide)]
          exact (r4 p hp).2
  · obtain ⟨v1, v2, v3, v4, v5, v6⟩ := h.2.1
    refine ⟨v1, v2, v3, v4, hs20, fun t ht => ?_⟩
    have ht1 : t < ans A + 1 := ht
    by_cases e : t = ans A
    · subst e
      have e1 : asv (shA A v mm) (ans A) = v := if_pos rfl
      have e2 : amk (shA A v mm) (ans A) = mm := if_pos rfl
      rw [e1, e2]
      exact ⟨hv, fun p hp => (hm p hp).2⟩
    · have e1 : asv (shA A v mm) t = asv A t := if_neg e
      have e2 : amk (shA A v mm) t = amk A t := if_neg e
      rw [e1, e2]
      exact v6 t (by omega)
  · intro w hw
    rcases h.2.2.2.1 w hw with g | ⟨g1, g2, g3, g4⟩
    · exact Or.inl (by rw [fl _ (by omega)]; exact g)
    · exact Or.inr ⟨by rw [fl _ (by omega)]; exact g1, g2, g3.keep (fun a q1 q2 => fl a (by omega)), g4.keep (fun a q1 q2 => fl a (by omega))⟩

