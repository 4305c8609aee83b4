/-! ===== the class's numbers of many sheets ===== -/
def swF (A : AS) (s t : Nat) : Nat → Nat
  | 0 => 0
  | q + 1 => if pkA A s q ≠ -1 ∧ pkA A s q = pkA A t q ∧ pkA A s q ≠ nI (aqd A q 1) then swF A s t q + 1 else swF A s t q
theorem swF_le (A : AS) (s t : Nat) : ∀ q, swF A s t q ≤ q
  | 0 => Nat.le_refl _
  | q + 1 => by
    have ih := swF_le A s t q
    rw [swF]
    by_cases h : pkA A s q ≠ -1 ∧ pkA A s q = pkA A t q ∧ pkA A s q ≠ nI (aqd A q 1)
    · rw [if_pos h]; omega
    · rw [if_neg h]; omega
theorem s_countSW {I : ZI} {A : AS} {s t : Nat} {x y : Int32} (hS : Sc I 1 A) (hV : AV A) (hx : x = nI s) (hy : y = nI t) (hs' : s < ans A) (ht : t < ans A) : ZE yX9_countSameWrong cX9_countSameWrong 6 (some FieldType.int) 2 [.ref 0, .int x, .int y] Sg I (some (.int (nI (swF A s t (anq A))))) I := by
  have h0 := at_tv
  have hn1 := at_now.1
  have hs := at_sheets
  have hq0 := at_q.1
  have hns := hV.2.2.2.2.1
  have hn := hV.1.1
  have hq1 : I 2 1 = nI (anq A) := hS.1.1
  subst hx
  subst hy
  refine ZSp.of (own := RX9) (L := [.ref 0, .int (nI s), .int (nI t), zj, zj, zj]) mX9_countSameWrong rfl (List.all_eq_true.mp rfl) (Nat.le_of_ble_eq_true rfl) rfl (fun X hE hN => ?_)
  have loop : ∀ (m q : Nat), q + m = anq A → (ZG X RX9 cX9_countSameWrong 6 2 0 0 0 0 5 [.ref 0, .int (nI s), .int (nI t), .int (nI (swF A s t q)), .int (nI q), zj] [] Sg I) := by
    intro m
    induction m with
    | zero =>
      intro q hq
      have e : q = anq A := by omega
      subst e
      refine z_iload dX9_countSameWrong_5 rfl ?_
      refine z_aload_n dX9_countSameWrong_7 rfl ?_
      refine z_getR fRX9_10 dX9_countSameWrong_8 (by first | assumption | rfl) (by rfl) ?_
      refine z_getR fRX9_76 dX9_countSameWrong_11 (by first | assumption | rfl) (by rfl) ?_
      refine z_getI fRX9_80 dX9_countSameWrong_14 (by first | assumption | rfl) (by rfl) ?_
      refine z_icmp_ge (tgt := 86) dX9_countSameWrong_17 (by decide) (fun _ => ?_) (fun hb => absurd (by rw [hq1]; exact nI_le (Nat.le_refl _) (by omega)) hb)
      refine z_iload_n dX9_countSameWrong_86 rfl ?_
      exact z_eireturn hE dX9_countSameWrong_87 rfl rfl
    | succ m ih =>
      intro q hq
      have nxt := ih (q + 1) (by omega)
      have e1 : swF A s t (q + 1) = if pkA A s q ≠ -1 ∧ pkA A s q = pkA A t q ∧ pkA A s q ≠ nI (aqd A q 1) then swF A s t q + 1 else swF A s t q := rfl
      refine z_iload dX9_countSameWrong_5 rfl ?_
      refine z_aload_n dX9_countSameWrong_7 rfl ?_
      refine z_getR fRX9_10 dX9_countSameWrong_8 (by first | assumption | rfl) (by rfl) ?_
      refine z_getR fRX9_76 dX9_countSameWrong_11 (by first | assumption | rfl) (by rfl) ?_
      refine z_getI fRX9_80 dX9_countSameWrong_14 (by first | assumption | rfl) (by rfl) ?_
      refine z_icmp_ge (tgt := 86) dX9_countSameWrong_17 (by decide) (fun hb => absurd hb (by rw [hq1]; exact nI_ge (by omega) (by omega))) (fun _ => ?_)
      refine z_aload_n dX9_countSameWrong_20 rfl ?_
      refine z_getR fRX9_10 dX9_countSameWrong_21 (by first | assumption | rfl) (by rfl) ?_
      refine z_getR fRX9_66 dX9_countSameWrong_24 (by first | assumption | rfl) (by rfl) ?_
      refine z_iload_n dX9_countSameWrong_27 rfl ?_
      refine z_iload dX9_countSameWrong_28 rfl ?_
      refine z_cV2s mX7_pick gRX9_197 dX9_countSameWrong_30 (s_pick hs rfl rfl (show s < 20 by omega) (show q < 20 by omega)) (by decide) (by first | assumption | rfl) (by rfl) (Nat.le_of_ble_eq_true rfl) (Nat.le_refl _) (Nat.le_refl _) ?_
      rw [sc_pick hS hs' (show q < anq A by omega)]
      refine z_ist5 dX9_countSameWrong_33 (by decide) rfl ?_
      refine z_iload dX9_countSameWrong_35 rfl ?_
      refine z_iconst (v := -1) dX9_countSameWrong_37 rfl ?_
      refine z_icmp_eq (tgt := 80) dX9_countSameWrong_38 (by decide) (fun ha => ?_) (fun ha => ?_)
      · refine z_inc4 (w := 1) dX9_countSameWrong_80 rfl (by decide) rfl ?_
        refine z_goto (tgt := 5) dX9_countSameWrong_83 (by decide) ?_
        rw [e1, if_neg (fun z => z.1 ha)] at nxt
        rw [nI_1]
        refine z_fg5 ?_
        exact nxt
      · refine z_iload dX9_countSameWrong_41 rfl ?_
        refine z_aload_n dX9_countSameWrong_43 rfl ?_
        refine z_getR fRX9_10 dX9_countSameWrong_44 (by first | assumption | rfl) (by rfl) ?_
        refine z_getR fRX9_66 dX9_countSameWrong_47 (by first | assumption | rfl) (by rfl) ?_
        refine z_iload_n dX9_countSameWrong_50 rfl ?_
        refine z_iload dX9_countSameWrong_51 rfl ?_
        refine z_cV2s mX7_pick gRX9_197 dX9_countSameWrong_53 (s_pick hs rfl rfl (show t < 20 by omega) (show q < 20 by omega)) (by decide) (by first | assumption | rfl) (by rfl) (Nat.le_of_ble_eq_true rfl) (Nat.le_refl _) (Nat.le_refl _) ?_
        rw [sc_pick hS ht (show q < anq A by omega)]
        refine z_icmp_ne (tgt := 80) dX9_countSameWrong_56 (by decide) (fun hc => ?_) (fun hc => ?_)
        · refine z_inc4 (w := 1) dX9_countSameWrong_80 rfl (by decide) rfl ?_
          refine z_goto (tgt := 5) dX9_countSameWrong_83 (by decide) ?_
          rw [e1, if_neg (fun z => hc z.2.1)] at nxt
          rw [nI_1]
          refine z_fg5 ?_
          exact nxt
        · refine z_iload dX9_countSameWrong_59 rfl ?_
          refine z_aload_n dX9_countSameWrong_61 rfl ?_
          refine z_getR fRX9_10 dX9_countSameWrong_62 (by first | assumption | rfl) (by rfl) ?_
          refine z_getR fRX9_76 dX9_countSameWrong_65 (by first | assumption | rfl) (by rfl) ?_
          refine z_iload dX9_countSameWrong_68 rfl ?_
          refine z_iconst (v := 1) dX9_countSameWrong_70 rfl ?_
          refine z_cV2s mX5_number gRX9_95 dX9_countSameWrong_71 (s_number at_q hS.1 hn rfl (show (1 : Int32) = nI 1 from rfl) (show q < anq A by omega) (by decide)) (by decide) (by first | assumption | rfl) (by rfl) (Nat.le_of_ble_eq_true rfl) (Nat.le_refl _) (Nat.le_refl _) ?_
          refine z_icmp_eq (tgt := 80) dX9_countSameWrong_74 (by decide) (fun he => ?_) (fun he => ?_)
          · refine z_inc4 (w := 1) dX9_countSameWrong_80 rfl (by decide) rfl ?_
            refine z_goto (tgt := 5) dX9_countSameWrong_83 (by decide) ?_
            rw [e1, if_neg (fun z => z.2.2 he)] at nxt
            rw [nI_1]
            refine z_fg5 ?_
            exact nxt
          · refine z_inc3 (w := 1) dX9_countSameWrong_77 rfl (by decide) rfl ?_
            refine z_inc4 (w := 1) dX9_countSameWrong_80 rfl (by decide) rfl ?_
            refine z_goto (tgt := 5) dX9_countSameWrong_83 (by decide) ?_
            rw [e1, if_pos ⟨ha, hc, he⟩] at nxt
            rw [nI_1, nI_1]
            refine z_fg5 ?_
            exact nxt
  refine z_iconst (v := 0) dX9_countSameWrong_0 rfl ?_
  refine z_ist3 dX9_countSameWrong_1 (by decide) rfl ?_
  refine z_iconst (v := 0) dX9_countSameWrong_2 rfl ?_
  refine z_ist4 dX9_countSameWrong_3 (by decide) rfl ?_
  exact loop (anq A) 0 (by omega)
def aSameWrong (A : AS) (x y r : Int32) : Prop := (∃ s t, s < ans A ∧ x = nI s ∧ t < ans A ∧ y = nI t ∧ r = nI (swF A s t (anq A))) ∨ ((¬ isT A x ∨ ¬ isT A y) ∧ r = -1001)
theorem s_sameWrong {I : ZI} {A : AS} {hc : Nat} {Hh : Nat → AS} {tc : Nat} {bf : Nat → Nat} {x y : Int32} (h : CI I A hc Hh tc bf) : ZP yX9_sameWrong cX9_sameWrong 3 (some FieldType.int) 3 [.ref 0, .int x, .int y] Sg I (fun r J => (∃ a, r = some (.int a) ∧ aSameWrong A x y a) ∧ J = I) := by
  have h0 := at_tv
  have hn1 := at_now.1
  have hs := at_sheets
  have hns := h.2.1.2.2.2.2.1
  have hcnt : I 7 5 = nI (ans A) := h.1.2.2.2.2.1
  refine ZSp.of (own := RX9) (L := [.ref 0, .int x, .int y]) mX9_sameWrong rfl (List.all_eq_true.mp rfl) (Nat.le_of_ble_eq_true rfl) rfl (fun X hE hN => ?_)
  refine z_aload_n dX9_sameWrong_0 rfl ?_
  refine z_getR fRX9_10 dX9_sameWrong_1 (by first | assumption | rfl) (by rfl) ?_
  refine z_getR fRX9_66 dX9_sameWrong_4 (by first | assumption | rfl) (by rfl) ?_
  refine z_iload_n dX9_sameWrong_7 rfl ?_
  refine z_cV1s mX7_has gRX9_195 dX9_sameWrong_8 (s_shHas hs) (by decide) (by first | assumption | rfl) (by rfl) (Nat.le_of_ble_eq_true rfl) (Nat.le_refl _) (Nat.le_refl _) ?_
  rw [hcnt]
  have bad : (¬ isT A x ∨ ¬ isT A y) → (ZG X RX9 cX9_sameWrong 3 3 0 0 0 0 28 [.ref 0, .int x, .int y] [] Sg I) := by
    intro hw
    refine z_sipush (v := -1001) dX9_sameWrong_28 rfl ?_
    exact z_iret hE dX9_sameWrong_31 ⟨rfl, ⟨_, rfl, Or.inr ⟨hw, rfl⟩⟩, rfl⟩
  rcases z_dom x (ans A) (by omega) with ⟨s, hs', rfl, hx⟩ | ⟨hx, hxt⟩
  · rw [if_neg hx]
    refine z_if_eq (tgt := 28) dX9_sameWrong_11 (by decide) (fun hb => absurd hb (by decide)) (fun _ => ?_)
    refine z_aload_n dX9_sameWrong_14 rfl ?_
    refine z_getR fRX9_10 dX9_sameWrong_15 (by first | assumption | rfl) (by rfl) ?_
    refine z_getR fRX9_66 dX9_sameWrong_18 (by first | assumption | rfl) (by rfl) ?_
    refine z_iload_n dX9_sameWrong_21 rfl ?_
    refine z_cV1s mX7_has gRX9_195 dX9_sameWrong_22 (s_shHas hs) (by decide) (by first | assumption | rfl) (by rfl) (Nat.le_of_ble_eq_true rfl) (Nat.le_refl _) (Nat.le_refl _) ?_
    rw [hcnt]
    rcases z_dom y (ans A) (by omega) with ⟨t, ht, rfl, hy⟩ | ⟨hy, hyt⟩
    · rw [if_neg hy]
      refine z_if_ne (tgt := 32) dX9_sameWrong_25 (by decide) (fun _ => ?_) (fun hb => absurd hb (by decide))
      refine z_aload_n dX9_sameWrong_32 rfl ?_
      refine z_iload_n dX9_sameWrong_33 rfl ?_
      refine z_iload_n dX9_sameWrong_34 rfl ?_
      refine z_cV2s mX9_countSameWrong gRX9_213 dX9_sameWrong_35 (s_countSW h.1 h.2.1 rfl rfl hs' ht) (by decide) (by first | assumption | rfl) (by rfl) (Nat.le_of_ble_eq_true rfl) (Nat.le_refl _) (Nat.le_refl _) ?_
      exact z_iret hE dX9_sameWrong_38 ⟨rfl, ⟨_, rfl, Or.inl ⟨s, t, hs', rfl, ht, rfl, rfl⟩⟩, rfl⟩
    · rw [if_pos hy]
      refine z_if_ne (tgt := 32) dX9_sameWrong_25 (by decide) (fun hb => absurd (rfl) hb) (fun _ => ?_)
      exact bad (Or.inr hyt)
  · rw [if_pos hx]
    refine z_if_eq (tgt := 28) dX9_sameWrong_11 (by decide) (fun _ => ?_) (fun hb => absurd (rfl) hb)
    exact bad (Or.inl hxt)
/-- the pair with most wrong answers in common: what is asked, and how many (one more) -/
def suI (A : AS) (s : Nat) (b : Int32 × Int32) : Nat → Int32 × Int32
  | 0 => b
  | k + 1 => if (suI A s b k).2 < nI (swF A s (s + 1 + k) (anq A)) then (100 * nI s + nI (s + 1 + k), nI (swF A s (s + 1 + k) (anq A))) else suI A s b k
def suO (A : AS) : Nat → Int32 × Int32
  | 0 => (-1009, -1)
  | s + 1 => suI A s (suO A s) (ans A - (s + 1))
theorem s_suspects {I : ZI} {A : AS} {hc : Nat} {Hh : Nat → AS} {tc : Nat} {bf : Nat → Nat} (h : CI I A hc Hh tc bf) : ZE yX9_suspects cX9_suspects 6 (some FieldType.int) 3 [.ref 0] Sg I (some (.int (suO A (ans A)).1)) I := by
  have h0 := at_tv
  have hn1 := at_now.1
  have hs := at_sheets.1
  have hns := h.2.1.2.2.2.2.1
  have hcnt : I 7 5 = nI (ans A) := h.1.2.2.2.2.1
  refine ZSp.of (own := RX9) (L := [.ref 0, zj, zj, zj, zj, zj]) mX9_suspects rfl (List.all_eq_true.mp rfl) (Nat.le_of_ble_eq_true rfl) rfl (fun X hE hN => ?_)
  have inner : ∀ (s : Nat), s < ans A → ∀ (b : Int32 × Int32) (m k : Nat), k + m = ans A - (s + 1) → ((ZG X RX9 cX9_suspects 6 3 0 0 0 0 8 [.ref 0, .int (suI A s b (ans A - (s + 1))).1, .int (suI A s b (ans A - (s + 1))).2, .int (nI (s + 1)), zj, zj] [] Sg I)) → (ZG X RX9 cX9_suspects 6 3 0 0 0 0 27 [.ref 0, .int (suI A s b k).1, .int (suI A s b k).2, .int (nI s), .int (nI (s + 1 + k)), zj] [] Sg I) := by
    intro s hs1 b m
    induction m with
    | zero =>
      intro k hk nxt
      have e : k = ans A - (s + 1) := by omega
      subst e
      refine z_iload dX9_suspects_27 rfl ?_
      refine z_aload_n dX9_suspects_29 rfl ?_
      refine z_getR fRX9_10 dX9_suspects_30 (by first | assumption | rfl) (by rfl) ?_
      refine z_getR fRX9_66 dX9_suspects_33 (by first | assumption | rfl) (by rfl) ?_
      refine z_getI fRX9_70 dX9_suspects_36 (by first | assumption | rfl) (by rfl) ?_
      refine z_icmp_ge (tgt := 74) dX9_suspects_39 (by decide) (fun _ => ?_) (fun hb => absurd (by rw [hcnt]; exact nI_le (by omega) (by omega)) hb)
      refine z_inc3 (w := 1) dX9_suspects_74 rfl (by decide) rfl ?_
      refine z_goto (tgt := 8) dX9_suspects_77 (by decide) ?_
      rw [nI_1]
      refine z_fg4 (z_fg5 ?_)
      exact nxt
    | succ m ih =>
      intro k hk nxt
      have e1 : suI A s b (k + 1) = if (suI A s b k).2 < nI (swF A s (s + 1 + k) (anq A)) then (100 * nI s + nI (s + 1 + k), nI (swF A s (s + 1 + k) (anq A))) else suI A s b k := rfl
      have nx2 := ih (k + 1) (by omega) nxt
      refine z_iload dX9_suspects_27 rfl ?_
      refine z_aload_n dX9_suspects_29 rfl ?_
      refine z_getR fRX9_10 dX9_suspects_30 (by first | assumption | rfl) (by rfl) ?_
      refine z_getR fRX9_66 dX9_suspects_33 (by first | assumption | rfl) (by rfl) ?_
      refine z_getI fRX9_70 dX9_suspects_36 (by first | assumption | rfl) (by rfl) ?_
      refine z_icmp_ge (tgt := 74) dX9_suspects_39 (by decide) (fun hb => absurd hb (by rw [hcnt]; exact nI_ge (by omega) (by omega))) (fun _ => ?_)
      refine z_aload_n dX9_suspects_42 rfl ?_
      refine z_iload_n dX9_suspects_43 rfl ?_
      refine z_iload dX9_suspects_44 rfl ?_
      refine z_cV2s mX9_countSameWrong gRX9_213 dX9_suspects_46 (s_countSW h.1 h.2.1 rfl rfl hs1 (show s + 1 + k < ans A by omega)) (by decide) (by first | assumption | rfl) (by rfl) (Nat.le_of_ble_eq_true rfl) (Nat.le_refl _) (Nat.le_refl _) ?_
      refine z_ist5 dX9_suspects_49 (by decide) rfl ?_
      refine z_iload dX9_suspects_51 rfl ?_
      refine z_iload_n dX9_suspects_53 rfl ?_
      refine z_icmp_le (tgt := 68) dX9_suspects_54 (by decide) (fun ha => ?_) (fun ha => ?_)
      · refine z_inc4 (w := 1) dX9_suspects_68 rfl (by decide) rfl ?_
        refine z_goto (tgt := 27) dX9_suspects_71 (by decide) ?_
        rw [e1, if_neg (Int32.not_lt.mpr ha)] at nx2
        rw [nI_1]
        refine z_fg5 ?_
        exact nx2
      · refine z_iload dX9_suspects_57 rfl ?_
        refine z_ist2 dX9_suspects_59 (by decide) rfl ?_
        refine z_bipush (v := 100) dX9_suspects_60 rfl ?_
        refine z_iload_n dX9_suspects_62 rfl ?_
        refine z_imul dX9_suspects_63 ?_
        refine z_iload dX9_suspects_64 rfl ?_
        refine z_iadd dX9_suspects_66 ?_
        refine z_ist1 dX9_suspects_67 (by decide) rfl ?_
        refine z_inc4 (w := 1) dX9_suspects_68 rfl (by decide) rfl ?_
        refine z_goto (tgt := 27) dX9_suspects_71 (by decide) ?_
        rw [e1, if_pos (Int32.not_le.mp ha)] at nx2
        rw [nI_1]
        refine z_fg5 ?_
        exact nx2
  have outer : ∀ (m s : Nat), s + m = ans A → (ZG X RX9 cX9_suspects 6 3 0 0 0 0 8 [.ref 0, .int (suO A s).1, .int (suO A s).2, .int (nI s), zj, zj] [] Sg I) := by
    intro m
    induction m with
    | zero =>
      intro s hs1
      have e : s = ans A := by omega
      subst e
      refine z_iload_n dX9_suspects_8 rfl ?_
      refine z_aload_n dX9_suspects_9 rfl ?_
      refine z_getR fRX9_10 dX9_suspects_10 (by first | assumption | rfl) (by rfl) ?_
      refine z_getR fRX9_66 dX9_suspects_13 (by first | assumption | rfl) (by rfl) ?_
      refine z_getI fRX9_70 dX9_suspects_16 (by first | assumption | rfl) (by rfl) ?_
      refine z_icmp_ge (tgt := 80) dX9_suspects_19 (by decide) (fun _ => ?_) (fun hb => absurd (by rw [hcnt]; exact nI_le (Nat.le_refl _) (by omega)) hb)
      refine z_iload_n dX9_suspects_80 rfl ?_
      exact z_eireturn hE dX9_suspects_81 rfl rfl
    | succ m ih =>
      intro s hs1
      have nxt := ih (s + 1) (by omega)
      refine z_iload_n dX9_suspects_8 rfl ?_
      refine z_aload_n dX9_suspects_9 rfl ?_
      refine z_getR fRX9_10 dX9_suspects_10 (by first | assumption | rfl) (by rfl) ?_
      refine z_getR fRX9_66 dX9_suspects_13 (by first | assumption | rfl) (by rfl) ?_
      refine z_getI fRX9_70 dX9_suspects_16 (by first | assumption | rfl) (by rfl) ?_
      refine z_icmp_ge (tgt := 80) dX9_suspects_19 (by decide) (fun hb => absurd hb (by rw [hcnt]; exact nI_ge (by omega) (by omega))) (fun _ => ?_)
      refine z_iload_n dX9_suspects_22 rfl ?_
      refine z_iconst (v := 1) dX9_suspects_23 rfl ?_
      refine z_iadd dX9_suspects_24 ?_
      refine z_ist4 dX9_suspects_25 (by decide) rfl ?_
      have := inner s (by omega) (suO A s) (ans A - (s + 1)) 0 (by omega) nxt
      rw [nI_1]
      exact this
  refine z_sipush (v := -1009) dX9_suspects_0 rfl ?_
  refine z_ist1 dX9_suspects_3 (by decide) rfl ?_
  refine z_iconst (v := -1) dX9_suspects_4 rfl ?_
  refine z_ist2 dX9_suspects_5 (by decide) rfl ?_
  refine z_iconst (v := 0) dX9_suspects_6 rfl ?_
  refine z_ist3 dX9_suspects_7 (by decide) rfl ?_
  exact outer (ans A) 0 (by omega)

