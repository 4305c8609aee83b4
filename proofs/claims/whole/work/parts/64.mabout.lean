/-! ===== the model: about ===== -/
theorem eqc_iff {P Q : Nat → Int32} {x y : Int32} : ∀ {k : Nat}, (∀ j, j < k → (P j = x ↔ Q j = y)) → eqc P x k = eqc Q y k
  | 0, _ => rfl
  | k + 1, h => by
    rw [eqc, eqc, eqc_iff (P := P) (Q := Q) (x := x) (y := y) (fun j hj => h j (by omega))]
    have e := h k (Nat.lt_succ_self k)
    by_cases q : Q k = y
    · rw [if_pos q, if_pos (e.mpr q)]
    · rw [if_neg q, if_neg (fun z => q (e.mp z))]
def tkF (A : AS) (q : Nat) (y : Int32) : Nat := eqc (fun t => anF A t q) y (ans A)
theorem tk_ch {A : AS} {q c : Nat} (hV : AV A) (hq : q < anq A) (hc : c < 5) : tkF A q (nI c) = abP A q (nI c) := eqc_iff (fun j hj => an_eq hV hj hq hc)
theorem tk_no {A : AS} {q : Nat} (hV : AV A) (hq : q < anq A) : tkF A q (-1009) = abP A q (-1) := eqc_iff (fun j hj => an_none hV hj hq)
theorem q_taken {I : ZI} {A : AS} {hc : Nat} {Hh : Nat → AS} {tc : Nat} {bf : Nat → Nat} {q : Nat} {x y : Int32} (h : RI I A hc Hh tc bf) (hx : x = nI q) (hq : q < anq A) : ZP yX10_taken cX10_taken 5 (some FieldType.int) 6 [.ref 259, .int x, .int y] Sg I (fun r J => r = some (.int (nI (tkF A q y))) ∧ MFr I J) := by
  have g0 := m_obj
  have hns := h.2.1.2.2.2.2.1
  subst hx
  refine ZSp.of (own := RX10) (L := [.ref 259, .int (nI q), .int y, zj, zj]) mX10_taken rfl (List.all_eq_true.mp rfl) (Nat.le_of_ble_eq_true rfl) rfl (fun X hE hN => ?_)
  have loop : ∀ (m k : Nat) (K : ZI), k + m = ans A → MFr I K → (ZG X RX10 cX10_taken 5 6 0 0 0 0 5 [.ref 259, .int (nI q), .int y, .int (nI (eqc (fun t => anF A t q) y k)), .int (nI k)] [] Sg K) := by
    intro m
    induction m with
    | zero =>
      intro k K hk c1
      have e : k = ans A := by omega
      subst e
      have hRK := c1.ri h
      refine z_iload dX10_taken_5 rfl ?_
      refine z_aload_n dX10_taken_7 rfl ?_
      refine z_getR fRX10_7 dX10_taken_8 (by first | assumption | rfl) (by rfl) ?_
      refine z_iconst (v := 3) dX10_taken_11 rfl ?_
      refine z_ialdN (j := 3) dX10_taken_12 m_v (rfl) (by decide) (by decide) ?_
      rw [hRK.1.2.2.2.1]
      refine z_icmp_ge (tgt := 41) dX10_taken_13 (by decide) (fun _ => ?_) (fun hb => absurd (nI_le (Nat.le_refl _) (by omega)) hb)
      refine z_iload_n dX10_taken_41 rfl ?_
      exact z_iret hE dX10_taken_42 ⟨rfl, rfl, c1⟩
    | succ m ih =>
      intro k K hk c1
      have hRK := c1.ri h
      have e1 : eqc (fun t => anF A t q) y (k + 1) = eqc (fun t => anF A t q) y k + (if anF A k q = y then 1 else 0) := rfl
      refine z_iload dX10_taken_5 rfl ?_
      refine z_aload_n dX10_taken_7 rfl ?_
      refine z_getR fRX10_7 dX10_taken_8 (by first | assumption | rfl) (by rfl) ?_
      refine z_iconst (v := 3) dX10_taken_11 rfl ?_
      refine z_ialdN (j := 3) dX10_taken_12 m_v (rfl) (by decide) (by decide) ?_
      rw [hRK.1.2.2.2.1]
      refine z_icmp_ge (tgt := 41) dX10_taken_13 (by decide) (fun hb => absurd hb (nI_ge (by omega) (by omega))) (fun _ => ?_)
      refine z_iload_n dX10_taken_16 rfl ?_
      refine z_aload_n dX10_taken_17 rfl ?_
      refine z_iload dX10_taken_18 rfl ?_
      refine z_iload_n dX10_taken_20 rfl ?_
      refine z_cV2p mX10_answerOf gRX10_157 dX10_taken_21 (q_answerOf hRK rfl (show k < ans A by omega) rfl hq) (by decide) (by first | assumption | rfl) (by rfl) (Nat.le_of_ble_eq_true rfl) (Nat.le_refl _) (Nat.le_refl _) (fun r J hq => ?_)
      obtain ⟨rfl, d1⟩ := hq
      have nxt := ih (k + 1) J (by omega) (c1.trans d1)
      refine z_iload_n dX10_taken_24 rfl ?_
      refine z_icmp_ne (tgt := 32) dX10_taken_25 (by decide) (fun hb => ?_) (fun hb => ?_)
      · refine z_iconst (v := 0) dX10_taken_32 rfl ?_
        refine z_iadd dX10_taken_33 ?_
        refine z_ist3 dX10_taken_34 (by decide) rfl ?_
        refine z_inc4 (w := 1) dX10_taken_35 rfl (by decide) rfl ?_
        refine z_goto (tgt := 5) dX10_taken_38 (by decide) ?_
        rw [e1, if_neg hb, Nat.add_zero] at nxt
        rw [Int32.add_zero, nI_1]
        exact nxt
      · refine z_iconst (v := 1) dX10_taken_28 rfl ?_
        refine z_goto (tgt := 33) dX10_taken_29 (by decide) ?_
        refine z_iadd dX10_taken_33 ?_
        refine z_ist3 dX10_taken_34 (by decide) rfl ?_
        refine z_inc4 (w := 1) dX10_taken_35 rfl (by decide) rfl ?_
        refine z_goto (tgt := 5) dX10_taken_38 (by decide) ?_
        rw [e1, if_pos hb] at nxt
        rw [nI_1, nI_1]
        exact nxt
  refine z_iconst (v := 0) dX10_taken_0 rfl ?_
  refine z_ist3 dX10_taken_1 (by decide) rfl ?_
  refine z_iconst (v := 0) dX10_taken_2 rfl ?_
  refine z_ist4 dX10_taken_3 (by decide) rfl ?_
  exact loop (ans A) 0 I (by omega) (MFr.refl I)
theorem q_about {I : ZI} {A : AS} {hc : Nat} {Hh : Nat → AS} {tc : Nat} {bf : Nat → Nat} {y w a : Int32} (h : RI I A hc Hh tc bf) (hD : aAbout A y w a) : ZP yX10_about cX10_about 9 (some FieldType.int) 7 [.ref 259, .int y, .int w] Sg I (fun r J => r = some (.int a) ∧ (∀ a, a < 259 → J a = I a) ∧ RI J A hc Hh tc bf) := by
  have g0 := m_obj
  have hn := h.2.1.1.1
  have hns := h.2.1.2.2.2.2.1
  refine ZSp.of (own := RX10) (L := [.ref 259, .int y, .int w, zj, zj, zj, zj, zj, zj]) mX10_about rfl (List.all_eq_true.mp rfl) (Nat.le_of_ble_eq_true rfl) rfl (fun X hE hN => ?_)
  refine z_aload_n dX10_about_0 rfl ?_
  refine z_iload_n dX10_about_1 rfl ?_
  have bad : a = -1001 → (ZG X RX10 cX10_about 9 7 0 0 0 0 17 [.ref 259, .int y, .int w, zj, zj, zj, zj, zj, zj] [] Sg I) := by
    rintro rfl
    refine z_sipush (v := -1001) dX10_about_17 rfl ?_
    exact z_iret hE dX10_about_20 ⟨rfl, rfl, fun _ _ => rfl, h⟩
  rcases hD with ⟨q, hq, rfl, hw, rfl⟩ | ⟨hb, he⟩
  · have hkk : ¬ (w < 0 ∨ 3 < w) := by
      rcases hw with rfl | rfl | rfl | rfl <;> decide
    obtain ⟨v1, v2, v3, v4, v5, v6, v7⟩ := h.2.1.1.2 q hq
    have hr5 : aqd A q 1 < 5 := by omega
    have eR := tk_ch h.2.1 hq hr5
    have eN := tk_no h.2.1 hq
    have loop : ∀ (m k : Nat) (K : ZI), k + m = aqd A q 4 → MFr I K → (ZG X RX10 cX10_about 9 7 0 0 0 0 54 [.ref 259, .int (nI q), .int w, .int (nI (abP A q (nI (aqd A q 1)))), .int (nI (abP A q (-1))), .int (fvF (fun c => abP A q (nI c)) (aqd A q 1) k).2, .int (nI (fvF (fun c => abP A q (nI c)) (aqd A q 1) k).1), .int (nI k), zj] [] Sg K) := by
      intro m
      induction m with
      | zero =>
        intro k K hk c1
        have e : k = aqd A q 4 := by omega
        subst e
        have hRK := c1.ri h
        refine z_iload dX10_about_54 rfl ?_
        refine z_aload_n dX10_about_56 rfl ?_
        refine z_iload_n dX10_about_57 rfl ?_
        refine z_iconst (v := 4) dX10_about_58 rfl ?_
        refine z_cV2s mX10_of gRX10_61 dX10_about_59 (q_of hRK.1 hn rfl (show (4 : Int32) = nI 4 from rfl) hq (by decide)) (by decide) (by first | assumption | rfl) (by rfl) (Nat.le_of_ble_eq_true rfl) (Nat.le_refl _) (Nat.le_refl _) ?_
        refine z_icmp_ge (tgt := 127) dX10_about_62 (by decide) (fun _ => ?_) (fun hb => absurd (nI_le (Nat.le_refl _) (by omega)) hb)
        refine z_iload_n dX10_about_127 rfl ?_
        rcases hw with rfl | rfl | rfl | rfl
        · refine z_if_ne (tgt := 135) dX10_about_128 (by decide) (fun hb => absurd (rfl) hb) (fun _ => ?_)
          refine z_iload_n dX10_about_131 rfl ?_
          refine z_goto (tgt := 166) dX10_about_132 (by decide) ?_
          exact z_iret hE dX10_about_166 ⟨rfl, rfl, fun a ha => c1.1 a (Or.inl ha), hRK⟩
        · refine z_if_ne (tgt := 135) dX10_about_128 (by decide) (fun _ => ?_) (fun hb => absurd hb (by decide))
          refine z_iload_n dX10_about_135 rfl ?_
          refine z_iconst (v := 1) dX10_about_136 rfl ?_
          refine z_icmp_ne (tgt := 154) dX10_about_137 (by decide) (fun hb => absurd (rfl) hb) (fun _ => ?_)
          refine z_aload_n dX10_about_140 rfl ?_
          refine z_getR fRX10_7 dX10_about_141 (by first | assumption | rfl) (by rfl) ?_
          refine z_iconst (v := 3) dX10_about_144 rfl ?_
          refine z_ialdN (j := 3) dX10_about_145 m_v (rfl) (by decide) (by decide) ?_
          rw [hRK.1.2.2.2.1]
          refine z_iload_n dX10_about_146 rfl ?_
          refine z_isub dX10_about_147 ?_
          refine z_iload dX10_about_148 rfl ?_
          refine z_isub dX10_about_150 ?_
          refine z_goto (tgt := 166) dX10_about_151 (by decide) ?_
          exact z_iret hE dX10_about_166 ⟨rfl, rfl, fun a ha => c1.1 a (Or.inl ha), hRK⟩
        · refine z_if_ne (tgt := 135) dX10_about_128 (by decide) (fun _ => ?_) (fun hb => absurd hb (by decide))
          refine z_iload_n dX10_about_135 rfl ?_
          refine z_iconst (v := 1) dX10_about_136 rfl ?_
          refine z_icmp_ne (tgt := 154) dX10_about_137 (by decide) (fun _ => ?_) (fun hb => absurd hb (by decide))
          refine z_iload_n dX10_about_154 rfl ?_
          refine z_iconst (v := 2) dX10_about_155 rfl ?_
          refine z_icmp_ne (tgt := 164) dX10_about_156 (by decide) (fun hb => absurd (rfl) hb) (fun _ => ?_)
          refine z_iload dX10_about_159 rfl ?_
          refine z_goto (tgt := 166) dX10_about_161 (by decide) ?_
          exact z_iret hE dX10_about_166 ⟨rfl, rfl, fun a ha => c1.1 a (Or.inl ha), hRK⟩
        · refine z_if_ne (tgt := 135) dX10_about_128 (by decide) (fun _ => ?_) (fun hb => absurd hb (by decide))
          refine z_iload_n dX10_about_135 rfl ?_
          refine z_iconst (v := 1) dX10_about_136 rfl ?_
          refine z_icmp_ne (tgt := 154) dX10_about_137 (by decide) (fun _ => ?_) (fun hb => absurd hb (by decide))
          refine z_iload_n dX10_about_154 rfl ?_
          refine z_iconst (v := 2) dX10_about_155 rfl ?_
          refine z_icmp_ne (tgt := 164) dX10_about_156 (by decide) (fun _ => ?_) (fun hb => absurd hb (by decide))
          refine z_iload dX10_about_164 rfl ?_
          exact z_iret hE dX10_about_166 ⟨rfl, rfl, fun a ha => c1.1 a (Or.inl ha), hRK⟩
      | succ m ih =>
        intro k K hk c1
        have hRK := c1.ri h
        have hk4 : k < aqd A q 4 := by omega
        have e1 : fvF (fun c => abP A q (nI c)) (aqd A q 1) (k + 1) = if k ≠ aqd A q 1 ∧ (fvF (fun c => abP A q (nI c)) (aqd A q 1) k).1 < abP A q (nI k) then (abP A q (nI k), nI k) else fvF (fun c => abP A q (nI c)) (aqd A q 1) k := rfl
        have hle := fvF_le (P := fun c => abP A q (nI c)) (r := aqd A q 1) (n := ans A) (fun c => abP_le _ _ _) k
        have hle2 := abP_le A q (nI k)
        have tail : ∀ (n : Nat) (J : ZI), MFr I J → n ≤ ans A → (fvF (fun c => abP A q (nI c)) (aqd A q 1) (k + 1) = if (fvF (fun c => abP A q (nI c)) (aqd A q 1) k).1 < n then (n, nI k) else fvF (fun c => abP A q (nI c)) (aqd A q 1) k) → (ZG X RX10 cX10_about 9 7 0 0 0 0 87 [.ref 259, .int (nI q), .int w, .int (nI (abP A q (nI (aqd A q 1)))), .int (nI (abP A q (-1))), .int (fvF (fun c => abP A q (nI c)) (aqd A q 1) k).2, .int (nI (fvF (fun c => abP A q (nI c)) (aqd A q 1) k).1), .int (nI k), zj] [.int (nI n)] Sg J) := by
          intro n J c2 hn2 e2
          have nxt := ih (k + 1) J (by omega) c2
          rw [e2] at nxt
          refine z_ist8 dX10_about_87 (by decide) rfl ?_
          refine z_iload dX10_about_89 rfl ?_
          refine z_iload dX10_about_91 rfl ?_
          by_cases hlt : (fvF (fun c => abP A q (nI c)) (aqd A q 1) k).1 < n
          · rw [if_pos hlt] at nxt
            refine z_icmp_le (tgt := 101) dX10_about_93 (by decide) (fun hb => absurd hb (fun z => absurd ((nI_leI (by omega) (by omega)).mp z) (by omega))) (fun _ => ?_)
            refine z_iload dX10_about_96 rfl ?_
            refine z_goto (tgt := 103) dX10_about_98 (by decide) ?_
            refine z_ist5 dX10_about_103 (by decide) rfl ?_
            refine z_iload dX10_about_105 rfl ?_
            refine z_iload dX10_about_107 rfl ?_
            refine z_icmp_le (tgt := 117) dX10_about_109 (by decide) (fun hb => absurd hb (fun z => absurd ((nI_leI (by omega) (by omega)).mp z) (by omega))) (fun _ => ?_)
            refine z_iload dX10_about_112 rfl ?_
            refine z_goto (tgt := 119) dX10_about_114 (by decide) ?_
            refine z_ist6 dX10_about_119 (by decide) rfl ?_
            refine z_inc7 (w := 1) dX10_about_121 rfl (by decide) rfl ?_
            refine z_goto (tgt := 54) dX10_about_124 (by decide) ?_
            rw [nI_1]
            refine z_fg8 ?_
            exact nxt
          · rw [if_neg hlt] at nxt
            refine z_icmp_le (tgt := 101) dX10_about_93 (by decide) (fun _ => ?_) (fun hb => absurd (nI_le (by omega) (by omega)) hb)
            refine z_iload dX10_about_101 rfl ?_
            refine z_ist5 dX10_about_103 (by decide) rfl ?_
            refine z_iload dX10_about_105 rfl ?_
            refine z_iload dX10_about_107 rfl ?_
            refine z_icmp_le (tgt := 117) dX10_about_109 (by decide) (fun _ => ?_) (fun hb => absurd (nI_le (by omega) (by omega)) hb)
            refine z_iload dX10_about_117 rfl ?_
            refine z_ist6 dX10_about_119 (by decide) rfl ?_
            refine z_inc7 (w := 1) dX10_about_121 rfl (by decide) rfl ?_
            refine z_goto (tgt := 54) dX10_about_124 (by decide) ?_
            rw [nI_1]
            refine z_fg8 ?_
            exact nxt
        refine z_iload dX10_about_54 rfl ?_
        refine z_aload_n dX10_about_56 rfl ?_
        refine z_iload_n dX10_about_57 rfl ?_
        refine z_iconst (v := 4) dX10_about_58 rfl ?_
        refine z_cV2s mX10_of gRX10_61 dX10_about_59 (q_of hRK.1 hn rfl (show (4 : Int32) = nI 4 from rfl) hq (by decide)) (by decide) (by first | assumption | rfl) (by rfl) (Nat.le_of_ble_eq_true rfl) (Nat.le_refl _) (Nat.le_refl _) ?_
        refine z_icmp_ge (tgt := 127) dX10_about_62 (by decide) (fun hb => absurd hb (nI_ge (by omega) (by omega))) (fun _ => ?_)
        refine z_iload dX10_about_65 rfl ?_
        refine z_aload_n dX10_about_67 rfl ?_
        refine z_iload_n dX10_about_68 rfl ?_
        refine z_iconst (v := 1) dX10_about_69 rfl ?_
        refine z_cV2s mX10_of gRX10_61 dX10_about_70 (q_of hRK.1 hn rfl (show (1 : Int32) = nI 1 from rfl) hq (by decide)) (by decide) (by first | assumption | rfl) (by rfl) (Nat.le_of_ble_eq_true rfl) (Nat.le_refl _) (Nat.le_refl _) ?_
        by_cases hkr : k = aqd A q 1
        · refine z_icmp_ne (tgt := 80) dX10_about_73 (by decide) (fun hb => absurd (by rw [hkr]) hb) (fun _ => ?_)
          refine z_iconst (v := 0) dX10_about_76 rfl ?_
          refine z_goto (tgt := 87) dX10_about_77 (by decide) ?_
          exact tail 0 K c1 (Nat.zero_le _) (by rw [e1, if_neg (fun z => z.1 hkr), if_neg (Nat.not_lt_zero _)])
        · refine z_icmp_ne (tgt := 80) dX10_about_73 (by decide) (fun _ => ?_) (fun hb => absurd hb (fun z => hkr ((nI_eq (by omega) (by omega)).mp z)))
          refine z_aload_n dX10_about_80 rfl ?_
          refine z_iload_n dX10_about_81 rfl ?_
          refine z_iload dX10_about_82 rfl ?_
          refine z_cV2p mX10_taken gRX10_160 dX10_about_84 (q_taken hRK rfl hq) (by decide) (by first | assumption | rfl) (by rfl) (Nat.le_of_ble_eq_true rfl) (Nat.le_refl _) (Nat.le_refl _) (fun r J hq => ?_)
          obtain ⟨rfl, d1⟩ := hq
          rw [tk_ch h.2.1 hq (show k < 5 by omega)]
          refine tail _ J (c1.trans d1) hle2 ?_
          rw [e1]
          by_cases hlt : (fvF (fun c => abP A q (nI c)) (aqd A q 1) k).1 < abP A q (nI k)
          · rw [if_pos ⟨hkr, hlt⟩, if_pos hlt]
          · rw [if_neg (fun z => hlt z.2), if_neg hlt]
    refine z_cV1s mX10_isQuestion gRX10_57 dX10_about_2 (q_isQ (r := 1) h.1 hn (fun _ => rfl) (fun z => absurd ⟨q, hq, rfl⟩ z)) (by decide) (by first | assumption | rfl) (by rfl) (Nat.le_of_ble_eq_true rfl) (Nat.le_refl _) (Nat.le_refl _) ?_
    refine z_if_eq (tgt := 17) dX10_about_5 (by decide) (fun hb => absurd hb (by decide)) (fun _ => ?_)
    refine z_iload_n dX10_about_8 rfl ?_
    refine z_iconst (v := 0) dX10_about_9 rfl ?_
    refine z_iconst (v := 3) dX10_about_10 rfl ?_
    refine z_cS3s mX10_in gRX10_50 dX10_about_11 (q_in (r := 1) (fun _ _ => rfl) (fun z => absurd z hkk)) (by decide) (Nat.le_of_ble_eq_true rfl) (Nat.le_refl _) (Nat.le_refl _) ?_
    refine z_if_ne (tgt := 21) dX10_about_14 (by decide) (fun _ => ?_) (fun hb => absurd hb (by decide))
    refine z_aload_n dX10_about_21 rfl ?_
    refine z_iload_n dX10_about_22 rfl ?_
    refine z_aload_n dX10_about_23 rfl ?_
    refine z_iload_n dX10_about_24 rfl ?_
    refine z_iconst (v := 1) dX10_about_25 rfl ?_
    refine z_cV2s mX10_of gRX10_61 dX10_about_26 (q_of h.1 hn rfl (show (1 : Int32) = nI 1 from rfl) hq (by decide)) (by decide) (by first | assumption | rfl) (by rfl) (Nat.le_of_ble_eq_true rfl) (Nat.le_refl _) (Nat.le_refl _) ?_
    refine z_cV2p mX10_taken gRX10_160 dX10_about_29 (q_taken h rfl hq) (by decide) (by first | assumption | rfl) (by rfl) (Nat.le_of_ble_eq_true rfl) (Nat.le_refl _) (Nat.le_refl _) (fun r J hq => ?_)
    obtain ⟨rfl, b1⟩ := hq
    have hRJ := b1.ri h
    rw [eR]
    refine z_ist3 dX10_about_32 (by decide) rfl ?_
    refine z_aload_n dX10_about_33 rfl ?_
    refine z_iload_n dX10_about_34 rfl ?_
    refine z_sipush (v := -1009) dX10_about_35 rfl ?_
    have b1' := b1
    refine z_cV2p mX10_taken gRX10_160 dX10_about_38 (q_taken hRJ rfl hq) (by decide) (by first | assumption | rfl) (by rfl) (Nat.le_of_ble_eq_true rfl) (Nat.le_refl _) (Nat.le_refl _) (fun r J hq => ?_)
    obtain ⟨rfl, b2⟩ := hq
    rw [eN]
    refine z_ist4 dX10_about_41 (by decide) rfl ?_
    refine z_sipush (v := -1009) dX10_about_43 rfl ?_
    refine z_ist5 dX10_about_46 (by decide) rfl ?_
    refine z_iconst (v := 0) dX10_about_48 rfl ?_
    refine z_ist6 dX10_about_49 (by decide) rfl ?_
    refine z_iconst (v := 0) dX10_about_51 rfl ?_
    refine z_ist7 dX10_about_52 (by decide) rfl ?_
    exact loop (aqd A q 4) 0 J (by omega) (b1'.trans b2)
  · by_cases hx : isQ A y
    · have hk : ¬ is03 w := hb.elim (fun z => absurd hx z) id
      have hkk : (w < 0 ∨ 3 < w) := by
        by_cases q1 : w < 0
        · exact Or.inl q1
        · refine Or.inr (Int32.not_le.mp (fun q2 => hk ?_))
          obtain ⟨j, hj, rfl⟩ := nI_of2 (M := 3) (n := 3) rfl q1 q2
          match j, hj with
          | 0, _ => exact Or.inl rfl
          | 1, _ => exact Or.inr (Or.inl rfl)
          | 2, _ => exact Or.inr (Or.inr (Or.inl rfl))
          | 3, _ => exact Or.inr (Or.inr (Or.inr rfl))
      refine z_cV1s mX10_isQuestion gRX10_57 dX10_about_2 (q_isQ (r := 1) h.1 hn (fun _ => rfl) (fun z => absurd hx z)) (by decide) (by first | assumption | rfl) (by rfl) (Nat.le_of_ble_eq_true rfl) (Nat.le_refl _) (Nat.le_refl _) ?_
      refine z_if_eq (tgt := 17) dX10_about_5 (by decide) (fun hb => absurd hb (by decide)) (fun _ => ?_)
      refine z_iload_n dX10_about_8 rfl ?_
      refine z_iconst (v := 0) dX10_about_9 rfl ?_
      refine z_iconst (v := 3) dX10_about_10 rfl ?_
      refine z_cS3s mX10_in gRX10_50 dX10_about_11 (q_in (r := 0) (fun q1 q2 => absurd hkk (fun z => z.elim q1 (fun z => absurd q2 (Int32.not_le.mpr z)))) (fun _ => rfl)) (by decide) (Nat.le_of_ble_eq_true rfl) (Nat.le_refl _) (Nat.le_refl _) ?_
      refine z_if_ne (tgt := 21) dX10_about_14 (by decide) (fun hb => absurd (rfl) hb) (fun _ => ?_)
      exact bad he
    · refine z_cV1s mX10_isQuestion gRX10_57 dX10_about_2 (q_isQ (r := 0) h.1 hn (fun z => absurd z hx) (fun _ => rfl)) (by decide) (by first | assumption | rfl) (by rfl) (Nat.le_of_ble_eq_true rfl) (Nat.le_refl _) (Nat.le_refl _) ?_
      refine z_if_eq (tgt := 17) dX10_about_5 (by decide) (fun _ => ?_) (fun hb => absurd (rfl) hb)
      exact bad he

