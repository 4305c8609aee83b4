/-! ===== the model: parting ===== -/
theorem ah_step (P : Nat → Int32) (x : Int32) (k s : Nat) : rk P x (k + 1) + eqc P x (min (k + 1) s) = rk P x k + eqc P x (min k s) + (if x < P k ∨ (P k = x ∧ k < s) then 1 else 0) := by
  have r1 : rk P x (k + 1) = rk P x k + (if x < P k then 1 else 0) := rfl
  by_cases h : k < s
  · have r2 : eqc P x (k + 1) = eqc P x k + (if P k = x then 1 else 0) := rfl
    rw [Nat.min_eq_left (show k + 1 ≤ s by omega), Nat.min_eq_left (show k ≤ s by omega), r1, r2]
    by_cases a : x < P k
    · have b : ¬ P k = x := fun z => by
        rw [z] at a
        exact Int32.not_lt.mpr (Int32.le_refl x) a
      rw [if_pos a, if_neg b, if_pos (Or.inl a)]
      omega
    · rw [if_neg a]
      by_cases b : P k = x
      · rw [if_pos b, if_pos (Or.inr ⟨b, h⟩)]
        omega
      · rw [if_neg b, if_neg (fun z => z.elim a (fun z => b z.1))]
        omega
  · rw [Nat.min_eq_right (show s ≤ k + 1 by omega), Nat.min_eq_right (show s ≤ k by omega), r1]
    by_cases a : x < P k
    · rw [if_pos a, if_pos (Or.inl a)]
      omega
    · rw [if_neg a, if_neg (fun z => z.elim a (fun z => h z.2))]
      omega
theorem q_parting {I : ZI} {A : AS} {hc : Nat} {Hh : Nat → AS} {tc : Nat} {bf : Nat → Nat} {x : Int32} {a : UInt32} (h : RI I A hc Hh tc bf) (hD : aParting A x a) : ZP yX10_parting cX10_parting 7 (some FieldType.float) 7 [.ref 259, .int x] Sg I (fun r J => r = some (.float a) ∧ (∀ a, a < 259 → J a = I a) ∧ RI J A hc Hh tc bf) := by
  have g0 := m_obj
  have hn := h.2.1.1.1
  have hns := h.2.1.2.2.2.2.1
  refine ZSp.of (own := RX10) (L := [.ref 259, .int x, zj, zj, zj, zj, zj]) mX10_parting rfl (List.all_eq_true.mp rfl) (Nat.le_of_ble_eq_true rfl) rfl (fun X hE hN => ?_)
  refine z_aload_n dX10_parting_0 rfl ?_
  refine z_iload_n dX10_parting_1 rfl ?_
  rcases hD with ⟨q, hq, rfl, rfl⟩ | ⟨hb, rfl⟩
  · obtain ⟨v1, v2, v3, v4, v5, v6, v7⟩ := h.2.1.1.2 q hq
    have outer : ∀ (m s : Nat) (K : ZI), s + m = ans A → MFr I K → (ZG X RX10 cX10_parting 7 7 0 0 0 0 25 [.ref 259, .int (nI q), .int (nI (ans A / 2)), .int (prD A q s), .int (nI s), zj, zj] [] Sg K) := by
      intro m
      induction m with
      | zero =>
        intro s K hs c1
        have e : s = ans A := by omega
        subst e
        have hRK := c1.ri h
        refine z_iload dX10_parting_25 rfl ?_
        refine z_aload_n dX10_parting_27 rfl ?_
        refine z_getR fRX10_7 dX10_parting_28 (by first | assumption | rfl) (by rfl) ?_
        refine z_iconst (v := 3) dX10_parting_31 rfl ?_
        refine z_ialdN (j := 3) dX10_parting_32 m_v (rfl) (by decide) (by decide) ?_
        rw [hRK.1.2.2.2.1]
        refine z_icmp_ge (tgt := 163) dX10_parting_33 (by decide) (fun _ => ?_) (fun hb => absurd (nI_le (Nat.le_refl _) (by omega)) hb)
        refine z_iload_n dX10_parting_163 rfl ?_
        by_cases hne : ans A / 2 = 0
        · refine z_if_ne (tgt := 171) dX10_parting_164 (by decide) (fun hb => absurd (by rw [hne]; rfl) hb) (fun _ => ?_)
          refine z_fconst0 dX10_parting_167 ?_
          refine z_goto (tgt := 176) dX10_parting_168 (by decide) ?_
          exact z_fret hE dX10_parting_176 ⟨rfl, by rw [prF, if_pos hne], fun a ha => c1.1 a (Or.inl ha), hRK⟩
        · refine z_if_ne (tgt := 171) dX10_parting_164 (by decide) (fun _ => ?_) (fun hb => absurd hb (nI_ne0 (by omega) (by omega)))
          refine z_iload_n dX10_parting_171 rfl ?_
          refine z_i2f dX10_parting_172 ?_
          refine z_iload_n dX10_parting_173 rfl ?_
          refine z_i2f dX10_parting_174 ?_
          refine z_fdiv dX10_parting_175 (f_div _ hne (by omega)) ?_
          exact z_fret hE dX10_parting_176 ⟨rfl, by rw [prF, if_neg hne], fun a ha => c1.1 a (Or.inl ha), hRK⟩
      | succ m ih =>
        intro s K hs c1
        have hs1 : s < ans A := by omega
        have hRK := c1.ri h
        have i3 := an_eq h.2.1 hs1 hq (show aqd A q 1 < 5 by omega)
        have e1 : prD A q (s + 1) = if pkA A s q = nI (aqd A q 1) then prD A q s + (if prS A s < ans A / 2 then 1 else 0) - (if ans A - ans A / 2 ≤ prS A s then 1 else 0) else prD A q s := rfl
        have hle := prS_le (A := A) (t := s) (by omega)
        have inner : ∀ (m k : Nat) (K : ZI), k + m = ans A → MFr I K → (ZG X RX10 cX10_parting 7 7 0 0 0 0 42 [.ref 259, .int (nI q), .int (nI (ans A / 2)), .int (prD A q s), .int (nI s), .int (nI (rk (ptA A) (ptA A s) k + eqc (ptA A) (ptA A s) (min k s))), .int (nI k)] [] Sg K) := by
          intro m
          induction m with
          | zero =>
            intro k K hk c1
            have e : k = ans A := by omega
            subst e
            have hRK := c1.ri h
            have e2 : rk (ptA A) (ptA A s) (ans A) + eqc (ptA A) (ptA A s) (min (ans A) s) = prS A s := by
              rw [prS, Nat.min_eq_right (show s ≤ ans A by omega)]
            rw [e2]
            refine z_iload dX10_parting_42 rfl ?_
            refine z_aload_n dX10_parting_44 rfl ?_
            refine z_getR fRX10_7 dX10_parting_45 (by first | assumption | rfl) (by rfl) ?_
            refine z_iconst (v := 3) dX10_parting_48 rfl ?_
            refine z_ialdN (j := 3) dX10_parting_49 m_v (rfl) (by decide) (by decide) ?_
            rw [hRK.1.2.2.2.1]
            refine z_icmp_ge (tgt := 106) dX10_parting_50 (by decide) (fun _ => ?_) (fun hb => absurd (nI_le (Nat.le_refl _) (by omega)) hb)
            refine z_aload_n dX10_parting_106 rfl ?_
            refine z_iload dX10_parting_107 rfl ?_
            refine z_iload_n dX10_parting_109 rfl ?_
            refine z_cV2p mX10_answerOf gRX10_157 dX10_parting_110 (q_answerOf hRK rfl hs1 rfl hq) (by decide) (by first | assumption | rfl) (by rfl) (Nat.le_of_ble_eq_true rfl) (Nat.le_refl _) (Nat.le_refl _) (fun r J hq => ?_)
            obtain ⟨rfl, d1⟩ := hq
            have c2 := c1.trans d1
            have hRJ := c2.ri h
            have nxt := ih (s + 1) J (by omega) c2
            refine z_aload_n dX10_parting_113 rfl ?_
            refine z_iload_n dX10_parting_114 rfl ?_
            refine z_iconst (v := 1) dX10_parting_115 rfl ?_
            refine z_cV2s mX10_of gRX10_61 dX10_parting_116 (q_of hRJ.1 hn rfl (show (1 : Int32) = nI 1 from rfl) hq (by decide)) (by decide) (by first | assumption | rfl) (by rfl) (Nat.le_of_ble_eq_true rfl) (Nat.le_refl _) (Nat.le_refl _) ?_
            refine z_icmp_ne (tgt := 157) dX10_parting_119 (by decide) (fun ha => ?_) (fun ha => ?_)
            · refine z_inc4 (w := 1) dX10_parting_157 rfl (by decide) rfl ?_
              refine z_goto (tgt := 25) dX10_parting_160 (by decide) ?_
              rw [e1, if_neg (fun z => ha (i3.mpr z))] at nxt
              rw [nI_1]
              refine z_fg5 (z_fg6 ?_)
              exact nxt
            · refine z_iload_n dX10_parting_122 rfl ?_
              refine z_iload dX10_parting_123 rfl ?_
              refine z_iload_n dX10_parting_125 rfl ?_
              rw [e1, if_pos (i3.mp ha)] at nxt
              have e3 : nI (ans A) - nI (ans A / 2) = nI (ans A - ans A / 2) := xI_sub (by omega)
              have tail : ∀ (w : Int32), w = (if prS A s < ans A / 2 then 1 else 0) → (ZG X RX10 cX10_parting 7 7 0 0 0 0 134 [.ref 259, .int (nI q), .int (nI (ans A / 2)), .int (prD A q s), .int (nI s), .int (nI (prS A s)), .int (nI (ans A))] [.int w, .int (prD A q s)] Sg J) := by
                intro w hw
                rw [← hw] at nxt
                refine z_iadd dX10_parting_134 ?_
                refine z_ist3 dX10_parting_135 (by decide) rfl ?_
                refine z_iload_n dX10_parting_136 rfl ?_
                refine z_iload dX10_parting_137 rfl ?_
                refine z_aload_n dX10_parting_139 rfl ?_
                refine z_getR fRX10_7 dX10_parting_140 (by first | assumption | rfl) (by rfl) ?_
                refine z_iconst (v := 3) dX10_parting_143 rfl ?_
                refine z_ialdN (j := 3) dX10_parting_144 m_v (rfl) (by decide) (by decide) ?_
                rw [hRJ.1.2.2.2.1]
                refine z_iload_n dX10_parting_145 rfl ?_
                refine z_isub dX10_parting_146 ?_
                rw [e3]
                by_cases hc : prS A s < ans A - ans A / 2
                · rw [if_neg (show ¬ ans A - ans A / 2 ≤ prS A s by omega)] at nxt
                  refine z_icmp_lt (tgt := 154) dX10_parting_147 (by decide) (fun _ => ?_) (fun hb => absurd (nI_lt hc (by omega)) hb)
                  refine z_iconst (v := 0) dX10_parting_154 rfl ?_
                  refine z_isub dX10_parting_155 ?_
                  refine z_ist3 dX10_parting_156 (by decide) rfl ?_
                  refine z_inc4 (w := 1) dX10_parting_157 rfl (by decide) rfl ?_
                  refine z_goto (tgt := 25) dX10_parting_160 (by decide) ?_
                  rw [nI_1]
                  refine z_fg5 (z_fg6 ?_)
                  exact nxt
                · rw [if_pos (show ans A - ans A / 2 ≤ prS A s by omega)] at nxt
                  refine z_icmp_lt (tgt := 154) dX10_parting_147 (by decide) (fun hb => absurd hb (nI_nlt (by omega) (by omega))) (fun _ => ?_)
                  refine z_iconst (v := 1) dX10_parting_150 rfl ?_
                  refine z_goto (tgt := 155) dX10_parting_151 (by decide) ?_
                  refine z_isub dX10_parting_155 ?_
                  refine z_ist3 dX10_parting_156 (by decide) rfl ?_
                  refine z_inc4 (w := 1) dX10_parting_157 rfl (by decide) rfl ?_
                  refine z_goto (tgt := 25) dX10_parting_160 (by decide) ?_
                  rw [nI_1]
                  refine z_fg5 (z_fg6 ?_)
                  exact nxt
              by_cases hlt : prS A s < ans A / 2
              · refine z_icmp_ge (tgt := 133) dX10_parting_126 (by decide) (fun hb => absurd hb (nI_ge hlt (by omega))) (fun _ => ?_)
                refine z_iconst (v := 1) dX10_parting_129 rfl ?_
                refine z_goto (tgt := 134) dX10_parting_130 (by decide) ?_
                exact tail _ (by rw [if_pos hlt])
              · refine z_icmp_ge (tgt := 133) dX10_parting_126 (by decide) (fun _ => ?_) (fun hb => absurd (nI_le (by omega) (by omega)) hb)
                refine z_iconst (v := 0) dX10_parting_133 rfl ?_
                exact tail _ (by rw [if_neg hlt])
          | succ m ih2 =>
            intro k K hk c1
            have hk1 : k < ans A := by omega
            have hRK := c1.ri h
            have es := ah_step (ptA A) (ptA A s) k s
            have yes : ∀ (J : ZI), MFr I J → (ptA A s < ptA A k ∨ (ptA A k = ptA A s ∧ k < s)) → (ZG X RX10 cX10_parting 7 7 0 0 0 0 92 [.ref 259, .int (nI q), .int (nI (ans A / 2)), .int (prD A q s), .int (nI s), .int (nI (rk (ptA A) (ptA A s) k + eqc (ptA A) (ptA A s) (min k s))), .int (nI k)] [.int (nI (rk (ptA A) (ptA A s) k + eqc (ptA A) (ptA A s) (min k s)))] Sg J) := by
              intro J c2 hw
              have nxt := ih2 (k + 1) J (by omega) c2
              rw [es, if_pos hw] at nxt
              refine z_iconst (v := 1) dX10_parting_92 rfl ?_
              refine z_goto (tgt := 97) dX10_parting_93 (by decide) ?_
              refine z_iadd dX10_parting_97 ?_
              refine z_ist5 dX10_parting_98 (by decide) rfl ?_
              refine z_inc6 (w := 1) dX10_parting_100 rfl (by decide) rfl ?_
              refine z_goto (tgt := 42) dX10_parting_103 (by decide) ?_
              rw [nI_1, nI_1]
              exact nxt
            have no : ∀ (J : ZI), MFr I J → ¬ (ptA A s < ptA A k ∨ (ptA A k = ptA A s ∧ k < s)) → (ZG X RX10 cX10_parting 7 7 0 0 0 0 96 [.ref 259, .int (nI q), .int (nI (ans A / 2)), .int (prD A q s), .int (nI s), .int (nI (rk (ptA A) (ptA A s) k + eqc (ptA A) (ptA A s) (min k s))), .int (nI k)] [.int (nI (rk (ptA A) (ptA A s) k + eqc (ptA A) (ptA A s) (min k s)))] Sg J) := by
              intro J c2 hw
              have nxt := ih2 (k + 1) J (by omega) c2
              rw [es, if_neg hw, Nat.add_zero] at nxt
              refine z_iconst (v := 0) dX10_parting_96 rfl ?_
              refine z_iadd dX10_parting_97 ?_
              refine z_ist5 dX10_parting_98 (by decide) rfl ?_
              refine z_inc6 (w := 1) dX10_parting_100 rfl (by decide) rfl ?_
              refine z_goto (tgt := 42) dX10_parting_103 (by decide) ?_
              rw [Int32.add_zero, nI_1]
              exact nxt
            refine z_iload dX10_parting_42 rfl ?_
            refine z_aload_n dX10_parting_44 rfl ?_
            refine z_getR fRX10_7 dX10_parting_45 (by first | assumption | rfl) (by rfl) ?_
            refine z_iconst (v := 3) dX10_parting_48 rfl ?_
            refine z_ialdN (j := 3) dX10_parting_49 m_v (rfl) (by decide) (by decide) ?_
            rw [hRK.1.2.2.2.1]
            refine z_icmp_ge (tgt := 106) dX10_parting_50 (by decide) (fun hb => absurd hb (nI_ge (by omega) (by omega))) (fun _ => ?_)
            refine z_iload dX10_parting_53 rfl ?_
            refine z_aload_n dX10_parting_55 rfl ?_
            refine z_iload dX10_parting_56 rfl ?_
            refine z_cV1p mX10_points gRX10_145 dX10_parting_58 (q_points hRK rfl hk1) (by decide) (by first | assumption | rfl) (by rfl) (Nat.le_of_ble_eq_true rfl) (Nat.le_refl _) (Nat.le_refl _) (fun r J hq => ?_)
            obtain ⟨rfl, d1⟩ := hq
            have c2 := c1.trans d1
            refine z_aload_n dX10_parting_61 rfl ?_
            refine z_iload dX10_parting_62 rfl ?_
            refine z_cV1p mX10_points gRX10_145 dX10_parting_64 (q_points (c2.ri h) rfl hs1) (by decide) (by first | assumption | rfl) (by rfl) (Nat.le_of_ble_eq_true rfl) (Nat.le_refl _) (Nat.le_refl _) (fun r J hq => ?_)
            obtain ⟨rfl, d2⟩ := hq
            have c3 := c2.trans d2
            by_cases hgt : ptA A s < ptA A k
            · refine z_icmp_gt (tgt := 92) dX10_parting_67 (by decide) (fun _ => ?_) (fun hb => absurd (hgt) hb)
              exact yes J c3 (Or.inl hgt)
            · refine z_icmp_gt (tgt := 92) dX10_parting_67 (by decide) (fun hb => absurd hb (hgt)) (fun _ => ?_)
              refine z_aload_n dX10_parting_70 rfl ?_
              refine z_iload dX10_parting_71 rfl ?_
              refine z_cV1p mX10_points gRX10_145 dX10_parting_73 (q_points (c3.ri h) rfl hk1) (by decide) (by first | assumption | rfl) (by rfl) (Nat.le_of_ble_eq_true rfl) (Nat.le_refl _) (Nat.le_refl _) (fun r J hq => ?_)
              obtain ⟨rfl, d3⟩ := hq
              have c4 := c3.trans d3
              refine z_aload_n dX10_parting_76 rfl ?_
              refine z_iload dX10_parting_77 rfl ?_
              refine z_cV1p mX10_points gRX10_145 dX10_parting_79 (q_points (c4.ri h) rfl hs1) (by decide) (by first | assumption | rfl) (by rfl) (Nat.le_of_ble_eq_true rfl) (Nat.le_refl _) (Nat.le_refl _) (fun r J hq => ?_)
              obtain ⟨rfl, d4⟩ := hq
              have c5 := c4.trans d4
              by_cases heq : ptA A k = ptA A s
              · refine z_icmp_ne (tgt := 96) dX10_parting_82 (by decide) (fun hb => absurd (heq) hb) (fun _ => ?_)
                refine z_iload dX10_parting_85 rfl ?_
                refine z_iload dX10_parting_87 rfl ?_
                by_cases hks : k < s
                · refine z_icmp_ge (tgt := 96) dX10_parting_89 (by decide) (fun hb => absurd hb (nI_ge hks (by omega))) (fun _ => ?_)
                  exact yes J c5 (Or.inr ⟨heq, hks⟩)
                · refine z_icmp_ge (tgt := 96) dX10_parting_89 (by decide) (fun _ => ?_) (fun hb => absurd (nI_le (by omega) (by omega)) hb)
                  exact no J c5 (fun z => z.elim hgt (fun z => hks z.2))
              · refine z_icmp_ne (tgt := 96) dX10_parting_82 (by decide) (fun _ => ?_) (fun hb => absurd hb (heq))
                exact no J c5 (fun z => z.elim hgt (fun z => heq z.1))
        refine z_iload dX10_parting_25 rfl ?_
        refine z_aload_n dX10_parting_27 rfl ?_
        refine z_getR fRX10_7 dX10_parting_28 (by first | assumption | rfl) (by rfl) ?_
        refine z_iconst (v := 3) dX10_parting_31 rfl ?_
        refine z_ialdN (j := 3) dX10_parting_32 m_v (rfl) (by decide) (by decide) ?_
        rw [hRK.1.2.2.2.1]
        refine z_icmp_ge (tgt := 163) dX10_parting_33 (by decide) (fun hb => absurd hb (nI_ge (by omega) (by omega))) (fun _ => ?_)
        refine z_iconst (v := 0) dX10_parting_36 rfl ?_
        refine z_ist5 dX10_parting_37 (by decide) rfl ?_
        refine z_iconst (v := 0) dX10_parting_39 rfl ?_
        refine z_ist6 dX10_parting_40 (by decide) rfl ?_
        have := inner (ans A) 0 K (by omega) c1
        rw [Nat.min_eq_left (Nat.zero_le _)] at this
        exact this
    refine z_cV1s mX10_isQuestion gRX10_57 dX10_parting_2 (q_isQ (r := 1) h.1 hn (fun _ => rfl) (fun z => absurd ⟨q, hq, rfl⟩ z)) (by decide) (by first | assumption | rfl) (by rfl) (Nat.le_of_ble_eq_true rfl) (Nat.le_refl _) (Nat.le_refl _) ?_
    refine z_if_ne (tgt := 11) dX10_parting_5 (by decide) (fun _ => ?_) (fun hb => absurd hb (by decide))
    refine z_aload_n dX10_parting_11 rfl ?_
    refine z_getR fRX10_7 dX10_parting_12 (by first | assumption | rfl) (by rfl) ?_
    refine z_iconst (v := 3) dX10_parting_15 rfl ?_
    refine z_ialdN (j := 3) dX10_parting_16 m_v (rfl) (by decide) (by decide) ?_
    rw [h.1.2.2.2.1]
    refine z_iconst (v := 2) dX10_parting_17 rfl ?_
    refine z_idiv dX10_parting_18 (by decide) ?_
    rw [nI_half _ (by omega)]
    refine z_ist2 dX10_parting_19 (by decide) rfl ?_
    refine z_iconst (v := 0) dX10_parting_20 rfl ?_
    refine z_ist3 dX10_parting_21 (by decide) rfl ?_
    refine z_iconst (v := 0) dX10_parting_22 rfl ?_
    refine z_ist4 dX10_parting_23 (by decide) rfl ?_
    exact outer (ans A) 0 I (by omega) (MFr.refl I)
  · refine z_cV1s mX10_isQuestion gRX10_57 dX10_parting_2 (q_isQ (r := 0) h.1 hn (fun z => absurd z hb) (fun _ => rfl)) (by decide) (by first | assumption | rfl) (by rfl) (Nat.le_of_ble_eq_true rfl) (Nat.le_refl _) (Nat.le_refl _) ?_
    refine z_if_ne (tgt := 11) dX10_parting_5 (by decide) (fun hb => absurd (rfl) hb) (fun _ => ?_)
    refine z_ldcf kRX10_163 dX10_parting_8 ?_
    exact z_fret hE dX10_parting_10 ⟨rfl, rfl, fun _ _ => rfl, h⟩

