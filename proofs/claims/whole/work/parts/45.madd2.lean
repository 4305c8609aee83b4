/-! ===== the model: add, remove -/
theorem q_add {I : ZI} {A : AS} {hc : Nat} {Hh : Nat → AS} {tc : Nat} {bf : Nat → Nat} {x y z u w : Int32} {r0 : Option Value} {P : AS → Nat → (Nat → AS) → Nat → (Nat → Nat) → Prop} (h : RI I A hc Hh tc bf) (hD : (∃ a, r0 = some (.int a) ∧ aAdd A x y z u w a ∧ P A hc Hh tc bf) ∨ (∃ f, vQ x y z u w f ∧ ans A = 0 ∧ anq A < 20 ∧ r0 = some (.int (nI (anq A))) ∧ P (adA A f) (phc hc) (pHh hc Hh A) tc bf)) : ZP yX10_add cX10_add 7 (some FieldType.int) 1 [.ref 259, .int x, .int y, .int z, .int u, .int w] Sg I (fun r J => r = r0 ∧ (∀ a, a < 259 → J a = I a) ∧ ∃ A' hc' Hh' tc' bf', P A' hc' Hh' tc' bf' ∧ RI J A' hc' Hh' tc' bf') := by
  have g0 := m_obj
  have hn := h.2.1.1.1
  have hns := h.2.1.2.2.2.2.1
  refine ZSp.of (own := RX10) (L := [.ref 259, .int x, .int y, .int z, .int u, .int w, zj]) mX10_add rfl (List.all_eq_true.mp rfl) (Nat.le_of_ble_eq_true rfl) rfl (fun X hE hN => ?_)
  have yes : ∀ f, vQ x y z u w f → (ZG X RX10 cX10_add 7 1 0 0 0 0 58 [.ref 259, .int x, .int y, .int z, .int u, .int w, zj] [] Sg I) → (ZG X RX10 cX10_add 7 1 0 0 0 0 0 [.ref 259, .int x, .int y, .int z, .int u, .int w, zj] [] Sg I) := by
    rintro f ⟨⟨v1, v2, v3, v4, v5, v6, v7⟩, rfl, rfl, rfl, rfl, rfl⟩ nxt
    refine z_iload_n dX10_add_0 rfl ?_
    refine z_iconst (v := 1) dX10_add_1 rfl ?_
    refine z_bipush (v := 9) dX10_add_2 rfl ?_
    refine z_cS3s mX10_in gRX10_50 dX10_add_4 (q_in (r := 1) (fun _ _ => rfl) (fun z => z.elim (fun e => absurd e (nI_nlt (b := 1) v1 (by omega))) (fun e => absurd e (nI_nlt (b := f 0) (a := 9) v2 (by decide))))) (by decide) (Nat.le_of_ble_eq_true rfl) (Nat.le_refl _) (Nat.le_refl _) ?_
    refine z_if_eq (tgt := 54) dX10_add_7 (by decide) (fun hb => absurd hb (by decide)) (fun _ => ?_)
    refine z_iload_n dX10_add_10 rfl ?_
    refine z_iconst (v := 2) dX10_add_11 rfl ?_
    refine z_iconst (v := 5) dX10_add_12 rfl ?_
    refine z_cS3s mX10_in gRX10_50 dX10_add_13 (q_in (r := 1) (fun _ _ => rfl) (fun z => z.elim (fun e => absurd e (nI_nlt (b := 2) v3 (by omega))) (fun e => absurd e (nI_nlt (b := f 4) (a := 5) v4 (by decide))))) (by decide) (Nat.le_of_ble_eq_true rfl) (Nat.le_refl _) (Nat.le_refl _) ?_
    refine z_if_eq (tgt := 54) dX10_add_16 (by decide) (fun hb => absurd hb (by decide)) (fun _ => ?_)
    refine z_iload_n dX10_add_19 rfl ?_
    refine z_iconst (v := 0) dX10_add_20 rfl ?_
    refine z_iload_n dX10_add_21 rfl ?_
    refine z_iconst (v := 1) dX10_add_22 rfl ?_
    refine z_isub dX10_add_23 ?_
    refine z_cS3s mX10_in gRX10_50 dX10_add_24 (q_dom2 (r := 1) (show f 4 ≤ 64 by omega) (fun _ => rfl) (fun z => absurd ⟨f 1, v5, rfl⟩ z)) (by decide) (Nat.le_of_ble_eq_true rfl) (Nat.le_refl _) (Nat.le_refl _) ?_
    refine z_if_eq (tgt := 54) dX10_add_27 (by decide) (fun hb => absurd hb (by decide)) (fun _ => ?_)
    refine z_iload dX10_add_30 rfl ?_
    refine z_iconst (v := 0) dX10_add_32 rfl ?_
    refine z_iconst (v := 1) dX10_add_33 rfl ?_
    refine z_iload_n dX10_add_34 rfl ?_
    refine z_ishl dX10_add_35 ?_
    refine z_iconst (v := 1) dX10_add_36 rfl ?_
    refine z_isub dX10_add_37 ?_
    rw [alw_sh _ (show f 4 < 6 by omega)]
    refine z_cS3s mX10_in gRX10_50 dX10_add_38 (q_dom2 (r := 1) (two_le _ (show f 4 < 6 by omega)) (fun _ => rfl) (fun z => absurd ⟨f 2, v6, rfl⟩ z)) (by decide) (Nat.le_of_ble_eq_true rfl) (Nat.le_refl _) (Nat.le_refl _) ?_
    refine z_if_eq (tgt := 54) dX10_add_41 (by decide) (fun hb => absurd hb (by decide)) (fun _ => ?_)
    refine z_iload dX10_add_44 rfl ?_
    refine z_iconst (v := 0) dX10_add_46 rfl ?_
    refine z_iconst (v := 5) dX10_add_47 rfl ?_
    refine z_cS3s mX10_in gRX10_50 dX10_add_48 (q_in (r := 1) (fun _ _ => rfl) (fun z => z.elim (fun e => absurd e (nI_pos (by omega))) (fun e => absurd e (nI_nlt (b := f 3) (a := 5) v7 (by decide))))) (by decide) (Nat.le_of_ble_eq_true rfl) (Nat.le_refl _) (Nat.le_refl _) ?_
    refine z_if_ne (tgt := 58) dX10_add_51 (by decide) (fun _ => ?_) (fun hb => absurd hb (by decide))
    exact nxt
  rcases hD with ⟨a, rfl, ⟨hb, rfl⟩ | ⟨⟨f, hf⟩, hz, rfl⟩ | ⟨⟨f, hf⟩, hz, hv, rfl⟩, hP⟩ | ⟨f, hf, hz, hv, rfl, hP⟩
  · have bad : (ZG X RX10 cX10_add 7 1 0 0 0 0 54 [.ref 259, .int x, .int y, .int z, .int u, .int w, zj] [] Sg I) := by
      refine z_sipush (v := -1001) dX10_add_54 rfl ?_
      exact z_iret hE dX10_add_57 ⟨rfl, rfl, fun _ _ => rfl, _, _, _, _, _, hP, h⟩
    refine z_iload_n dX10_add_0 rfl ?_
    refine z_iconst (v := 1) dX10_add_1 rfl ?_
    refine z_bipush (v := 9) dX10_add_2 rfl ?_
    by_cases a1 : ¬ x < 1 ∧ x ≤ 9
    · refine z_cS3s mX10_in gRX10_50 dX10_add_4 (q_in (r := 1) (fun _ _ => rfl) (fun z => z.elim (fun e => absurd e a1.1) (fun e => absurd a1.2 (Int32.not_le.mpr e)))) (by decide) (Nat.le_of_ble_eq_true rfl) (Nat.le_refl _) (Nat.le_refl _) ?_
      refine z_if_eq (tgt := 54) dX10_add_7 (by decide) (fun hb => absurd hb (by decide)) (fun _ => ?_)
      refine z_iload_n dX10_add_10 rfl ?_
      refine z_iconst (v := 2) dX10_add_11 rfl ?_
      refine z_iconst (v := 5) dX10_add_12 rfl ?_
      by_cases a2 : ¬ y < 2 ∧ y ≤ 5
      · refine z_cS3s mX10_in gRX10_50 dX10_add_13 (q_in (r := 1) (fun _ _ => rfl) (fun z => z.elim (fun e => absurd e a2.1) (fun e => absurd a2.2 (Int32.not_le.mpr e)))) (by decide) (Nat.le_of_ble_eq_true rfl) (Nat.le_refl _) (Nat.le_refl _) ?_
        refine z_if_eq (tgt := 54) dX10_add_16 (by decide) (fun hb => absurd hb (by decide)) (fun _ => ?_)
        obtain ⟨k, hk, rfl⟩ := nI_of2 (M := 5) (n := 5) rfl (fun q => a2.1 (Int32.lt_trans q (by decide))) a2.2
        refine z_iload_n dX10_add_19 rfl ?_
        refine z_iconst (v := 0) dX10_add_20 rfl ?_
        refine z_iload_n dX10_add_21 rfl ?_
        refine z_iconst (v := 1) dX10_add_22 rfl ?_
        refine z_isub dX10_add_23 ?_
        by_cases a3 : ∃ j, j < k ∧ z = nI j
        · refine z_cS3s mX10_in gRX10_50 dX10_add_24 (q_dom2 (r := 1) (show k ≤ 64 by omega) (fun _ => rfl) (fun q => absurd a3 q)) (by decide) (Nat.le_of_ble_eq_true rfl) (Nat.le_refl _) (Nat.le_refl _) ?_
          refine z_if_eq (tgt := 54) dX10_add_27 (by decide) (fun hb => absurd hb (by decide)) (fun _ => ?_)
          refine z_iload dX10_add_30 rfl ?_
          refine z_iconst (v := 0) dX10_add_32 rfl ?_
          refine z_iconst (v := 1) dX10_add_33 rfl ?_
          refine z_iload_n dX10_add_34 rfl ?_
          refine z_ishl dX10_add_35 ?_
          refine z_iconst (v := 1) dX10_add_36 rfl ?_
          refine z_isub dX10_add_37 ?_
          rw [alw_sh _ (show k < 6 by omega)]
          by_cases a4 : ∃ j, j < 2 ^ k ∧ u = nI j
          · refine z_cS3s mX10_in gRX10_50 dX10_add_38 (q_dom2 (r := 1) (two_le _ (show k < 6 by omega)) (fun _ => rfl) (fun q => absurd a4 q)) (by decide) (Nat.le_of_ble_eq_true rfl) (Nat.le_refl _) (Nat.le_refl _) ?_
            refine z_if_eq (tgt := 54) dX10_add_41 (by decide) (fun hb => absurd hb (by decide)) (fun _ => ?_)
            refine z_iload dX10_add_44 rfl ?_
            refine z_iconst (v := 0) dX10_add_46 rfl ?_
            refine z_iconst (v := 5) dX10_add_47 rfl ?_
            have a5 : ¬ (¬ w < 0 ∧ w ≤ 5) := by
              rintro ⟨w1, w2⟩
              obtain ⟨j3, c3, rfl⟩ := a3
              obtain ⟨j4, c4, rfl⟩ := a4
              have h64 := two_le k (by omega)
              refine hb (vQ_of a2.1 a2.2 (Or.inl ⟨rfl, a1.1, Int32.not_lt.mpr a1.2⟩) (Or.inr (Or.inl ⟨rfl, nI_pos (by omega), nI_lt c3 (by omega)⟩)) (Or.inr (Or.inr (Or.inl ⟨rfl, nI_pos (by omega), ?_⟩))) (Or.inr (Or.inr (Or.inr ⟨rfl, w1, Int32.not_lt.mpr w2⟩))))
              rw [alw_sh k (by omega)]
              exact nI_lt c4 (by omega)
            refine z_cS3s mX10_in gRX10_50 dX10_add_48 (q_in (r := 0) (fun y1 y2 => absurd ⟨y1, y2⟩ a5) (fun _ => rfl)) (by decide) (Nat.le_of_ble_eq_true rfl) (Nat.le_refl _) (Nat.le_refl _) ?_
            refine z_if_ne (tgt := 58) dX10_add_51 (by decide) (fun hb => absurd (rfl) hb) (fun _ => ?_)
            exact bad
          · refine z_cS3s mX10_in gRX10_50 dX10_add_38 (q_dom2 (r := 0) (two_le _ (show k < 6 by omega)) (fun q => absurd q a4) (fun _ => rfl)) (by decide) (Nat.le_of_ble_eq_true rfl) (Nat.le_refl _) (Nat.le_refl _) ?_
            refine z_if_eq (tgt := 54) dX10_add_41 (by decide) (fun _ => ?_) (fun hb => absurd (rfl) hb)
            exact bad
        · refine z_cS3s mX10_in gRX10_50 dX10_add_24 (q_dom2 (r := 0) (show k ≤ 64 by omega) (fun q => absurd q a3) (fun _ => rfl)) (by decide) (Nat.le_of_ble_eq_true rfl) (Nat.le_refl _) (Nat.le_refl _) ?_
          refine z_if_eq (tgt := 54) dX10_add_27 (by decide) (fun _ => ?_) (fun hb => absurd (rfl) hb)
          exact bad
      · refine z_cS3s mX10_in gRX10_50 dX10_add_13 (q_in (r := 0) (fun y1 y2 => absurd ⟨y1, y2⟩ a2) (fun _ => rfl)) (by decide) (Nat.le_of_ble_eq_true rfl) (Nat.le_refl _) (Nat.le_refl _) ?_
        refine z_if_eq (tgt := 54) dX10_add_16 (by decide) (fun _ => ?_) (fun hb => absurd (rfl) hb)
        exact bad
    · refine z_cS3s mX10_in gRX10_50 dX10_add_4 (q_in (r := 0) (fun y1 y2 => absurd ⟨y1, y2⟩ a1) (fun _ => rfl)) (by decide) (Nat.le_of_ble_eq_true rfl) (Nat.le_refl _) (Nat.le_refl _) ?_
      refine z_if_eq (tgt := 54) dX10_add_7 (by decide) (fun _ => ?_) (fun hb => absurd (rfl) hb)
      exact bad
  · refine yes f hf ?_
    refine z_aload_n dX10_add_58 rfl ?_
    refine z_getR fRX10_7 dX10_add_59 (by first | assumption | rfl) (by rfl) ?_
    refine z_iconst (v := 3) dX10_add_62 rfl ?_
    refine z_ialdN (j := 3) dX10_add_63 m_v (rfl) (by decide) (by decide) ?_
    rw [h.1.2.2.2.1]
    refine z_if_le (tgt := 71) dX10_add_64 (by decide) (fun hb => absurd hb (nI_nle (by omega) (by omega))) (fun _ => ?_)
    refine z_sipush (v := -1002) dX10_add_67 rfl ?_
    exact z_iret hE dX10_add_70 ⟨rfl, rfl, fun _ _ => rfl, _, _, _, _, _, hP, h⟩
  · refine yes f hf ?_
    refine z_aload_n dX10_add_58 rfl ?_
    refine z_getR fRX10_7 dX10_add_59 (by first | assumption | rfl) (by rfl) ?_
    refine z_iconst (v := 3) dX10_add_62 rfl ?_
    refine z_ialdN (j := 3) dX10_add_63 m_v (rfl) (by decide) (by decide) ?_
    rw [h.1.2.2.2.1]
    refine z_if_le (tgt := 71) dX10_add_64 (by decide) (fun _ => ?_) (fun hb => absurd (by rw [hz]; decide) hb)
    refine z_aload_n dX10_add_71 rfl ?_
    refine z_getR fRX10_7 dX10_add_72 (by first | assumption | rfl) (by rfl) ?_
    refine z_iconst (v := 0) dX10_add_75 rfl ?_
    refine z_ialdN (j := 0) dX10_add_76 m_v (rfl) (by decide) (by decide) ?_
    rw [h.1.1]
    refine z_bipush (v := 20) dX10_add_77 rfl ?_
    refine z_icmp_ne (tgt := 86) dX10_add_79 (by decide) (fun hb => absurd (by rw [hv]; rfl) hb) (fun _ => ?_)
    refine z_sipush (v := -1003) dX10_add_82 rfl ?_
    exact z_iret hE dX10_add_85 ⟨rfl, rfl, fun _ _ => rfl, _, _, _, _, _, hP, h⟩
  · refine yes f hf ?_
    refine z_aload_n dX10_add_58 rfl ?_
    refine z_getR fRX10_7 dX10_add_59 (by first | assumption | rfl) (by rfl) ?_
    refine z_iconst (v := 3) dX10_add_62 rfl ?_
    refine z_ialdN (j := 3) dX10_add_63 m_v (rfl) (by decide) (by decide) ?_
    rw [h.1.2.2.2.1]
    refine z_if_le (tgt := 71) dX10_add_64 (by decide) (fun _ => ?_) (fun hb => absurd (by rw [hz]; decide) hb)
    refine z_aload_n dX10_add_71 rfl ?_
    refine z_getR fRX10_7 dX10_add_72 (by first | assumption | rfl) (by rfl) ?_
    refine z_iconst (v := 0) dX10_add_75 rfl ?_
    refine z_ialdN (j := 0) dX10_add_76 m_v (rfl) (by decide) (by decide) ?_
    rw [h.1.1]
    refine z_bipush (v := 20) dX10_add_77 rfl ?_
    refine z_icmp_ne (tgt := 86) dX10_add_79 (by decide) (fun _ => ?_) (fun hb => absurd hb (fun q => by have := (nI_eq (b := 20) (by omega) (by decide)).mp q; omega))
    refine z_aload_n dX10_add_86 rfl ?_
    refine z_cV0p mX10_act gRX10_54 dX10_add_87 (q_act h) (by decide) (by first | assumption | rfl) (by rfl) (Nat.le_of_ble_eq_true rfl) (Nat.le_refl _) (Nat.le_refl _) (fun r J hq => ?_)
    obtain ⟨rfl, b1, b2, b3⟩ := hq
    have e : J 260 = I 260 := b1 _ (by decide) (by decide)
    refine z_bipush (v := 10) dX10_add_90 rfl ?_
    refine z_iconst (v := 5) dX10_add_92 rfl ?_
    refine z_aload_n dX10_add_93 rfl ?_
    refine z_getR fRX10_7 dX10_add_94 (by first | assumption | rfl) (by rfl) ?_
    refine z_iconst (v := 0) dX10_add_97 rfl ?_
    refine z_ialdN (j := 0) dX10_add_98 m_v (rfl) (by decide) (by decide) ?_
    rw [e, h.1.1]
    refine z_imul dX10_add_99 ?_
    refine z_iadd dX10_add_100 ?_
    refine z_ist6 dX10_add_101 (by decide) rfl ?_
    refine z_aload_n dX10_add_103 rfl ?_
    refine z_getR fRX10_7 dX10_add_104 (by first | assumption | rfl) (by rfl) ?_
    refine z_iload dX10_add_107 rfl ?_
    refine z_iload_n dX10_add_109 rfl ?_
    have e5 : (10 : Int32) + 5 * nI (anq A) = nI (10 + 5 * anq A) := by rw [← nI_add, ← pk_mul]; rfl
    rw [e5]
    refine z_iastN dX10_add_110 m_v (rfl) (by omega) (by decide) ?_
    refine z_aload_n dX10_add_111 rfl ?_
    refine z_getR fRX10_7 dX10_add_112 (by first | assumption | rfl) (by rfl) ?_
    refine z_iload dX10_add_115 rfl ?_
    refine z_iconst (v := 1) dX10_add_117 rfl ?_
    refine z_iadd dX10_add_118 ?_
    refine z_iload_n dX10_add_119 rfl ?_
    refine z_iastN dX10_add_120 m_v (nI_add _ 1) (by omega) (by decide) ?_
    refine z_aload_n dX10_add_121 rfl ?_
    refine z_getR fRX10_7 dX10_add_122 (by first | assumption | rfl) (by rfl) ?_
    refine z_iload dX10_add_125 rfl ?_
    refine z_iconst (v := 2) dX10_add_127 rfl ?_
    refine z_iadd dX10_add_128 ?_
    refine z_iload dX10_add_129 rfl ?_
    refine z_iastN dX10_add_131 m_v (nI_add _ 2) (by omega) (by decide) ?_
    refine z_aload_n dX10_add_132 rfl ?_
    refine z_getR fRX10_7 dX10_add_133 (by first | assumption | rfl) (by rfl) ?_
    refine z_iload dX10_add_136 rfl ?_
    refine z_iconst (v := 3) dX10_add_138 rfl ?_
    refine z_iadd dX10_add_139 ?_
    refine z_iload dX10_add_140 rfl ?_
    refine z_iastN dX10_add_142 m_v (nI_add _ 3) (by omega) (by decide) ?_
    refine z_aload_n dX10_add_143 rfl ?_
    refine z_getR fRX10_7 dX10_add_144 (by first | assumption | rfl) (by rfl) ?_
    refine z_iload dX10_add_147 rfl ?_
    refine z_iconst (v := 4) dX10_add_149 rfl ?_
    refine z_iadd dX10_add_150 ?_
    refine z_iload_n dX10_add_151 rfl ?_
    refine z_iastN dX10_add_152 m_v (nI_add _ 4) (by omega) (by decide) ?_
    refine z_aload_n dX10_add_153 rfl ?_
    refine z_getR fRX10_7 dX10_add_154 (by first | assumption | rfl) (by rfl) ?_
    refine z_iconst (v := 0) dX10_add_157 rfl ?_
    refine z_dup2 dX10_add_158 rfl rfl ?_
    refine z_ialdN (j := 0) dX10_add_159 m_v (rfl) (by decide) (by decide) ?_
    rw [zup_at, upd_ne _ _ (by omega), zup_at, upd_ne _ _ (by omega), zup_at, upd_ne _ _ (by omega), zup_at, upd_ne _ _ (by omega), zup_at, upd_ne _ _ (by omega), e, h.1.1]
    refine z_iconst (v := 1) dX10_add_160 rfl ?_
    refine z_iadd dX10_add_161 ?_
    rw [nI_1]
    refine z_iastN (j := 0) dX10_add_162 m_v (rfl) (by decide) (by decide) ?_
    refine z_aload_n dX10_add_163 rfl ?_
    refine z_getR fRX10_7 dX10_add_164 (by first | assumption | rfl) (by rfl) ?_
    refine z_iconst (v := 0) dX10_add_167 rfl ?_
    refine z_ialdN (j := 0) dX10_add_168 m_v (rfl) (by decide) (by decide) ?_
    rw [zup_at, upd_at]
    refine z_iconst (v := 1) dX10_add_169 rfl ?_
    refine z_isub dX10_add_170 ?_
    rw [nI_pred]
    refine z_iret hE dX10_add_171 ⟨rfl, rfl, fun a ha => by (repeat rw [zup_ne _ _ _ (by omega)]); exact b1 a (by omega) (by omega), _, _, _, _, _, hP, z_toRI b3 ?_ ?_ (fun a ha => by (repeat rw [zup_ne _ _ _ (by omega)]))⟩
    · rw [zup_at, zup_at, zup_at, zup_at, zup_at, zup_at, e]
      obtain ⟨r1, r2, r3, r4, r5, r6, r7⟩ := h.1
      have hf2 := hf
      obtain ⟨-, rfl, rfl, rfl, rfl, rfl⟩ := hf2
      have far : ∀ k, k ≠ 0 → (k < 10 + 5 * anq A ∨ 10 + 5 * anq A + 4 < k) → upd (upd (upd (upd (upd (upd (I 260) (10 + 5 * anq A) (nI (f 0))) (10 + 5 * anq A + 1) (nI (f 1))) (10 + 5 * anq A + 2) (nI (f 2))) (10 + 5 * anq A + 3) (nI (f 3))) (10 + 5 * anq A + 4) (nI (f 4))) 0 (nI (anq A + 1)) k = I 260 k := fun k q1 q2 => by
        rw [upd_ne _ _ q1, upd_ne _ _ (by omega), upd_ne _ _ (by omega), upd_ne _ _ (by omega), upd_ne _ _ (by omega), upd_ne _ _ (by omega)]
      refine ⟨by rw [upd_at]; rfl, by rw [far _ (by decide) (by omega)]; exact r2, by rw [far _ (by decide) (by omega)]; exact r3, by rw [far _ (by decide) (by omega), r4, hz]; rfl, fun i hi k hk => ?_, fun v hv' => by rw [far _ (by omega) (by omega)]; exact r6 v hv', fun t ht => absurd ht (Nat.not_lt_zero t)⟩
      have hi2 : i < anq A + 1 := hi
      show _ = nI (if i = anq A then f k else aqd A i k)
      by_cases ei : i = anq A
      · subst ei
        rw [if_pos rfl]
        match k, hk with
        | 0, _ => rw [upd_ne _ _ (by omega), upd_ne _ _ (by omega), upd_ne _ _ (by omega), upd_ne _ _ (by omega), upd_ne _ _ (by omega), Nat.add_zero, upd_at]
        | 1, _ => rw [upd_ne _ _ (by omega), upd_ne _ _ (by omega), upd_ne _ _ (by omega), upd_ne _ _ (by omega), upd_at]
        | 2, _ => rw [upd_ne _ _ (by omega), upd_ne _ _ (by omega), upd_ne _ _ (by omega), upd_at]
        | 3, _ => rw [upd_ne _ _ (by omega), upd_ne _ _ (by omega), upd_at]
        | 4, _ => rw [upd_ne _ _ (by omega), upd_at]
      · rw [if_neg ei, far _ (by omega) (by omega)]
        exact r5 i (by omega) k hk
    · obtain ⟨v1, v2, v3, v4, v5, v6⟩ := h.2.1
      refine z_av0 rfl ⟨hv, fun q hq => ?_⟩ v2 v3 v4
      have hq2 : q < anq A + 1 := hq
      show 1 ≤ (if q = anq A then f 0 else aqd A q 0) ∧ (if q = anq A then f 0 else aqd A q 0) ≤ 9 ∧ 2 ≤ (if q = anq A then f 4 else aqd A q 4) ∧ (if q = anq A then f 4 else aqd A q 4) ≤ 5 ∧ (if q = anq A then f 1 else aqd A q 1) < (if q = anq A then f 4 else aqd A q 4) ∧ (if q = anq A then f 2 else aqd A q 2) < 2 ^ (if q = anq A then f 4 else aqd A q 4) ∧ (if q = anq A then f 3 else aqd A q 3) ≤ 5
      by_cases ei : q = anq A
      · simp only [if_pos ei]; exact hf.1
      · simp only [if_neg ei]; exact v1.2 q (by omega)

