/-! ===== the model: fingerprint ===== -/
theorem is04_nI : ∀ w, w < 5 → is04 (nI w) := by decide
theorem fp_0 (n : Int64) : 5611 + n = 31 * 181 + n := rfl
theorem q_fingerprint {I : ZI} {A : AS} {hc : Nat} {Hh : Nat → AS} {tc : Nat} {bf : Nat → Nat} (h : RI I A hc Hh tc bf) : ZP yX10_fingerprint cX10_fingerprint 6 (some FieldType.long) 9 [.ref 259] Sg I (fun r J => r = some (.long (fpF A)) ∧ (∀ a, a < 259 → J a = I a) ∧ RI J A hc Hh tc bf) := by
  have g0 := m_obj
  have hV := h.2.1
  have hn := hV.1.1
  have hnv := hV.2.1
  have hns := hV.2.2.2.2.1
  refine ZSp.of (own := RX10) (L := [.ref 259, zj, zj, zj, zj, zj]) mX10_fingerprint rfl (List.all_eq_true.mp rfl) (Nat.le_of_ble_eq_true rfl) rfl (fun X hE hN => ?_)
  have sheets : ∀ (m t : Nat) (K : ZI), t + m = ans A → (∀ a, a < 259 → K a = I a) → RI K A hc Hh tc bf → (ZG X RX10 cX10_fingerprint 6 9 0 0 0 0 169 [.ref 259, .long (fpS A (fpV A (fpQ A 181) (anv A)) t), zj, .int (nI t), zj, zj] [] Sg K) := by
    intro m
    induction m with
    | zero =>
      intro t K ht c1 c2
      have e : t = ans A := by omega
      subst e
      refine z_iload_n dX10_fingerprint_169 rfl ?_
      refine z_aload_n dX10_fingerprint_170 rfl ?_
      refine z_getR fRX10_7 dX10_fingerprint_171 (by first | assumption | rfl) (by rfl) ?_
      refine z_iconst (v := 3) dX10_fingerprint_174 rfl ?_
      refine z_ialdN (j := 3) dX10_fingerprint_175 m_v (rfl) (by decide) (by decide) ?_
      rw [c2.1.2.2.2.1]
      refine z_icmp_ge (tgt := 250) dX10_fingerprint_176 (by decide) (fun _ => ?_) (fun hb => absurd (nI_le (Nat.le_refl _) (by omega)) hb)
      refine z_lload_n dX10_fingerprint_250 rfl ?_
      exact z_lret hE dX10_fingerprint_251 ⟨rfl, rfl, c1, c2⟩
    | succ m ih =>
      intro t K ht c1 c2
      have ht1 : t < ans A := by omega
      have hq5 : ∀ (m q : Nat) (K : ZI), q + m = anq A → (∀ a, a < 259 → K a = I a) → RI K A hc Hh tc bf → (ZG X RX10 cX10_fingerprint 6 9 0 0 0 0 212 [.ref 259, .long (fpR (fun q => anF A t q) (fpR (fun w => resF A t (nI w)) (fpS A (fpV A (fpQ A 181) (anv A)) t) 5) q), zj, .int (nI t), .int (nI q), zj] [] Sg K) := by
        intro m
        induction m with
        | zero =>
          intro q K hq c1 c2
          have e : q = anq A := by omega
          subst e
          have nxt := ih (t + 1) K (by omega) c1 c2
          refine z_iload dX10_fingerprint_212 rfl ?_
          refine z_aload_n dX10_fingerprint_214 rfl ?_
          refine z_getR fRX10_7 dX10_fingerprint_215 (by first | assumption | rfl) (by rfl) ?_
          refine z_iconst (v := 0) dX10_fingerprint_218 rfl ?_
          refine z_ialdN (j := 0) dX10_fingerprint_219 m_v (rfl) (by decide) (by decide) ?_
          rw [c2.1.1]
          refine z_icmp_ge (tgt := 244) dX10_fingerprint_220 (by decide) (fun _ => ?_) (fun hb => absurd (nI_le (Nat.le_refl _) (by omega)) hb)
          refine z_inc3 (w := 1) dX10_fingerprint_244 rfl (by decide) rfl ?_
          refine z_goto (tgt := 169) dX10_fingerprint_247 (by decide) ?_
          rw [nI_1]
          refine z_fg4 ?_
          exact nxt
        | succ m ih2 =>
          intro q K hq c1 c2
          have e1 : fpR (fun q => anF A t q) (fpR (fun w => resF A t (nI w)) (fpS A (fpV A (fpQ A 181) (anv A)) t) 5) (q + 1) = 31 * fpR (fun q => anF A t q) (fpR (fun w => resF A t (nI w)) (fpS A (fpV A (fpQ A 181) (anv A)) t) 5) q + (anF A t q).toInt64 := rfl
          refine z_iload dX10_fingerprint_212 rfl ?_
          refine z_aload_n dX10_fingerprint_214 rfl ?_
          refine z_getR fRX10_7 dX10_fingerprint_215 (by first | assumption | rfl) (by rfl) ?_
          refine z_iconst (v := 0) dX10_fingerprint_218 rfl ?_
          refine z_ialdN (j := 0) dX10_fingerprint_219 m_v (rfl) (by decide) (by decide) ?_
          rw [c2.1.1]
          refine z_icmp_ge (tgt := 244) dX10_fingerprint_220 (by decide) (fun hb => absurd hb (nI_ge (by omega) (by omega))) (fun _ => ?_)
          refine z_ldc2 kRX10_169 dX10_fingerprint_223 ?_
          refine z_lload_n dX10_fingerprint_226 rfl ?_
          refine z_lmul dX10_fingerprint_227 ?_
          refine z_aload_n dX10_fingerprint_228 rfl ?_
          refine z_iload_n dX10_fingerprint_229 rfl ?_
          refine z_iload dX10_fingerprint_230 rfl ?_
          refine z_cV2p mX10_answerOf gRX10_157 dX10_fingerprint_232 (q_answerOf c2 rfl ht1 rfl (show q < anq A by omega)) (by decide) (by first | assumption | rfl) (by rfl) (Nat.le_of_ble_eq_true rfl) (Nat.le_refl _) (Nat.le_refl _) (fun r J hq => ?_)
          obtain ⟨rfl, d1⟩ := hq
          have nxt := ih2 (q + 1) J (by omega) (fun a ha => by rw [d1.1 a (Or.inl ha), c1 a ha]) (d1.ri c2)
          rw [e1] at nxt
          refine z_i2l dX10_fingerprint_235 ?_
          refine z_ladd dX10_fingerprint_236 ?_
          refine z_lst1 dX10_fingerprint_237 (by decide) rfl ?_
          refine z_inc4 (w := 1) dX10_fingerprint_238 rfl (by decide) rfl ?_
          refine z_goto (tgt := 212) dX10_fingerprint_241 (by decide) ?_
          rw [nI_1]
          exact nxt
      have hw5 : ∀ (m w : Nat) (K : ZI), w + m = 5 → (∀ a, a < 259 → K a = I a) → RI K A hc Hh tc bf → (ZG X RX10 cX10_fingerprint 6 9 0 0 0 0 182 [.ref 259, .long (fpR (fun w => resF A t (nI w)) (fpS A (fpV A (fpQ A 181) (anv A)) t) w), zj, .int (nI t), .int (nI w), zj] [] Sg K) := by
        intro m
        induction m with
        | zero =>
          intro w K hw c1 c2
          have e : w = 5 := by omega
          subst e
          refine z_iload dX10_fingerprint_182 rfl ?_
          refine z_iconst (v := 5) dX10_fingerprint_184 rfl ?_
          refine z_icmp_ge (tgt := 209) dX10_fingerprint_185 (by decide) (fun _ => ?_) (fun hb => absurd (by decide) hb)
          refine z_iconst (v := 0) dX10_fingerprint_209 rfl ?_
          refine z_ist4 dX10_fingerprint_210 (by decide) rfl ?_
          exact hq5 (anq A) 0 K (by omega) c1 c2
        | succ m ih2 =>
          intro w K hw c1 c2
          have e1 : fpR (fun w => resF A t (nI w)) (fpS A (fpV A (fpQ A 181) (anv A)) t) (w + 1) = 31 * fpR (fun w => resF A t (nI w)) (fpS A (fpV A (fpQ A 181) (anv A)) t) w + (resF A t (nI w)).toInt64 := rfl
          refine z_iload dX10_fingerprint_182 rfl ?_
          refine z_iconst (v := 5) dX10_fingerprint_184 rfl ?_
          refine z_icmp_ge (tgt := 209) dX10_fingerprint_185 (by decide) (fun hb => absurd hb (nI_ge (b := 5) (show w < 5 by omega) (by decide))) (fun _ => ?_)
          refine z_ldc2 kRX10_169 dX10_fingerprint_188 ?_
          refine z_lload_n dX10_fingerprint_191 rfl ?_
          refine z_lmul dX10_fingerprint_192 ?_
          refine z_aload_n dX10_fingerprint_193 rfl ?_
          refine z_iload_n dX10_fingerprint_194 rfl ?_
          refine z_iload dX10_fingerprint_195 rfl ?_
          refine z_cV2p mX10_resultOf gRX10_154 dX10_fingerprint_197 (q_resultOf c2 rfl ht1 (is04_nI w (by omega))) (by decide) (by first | assumption | rfl) (by rfl) (Nat.le_of_ble_eq_true rfl) (Nat.le_refl _) (Nat.le_refl _) (fun r J hq => ?_)
          obtain ⟨rfl, d1⟩ := hq
          have nxt := ih2 (w + 1) J (by omega) (fun a ha => by rw [d1.1 a (Or.inl ha), c1 a ha]) (d1.ri c2)
          rw [e1] at nxt
          refine z_i2l dX10_fingerprint_200 ?_
          refine z_ladd dX10_fingerprint_201 ?_
          refine z_lst1 dX10_fingerprint_202 (by decide) rfl ?_
          refine z_inc4 (w := 1) dX10_fingerprint_203 rfl (by decide) rfl ?_
          refine z_goto (tgt := 182) dX10_fingerprint_206 (by decide) ?_
          rw [nI_1]
          exact nxt
      refine z_iload_n dX10_fingerprint_169 rfl ?_
      refine z_aload_n dX10_fingerprint_170 rfl ?_
      refine z_getR fRX10_7 dX10_fingerprint_171 (by first | assumption | rfl) (by rfl) ?_
      refine z_iconst (v := 3) dX10_fingerprint_174 rfl ?_
      refine z_ialdN (j := 3) dX10_fingerprint_175 m_v (rfl) (by decide) (by decide) ?_
      rw [c2.1.2.2.2.1]
      refine z_icmp_ge (tgt := 250) dX10_fingerprint_176 (by decide) (fun hb => absurd hb (nI_ge (by omega) (by omega))) (fun _ => ?_)
      refine z_iconst (v := 0) dX10_fingerprint_179 rfl ?_
      refine z_ist4 dX10_fingerprint_180 (by decide) rfl ?_
      exact hw5 5 0 K (by omega) c1 c2
  have vers : ∀ (m v : Nat) (K : ZI), v + m = anv A → (∀ a, a < 259 → K a = I a) → RI K A hc Hh tc bf → (ZG X RX10 cX10_fingerprint 6 9 0 0 0 0 65 [.ref 259, .long (fpV A (fpQ A 181) v), zj, .int (nI v), zj, zj] [] Sg K) := by
    intro m
    induction m with
    | zero =>
      intro v K hv c1 c2
      have e : v = anv A := by omega
      subst e
      refine z_iload_n dX10_fingerprint_65 rfl ?_
      refine z_aload_n dX10_fingerprint_66 rfl ?_
      refine z_getR fRX10_7 dX10_fingerprint_67 (by first | assumption | rfl) (by rfl) ?_
      refine z_iconst (v := 1) dX10_fingerprint_70 rfl ?_
      refine z_ialdN (j := 1) dX10_fingerprint_71 m_v (rfl) (by decide) (by decide) ?_
      rw [c2.1.2.1]
      refine z_icmp_ge (tgt := 153) dX10_fingerprint_72 (by decide) (fun _ => ?_) (fun hb => absurd (nI_le (Nat.le_refl _) (by omega)) hb)
      refine z_ldc2 kRX10_169 dX10_fingerprint_153 ?_
      refine z_lload_n dX10_fingerprint_156 rfl ?_
      refine z_lmul dX10_fingerprint_157 ?_
      refine z_aload_n dX10_fingerprint_158 rfl ?_
      refine z_getR fRX10_7 dX10_fingerprint_159 (by first | assumption | rfl) (by rfl) ?_
      refine z_iconst (v := 3) dX10_fingerprint_162 rfl ?_
      refine z_ialdN (j := 3) dX10_fingerprint_163 m_v (rfl) (by decide) (by decide) ?_
      rw [c2.1.2.2.2.1]
      refine z_i2l dX10_fingerprint_164 ?_
      refine z_ladd dX10_fingerprint_165 ?_
      refine z_lst1 dX10_fingerprint_166 (by decide) rfl ?_
      refine z_iconst (v := 0) dX10_fingerprint_167 rfl ?_
      refine z_ist3 dX10_fingerprint_168 (by decide) rfl ?_
      exact sheets (ans A) 0 K (by omega) c1 c2
    | succ m ih =>
      intro v K hv c1 c2
      have hv1 : v < anv A := by omega
      refine z_iload_n dX10_fingerprint_65 rfl ?_
      refine z_aload_n dX10_fingerprint_66 rfl ?_
      refine z_getR fRX10_7 dX10_fingerprint_67 (by first | assumption | rfl) (by rfl) ?_
      refine z_iconst (v := 1) dX10_fingerprint_70 rfl ?_
      refine z_ialdN (j := 1) dX10_fingerprint_71 m_v (rfl) (by decide) (by decide) ?_
      rw [c2.1.2.1]
      refine z_icmp_ge (tgt := 153) dX10_fingerprint_72 (by decide) (fun hb => absurd hb (nI_ge (by omega) (by omega))) (fun _ => ?_)
      refine z_aload_n dX10_fingerprint_75 rfl ?_
      refine z_iload_n dX10_fingerprint_76 rfl ?_
      refine z_cV1p mX10_opens gRX10_106 dX10_fingerprint_77 (q_opens c2.1 c2.2.1 rfl hv1) (by decide) (by first | assumption | rfl) (by rfl) (Nat.le_of_ble_eq_true rfl) (Nat.le_refl _) (Nat.le_refl _) (fun r J hq => ?_)
      obtain ⟨rfl, b1, b2⟩ := hq
      have hR1 := b1.ri c2
      refine z_aload_n dX10_fingerprint_80 rfl ?_
      refine z_cV0p mX10_lays gRX10_109 dX10_fingerprint_81 (q_lays hR1.1 c2.2.1 b2) (by decide) (by first | assumption | rfl) (by rfl) (Nat.le_of_ble_eq_true rfl) (Nat.le_refl _) (Nat.le_refl _) (fun r J hq => ?_)
      obtain ⟨rfl, b3, b4⟩ := hq
      have hR2 := b3.ri hR1
      have b5 := b3.mp b2
      have c3 : ∀ a, a < 259 → J a = I a := fun a ha => by rw [b3.1 a (by omega) (by omega) (by omega), b1.1 a (Or.inl ha), c1 a ha]
      have nxt := ih (v + 1) J (by omega) c3 hR2
      have inner : ∀ (p : Nat), p < anq A → ∀ (m w : Nat), w + m = 4 → ((ZG X RX10 cX10_fingerprint 6 9 0 0 0 0 87 [.ref 259, .long (fpR (fun j => atF A v (j / 4) (nI (j % 4))) (fpV A (fpQ A 181) v) (4 * (p + 1))), zj, .int (nI v), .int (nI (p + 1)), zj] [] Sg J)) → (ZG X RX10 cX10_fingerprint 6 9 0 0 0 0 101 [.ref 259, .long (fpR (fun j => atF A v (j / 4) (nI (j % 4))) (fpV A (fpQ A 181) v) (4 * p + w)), zj, .int (nI v), .int (nI p), .int (nI w)] [] Sg J) := by
        intro p hp m
        induction m with
        | zero =>
          intro w hw nx
          have e : w = 4 := by omega
          subst e
          refine z_iload dX10_fingerprint_101 rfl ?_
          refine z_iconst (v := 4) dX10_fingerprint_103 rfl ?_
          refine z_icmp_ge (tgt := 129) dX10_fingerprint_104 (by decide) (fun _ => ?_) (fun hb => absurd (by decide) hb)
          refine z_inc4 (w := 1) dX10_fingerprint_129 rfl (by decide) rfl ?_
          refine z_goto (tgt := 87) dX10_fingerprint_132 (by decide) ?_
          rw [nI_1]
          refine z_fg5 ?_
          exact nx
        | succ m ih2 =>
          intro w hw nx
          have nx2 := ih2 (w + 1) (by omega) nx
          have e1 : fpR (fun j => atF A v (j / 4) (nI (j % 4))) (fpV A (fpQ A 181) v) (4 * p + (w + 1)) = 31 * fpR (fun j => atF A v (j / 4) (nI (j % 4))) (fpV A (fpQ A 181) v) (4 * p + w) + (atF A v p (nI w)).toInt64 := by
            show 31 * _ + (atF A v ((4 * p + w) / 4) (nI ((4 * p + w) % 4))).toInt64 = _
            rw [show (4 * p + w) / 4 = p by omega, show (4 * p + w) % 4 = w by omega]
            rfl
          refine z_iload dX10_fingerprint_101 rfl ?_
          refine z_iconst (v := 4) dX10_fingerprint_103 rfl ?_
          refine z_icmp_ge (tgt := 129) dX10_fingerprint_104 (by decide) (fun hb => absurd hb (nI_ge (b := 4) (show w < 4 by omega) (by decide))) (fun _ => ?_)
          refine z_ldc2 kRX10_169 dX10_fingerprint_107 ?_
          refine z_lload_n dX10_fingerprint_110 rfl ?_
          refine z_lmul dX10_fingerprint_111 ?_
          refine z_aload_n dX10_fingerprint_112 rfl ?_
          refine z_iload dX10_fingerprint_113 rfl ?_
          refine z_iload dX10_fingerprint_115 rfl ?_
          refine z_cV2s mX10_told gRX10_112 dX10_fingerprint_117 (q_told rfl (show p < 20 by omega) (is03_nI w (by omega))) (by decide) (by first | assumption | rfl) (by rfl) (Nat.le_of_ble_eq_true rfl) (Nat.le_refl _) (Nat.le_refl _) ?_
          rw [mp_told hV b5 b4 hp]
          refine z_i2l dX10_fingerprint_120 ?_
          refine z_ladd dX10_fingerprint_121 ?_
          refine z_lst1 dX10_fingerprint_122 (by decide) rfl ?_
          refine z_inc5 (w := 1) dX10_fingerprint_123 rfl (by decide) rfl ?_
          refine z_goto (tgt := 101) dX10_fingerprint_126 (by decide) ?_
          rw [e1] at nx2
          rw [nI_1]
          exact nx2
      have mid : ∀ (m p : Nat), p + m = anq A → (ZG X RX10 cX10_fingerprint 6 9 0 0 0 0 87 [.ref 259, .long (fpR (fun j => atF A v (j / 4) (nI (j % 4))) (fpV A (fpQ A 181) v) (4 * p)), zj, .int (nI v), .int (nI p), zj] [] Sg J) := by
        intro m
        induction m with
        | zero =>
          intro p hp
          have e : p = anq A := by omega
          subst e
          have e12 : J 259 12 = nI (vN A v) := b4.1
          refine z_iload dX10_fingerprint_87 rfl ?_
          refine z_aload_n dX10_fingerprint_89 rfl ?_
          refine z_getR fRX10_7 dX10_fingerprint_90 (by first | assumption | rfl) (by rfl) ?_
          refine z_iconst (v := 0) dX10_fingerprint_93 rfl ?_
          refine z_ialdN (j := 0) dX10_fingerprint_94 m_v (rfl) (by decide) (by decide) ?_
          rw [hR2.1.1]
          refine z_icmp_ge (tgt := 135) dX10_fingerprint_95 (by decide) (fun _ => ?_) (fun hb => absurd (nI_le (Nat.le_refl _) (by omega)) hb)
          refine z_ldc2 kRX10_169 dX10_fingerprint_135 ?_
          refine z_lload_n dX10_fingerprint_138 rfl ?_
          refine z_lmul dX10_fingerprint_139 ?_
          refine z_aload_n dX10_fingerprint_140 rfl ?_
          refine z_getI fRX10_98 dX10_fingerprint_141 (by first | assumption | rfl) (by rfl) ?_
          refine z_i2l dX10_fingerprint_144 ?_
          refine z_ladd dX10_fingerprint_145 ?_
          refine z_lst1 dX10_fingerprint_146 (by decide) rfl ?_
          refine z_inc3 (w := 1) dX10_fingerprint_147 rfl (by decide) rfl ?_
          refine z_goto (tgt := 65) dX10_fingerprint_150 (by decide) ?_
          rw [e12, nI_1]
          refine z_fg4 ?_
          exact nxt
        | succ m ih2 =>
          intro p hp
          refine z_iload dX10_fingerprint_87 rfl ?_
          refine z_aload_n dX10_fingerprint_89 rfl ?_
          refine z_getR fRX10_7 dX10_fingerprint_90 (by first | assumption | rfl) (by rfl) ?_
          refine z_iconst (v := 0) dX10_fingerprint_93 rfl ?_
          refine z_ialdN (j := 0) dX10_fingerprint_94 m_v (rfl) (by decide) (by decide) ?_
          rw [hR2.1.1]
          refine z_icmp_ge (tgt := 135) dX10_fingerprint_95 (by decide) (fun hb => absurd hb (nI_ge (by omega) (by omega))) (fun _ => ?_)
          refine z_iconst (v := 0) dX10_fingerprint_98 rfl ?_
          refine z_ist5 dX10_fingerprint_99 (by decide) rfl ?_
          exact inner p (by omega) 4 0 (by omega) (ih2 (p + 1) (by omega))
      refine z_iconst (v := 0) dX10_fingerprint_84 rfl ?_
      refine z_ist4 dX10_fingerprint_85 (by decide) rfl ?_
      exact mid (anq A) 0 (by omega)
  have ques : ∀ (m k : Nat), k + m = 5 * anq A → (ZG X RX10 cX10_fingerprint 6 9 0 0 0 0 14 [.ref 259, .long (fpR (fun j => nI (aqd A (j / 5) (j % 5))) (31 * 181 + (nI (anq A)).toInt64) k), zj, .int (nI k), zj, zj] [] Sg I) := by
    intro m
    induction m with
    | zero =>
      intro k hk
      have e : k = 5 * anq A := by omega
      subst e
      refine z_iload_n dX10_fingerprint_14 rfl ?_
      refine z_iconst (v := 5) dX10_fingerprint_15 rfl ?_
      refine z_aload_n dX10_fingerprint_16 rfl ?_
      refine z_getR fRX10_7 dX10_fingerprint_17 (by first | assumption | rfl) (by rfl) ?_
      refine z_iconst (v := 0) dX10_fingerprint_20 rfl ?_
      refine z_ialdN (j := 0) dX10_fingerprint_21 m_v (rfl) (by decide) (by decide) ?_
      rw [h.1.1]
      refine z_imul dX10_fingerprint_22 ?_
      rw [show (5 : Int32) * nI (anq A) = nI (5 * anq A) from by rw [← pk_mul]; rfl]
      refine z_icmp_ge (tgt := 49) dX10_fingerprint_23 (by decide) (fun _ => ?_) (fun hb => absurd (nI_le (Nat.le_refl _) (by omega)) hb)
      refine z_ldc2 kRX10_169 dX10_fingerprint_49 ?_
      refine z_lload_n dX10_fingerprint_52 rfl ?_
      refine z_lmul dX10_fingerprint_53 ?_
      refine z_aload_n dX10_fingerprint_54 rfl ?_
      refine z_getR fRX10_7 dX10_fingerprint_55 (by first | assumption | rfl) (by rfl) ?_
      refine z_iconst (v := 1) dX10_fingerprint_58 rfl ?_
      refine z_ialdN (j := 1) dX10_fingerprint_59 m_v (rfl) (by decide) (by decide) ?_
      rw [h.1.2.1]
      refine z_i2l dX10_fingerprint_60 ?_
      refine z_ladd dX10_fingerprint_61 ?_
      refine z_lst1 dX10_fingerprint_62 (by decide) rfl ?_
      refine z_iconst (v := 0) dX10_fingerprint_63 rfl ?_
      refine z_ist3 dX10_fingerprint_64 (by decide) rfl ?_
      exact vers (anv A) 0 I (by omega) (fun _ _ => rfl) h
    | succ m ih =>
      intro k hk
      have nxt := ih (k + 1) (by omega)
      have e1 : fpR (fun j => nI (aqd A (j / 5) (j % 5))) (31 * 181 + (nI (anq A)).toInt64) (k + 1) = 31 * fpR (fun j => nI (aqd A (j / 5) (j % 5))) (31 * 181 + (nI (anq A)).toInt64) k + (nI (aqd A (k / 5) (k % 5))).toInt64 := rfl
      have ek := h.1.2.2.2.2.1 (k / 5) (by omega) (k % 5) (by omega)
      rw [show 10 + 5 * (k / 5) + k % 5 = 10 + k by omega] at ek
      rw [e1] at nxt
      refine z_iload_n dX10_fingerprint_14 rfl ?_
      refine z_iconst (v := 5) dX10_fingerprint_15 rfl ?_
      refine z_aload_n dX10_fingerprint_16 rfl ?_
      refine z_getR fRX10_7 dX10_fingerprint_17 (by first | assumption | rfl) (by rfl) ?_
      refine z_iconst (v := 0) dX10_fingerprint_20 rfl ?_
      refine z_ialdN (j := 0) dX10_fingerprint_21 m_v (rfl) (by decide) (by decide) ?_
      rw [h.1.1]
      refine z_imul dX10_fingerprint_22 ?_
      rw [show (5 : Int32) * nI (anq A) = nI (5 * anq A) from by rw [← pk_mul]; rfl]
      refine z_icmp_ge (tgt := 49) dX10_fingerprint_23 (by decide) (fun hb => absurd hb (nI_ge (by omega) (by omega))) (fun _ => ?_)
      refine z_ldc2 kRX10_169 dX10_fingerprint_26 ?_
      refine z_lload_n dX10_fingerprint_29 rfl ?_
      refine z_lmul dX10_fingerprint_30 ?_
      refine z_aload_n dX10_fingerprint_31 rfl ?_
      refine z_getR fRX10_7 dX10_fingerprint_32 (by first | assumption | rfl) (by rfl) ?_
      refine z_bipush (v := 10) dX10_fingerprint_35 rfl ?_
      refine z_iload_n dX10_fingerprint_37 rfl ?_
      refine z_iadd dX10_fingerprint_38 ?_
      refine z_ialdN dX10_fingerprint_39 m_v (show (10 : Int32) + nI k = nI (10 + k) from nI_add 10 k) (by omega) (by decide) ?_
      rw [ek]
      refine z_i2l dX10_fingerprint_40 ?_
      refine z_ladd dX10_fingerprint_41 ?_
      refine z_lst1 dX10_fingerprint_42 (by decide) rfl ?_
      refine z_inc3 (w := 1) dX10_fingerprint_43 rfl (by decide) rfl ?_
      refine z_goto (tgt := 14) dX10_fingerprint_46 (by decide) ?_
      rw [nI_1]
      exact nxt
  refine z_ldc2 kRX10_167 dX10_fingerprint_0 ?_
  refine z_aload_n dX10_fingerprint_3 rfl ?_
  refine z_getR fRX10_7 dX10_fingerprint_4 (by first | assumption | rfl) (by rfl) ?_
  refine z_iconst (v := 0) dX10_fingerprint_7 rfl ?_
  refine z_ialdN (j := 0) dX10_fingerprint_8 m_v (rfl) (by decide) (by decide) ?_
  rw [h.1.1]
  refine z_i2l dX10_fingerprint_9 ?_
  refine z_ladd dX10_fingerprint_10 ?_
  refine z_lst1 dX10_fingerprint_11 (by decide) rfl ?_
  refine z_iconst (v := 0) dX10_fingerprint_12 rfl ?_
  refine z_ist3 dX10_fingerprint_13 (by decide) rfl ?_
  exact ques (5 * anq A) 0 (by omega)

