/-! ===== the model: the choices of a place -/
theorem q_mixesChoices {I : ZI} {A : AS} {p q : Nat} {y : Int32} (h : RV (I 260) A) (hV : AV A) (hy : y = nI p) (hp : p < 20) (hqp : I 262 p = nI q) (hq : q < anq A) :
    ZP yX10_mixesChoices cX10_mixesChoices 5 none 2 [.ref 259, .int y] Sg I (fun r J => r = none ∧ (∀ a, a ≠ 259 → a ≠ 263 → a ≠ 264 → a ≠ 265 → J a = I a) ∧ (∀ k, k ≠ 3 → k ≠ 8 → J 259 k = I 259 k) ∧ J 259 3 = (mxL (aqd A) (I 259 3) q).1
      ∧ (∀ k, k < aqd A q 4 → J 264 (5 * p + k) = nI (chq (aqd A) (I 259 3) q k)) ∧ (∀ j, (j < 5 * p ∨ 5 * p + 5 ≤ j) → J 264 j = I 264 j)
      ∧ J 263 p = nI (kyq (chq (aqd A) (I 259 3) q) (aqd A q 1) (aqd A q 4)) ∧ ∀ j, j ≠ p → J 263 j = I 263 j) := by
  have g0 := m_obj
  have hn := hV.1.1
  obtain ⟨v1, v2, v3, v4, v5, v6, v7⟩ := hV.1.2 q hq
  have hK : aqd A q 2 < 32 := Nat.lt_of_lt_of_le v6 (Nat.pow_le_pow_right (by decide) v4 : 2 ^ aqd A q 4 ≤ 2 ^ 5)
  have hon := chq_onto (qd := aqd A) (x := I 259 3) (q := q) v5
  have hml : ∀ k, chq (aqd A) (I 259 3) q k = if loose (aqd A) q k = true then (mxL (aqd A) (I 259 3) q).2 (col (loose (aqd A) q) k).1 else k := fun k => rfl
  have hlt : ∀ k, k < aqd A q 4 → chq (aqd A) (I 259 3) q k < 5 := fun k hk => by
    have := chq_lt (qd := aqd A) (x := I 259 3) (q := q) (k := k) hk
    omega
  have hcn := col_le (loose (aqd A) q) (aqd A q 4)
  subst hy
  refine ZSp.of (own := RX10) (L := [.ref 259, .int (nI p), zj, zj, zj]) mX10_mixesChoices rfl (List.all_eq_true.mp rfl) (Nat.le_of_ble_eq_true rfl) rfl (fun X hE hN => ?_)
  have e5 : ∀ k, (5 : Int32) * nI p + nI k = nI (5 * p + k) := fun k => by rw [← nI_add, ← pk_mul]; rfl
  have loop2 : ∀ (m k : Nat) (J : ZI), k + m = aqd A q 4 → (∀ a, a ≠ 259 → a ≠ 263 → a ≠ 264 → a ≠ 265 → J a = I a) → (∀ k, k ≠ 3 → k ≠ 8 → J 259 k = I 259 k) → J 259 3 = (mxL (aqd A) (I 259 3) q).1 → Rp (J 265) (mxL (aqd A) (I 259 3) q).2 (col (loose (aqd A) q) (aqd A q 4)).1
      → (∀ j, j < k → J 264 (5 * p + j) = nI (chq (aqd A) (I 259 3) q j)) → (∀ j, k ≤ j → j < aqd A q 4 → J 264 (5 * p + j) = nI j) → (∀ j, (j < 5 * p ∨ 5 * p + 5 ≤ j) → J 264 j = I 264 j) → ((∃ j, j < k ∧ chq (aqd A) (I 259 3) q j = aqd A q 1) → J 263 p = nI (kyq (chq (aqd A) (I 259 3) q) (aqd A q 1) k)) → (∀ j, j ≠ p → J 263 j = I 263 j)
      → (ZG X RX10 cX10_mixesChoices 5 2 0 0 0 0 83 [.ref 259, .int (nI p), .int (nI q), .int (nI (col (loose (aqd A) q) k).1), .int (nI k)] [] Sg J) := by
    intro m
    induction m with
    | zero =>
      intro k J hk a1 a2 a3 a4 a5 a6 a7 a8 a9
      have e : k = aqd A q 4 := by omega
      subst e
      have hRV : RV (J 260) A := by rw [a1 _ (by decide) (by decide) (by decide) (by decide)]; exact h
      refine z_iload dX10_mixesChoices_83 rfl ?_
      refine z_aload_n dX10_mixesChoices_85 rfl ?_
      refine z_iload_n dX10_mixesChoices_86 rfl ?_
      refine z_iconst (v := 4) dX10_mixesChoices_87 rfl ?_
      refine z_cV2s mX10_of gRX10_61 dX10_mixesChoices_88 (q_of hRV hn rfl (show (4 : Int32) = nI 4 from rfl) hq (by decide)) (by decide) (by first | assumption | rfl) (by rfl) (Nat.le_of_ble_eq_true rfl) (Nat.le_refl _) (Nat.le_refl _) ?_
      refine z_icmp_ge (tgt := 171) dX10_mixesChoices_91 (by decide) (fun _ => ?_) (fun hb => absurd (nI_le (Nat.le_refl _) (by omega)) hb)
      exact z_vret hE dX10_mixesChoices_171 ⟨rfl, rfl, a1, a2, a3, a5, a7, a8 hon, a9⟩
    | succ m ih =>
      intro k J hk a1 a2 a3 a4 a5 a6 a7 a8 a9
      have hRV : RV (J 260) A := by rw [a1 _ (by decide) (by decide) (by decide) (by decide)]; exact h
      have hbit := z_bit (aqd A q 2) hK k (by omega)
      have hck := hlt k (by omega)
      have mid : ∀ (K : ZI), (∀ a, a ≠ 259 → a ≠ 263 → a ≠ 264 → a ≠ 265 → K a = I a) → (∀ k, k ≠ 3 → k ≠ 8 → K 259 k = I 259 k) → K 259 3 = (mxL (aqd A) (I 259 3) q).1 → Rp (K 265) (mxL (aqd A) (I 259 3) q).2 (col (loose (aqd A) q) (aqd A q 4)).1
          → (∀ j, j < k + 1 → K 264 (5 * p + j) = nI (chq (aqd A) (I 259 3) q j)) → (∀ j, k + 1 ≤ j → j < aqd A q 4 → K 264 (5 * p + j) = nI j) → (∀ j, (j < 5 * p ∨ 5 * p + 5 ≤ j) → K 264 j = I 264 j) → K 263 = J 263
          → (ZG X RX10 cX10_mixesChoices 5 2 0 0 0 0 128 [.ref 259, .int (nI p), .int (nI q), .int (nI (col (loose (aqd A) q) (k + 1)).1), .int (nI k)] [] Sg K) := by
        intro K b1 b2 b3 b4 b5 b6 b7 b8
        have hRK : RV (K 260) A := by rw [b1 _ (by decide) (by decide) (by decide) (by decide)]; exact h
        have fin : ∀ (w : Int32), ((∃ j, j < k + 1 ∧ chq (aqd A) (I 259 3) q j = aqd A q 1) → w = nI (kyq (chq (aqd A) (I 259 3) q) (aqd A q 1) (k + 1))) → (ZG X RX10 cX10_mixesChoices 5 2 0 0 0 0 164 [.ref 259, .int (nI p), .int (nI q), .int (nI (col (loose (aqd A) q) (k + 1)).1), .int (nI k)] [.int w, .int (nI p), .ref 263] Sg K) := by
          intro w hw
          refine z_iastN dX10_mixesChoices_164 m_key (rfl) (hp) (by decide) ?_
          refine z_inc4 (w := 1) dX10_mixesChoices_165 rfl (by decide) rfl ?_
          refine z_goto (tgt := 83) dX10_mixesChoices_168 (by decide) ?_
          rw [nI_1]
          refine ih (k + 1) _ (by omega) (fun a q1 q2 q3 q4 => by rw [zup_ne _ _ _ q2]; exact b1 a q1 q2 q3 q4) (fun k q1 q2 => by rw [zup_ne _ _ _ (by decide)]; exact b2 k q1 q2) (by rw [zup_ne _ _ _ (by decide)]; exact b3) (by rw [zup_ne _ _ _ (by decide)]; exact b4) (fun j hj => by rw [zup_ne _ _ _ (by decide)]; exact b5 j hj) (fun j q1 q2 => by rw [zup_ne _ _ _ (by decide)]; exact b6 j q1 q2) (fun j hj => by rw [zup_ne _ _ _ (by decide)]; exact b7 j hj) (fun z => by rw [zup_at, upd_at]; exact hw z) (fun j hj => by rw [zup_at, upd_ne _ _ hj, b8]; exact a9 j hj)
        refine z_aload_n dX10_mixesChoices_128 rfl ?_
        refine z_getR fRX10_19 dX10_mixesChoices_129 (by first | assumption | rfl) (by rfl) ?_
        refine z_iload_n dX10_mixesChoices_132 rfl ?_
        refine z_aload_n dX10_mixesChoices_133 rfl ?_
        refine z_getR fRX10_22 dX10_mixesChoices_134 (by first | assumption | rfl) (by rfl) ?_
        refine z_iconst (v := 5) dX10_mixesChoices_137 rfl ?_
        refine z_iload_n dX10_mixesChoices_138 rfl ?_
        refine z_imul dX10_mixesChoices_139 ?_
        refine z_iload dX10_mixesChoices_140 rfl ?_
        refine z_iadd dX10_mixesChoices_142 ?_
        refine z_ialdN dX10_mixesChoices_143 m_chat (e5 k) (by omega) (by decide) ?_
        rw [b5 k (Nat.lt_succ_self k)]
        refine z_aload_n dX10_mixesChoices_144 rfl ?_
        refine z_iload_n dX10_mixesChoices_145 rfl ?_
        refine z_iconst (v := 1) dX10_mixesChoices_146 rfl ?_
        refine z_cV2s mX10_of gRX10_61 dX10_mixesChoices_147 (q_of hRK hn rfl (show (1 : Int32) = nI 1 from rfl) hq (by decide)) (by decide) (by first | assumption | rfl) (by rfl) (Nat.le_of_ble_eq_true rfl) (Nat.le_refl _) (Nat.le_refl _) ?_
        by_cases heq : chq (aqd A) (I 259 3) q k = aqd A q 1
        · refine z_icmp_ne (tgt := 158) dX10_mixesChoices_150 (by decide) (fun hb => absurd (by rw [heq]) hb) (fun _ => ?_)
          refine z_iload dX10_mixesChoices_153 rfl ?_
          refine z_goto (tgt := 164) dX10_mixesChoices_155 (by decide) ?_
          exact fin _ (fun _ => by rw [kyq, if_pos heq])
        · refine z_icmp_ne (tgt := 158) dX10_mixesChoices_150 (by decide) (fun _ => ?_) (fun hb => absurd hb (fun z => heq ((nI_eq (by omega) (by omega)).mp z)))
          refine z_aload_n dX10_mixesChoices_158 rfl ?_
          refine z_getR fRX10_19 dX10_mixesChoices_159 (by first | assumption | rfl) (by rfl) ?_
          refine z_iload_n dX10_mixesChoices_162 rfl ?_
          refine z_ialdN dX10_mixesChoices_163 m_key (rfl) (hp) (by decide) ?_
          refine fin _ (fun ⟨j, j1, j2⟩ => ?_)
          rw [b8, kyq, if_neg heq]
          exact a8 ⟨j, by have e : j ≠ k := fun e => heq (e ▸ j2); omega, j2⟩
      refine z_iload dX10_mixesChoices_83 rfl ?_
      refine z_aload_n dX10_mixesChoices_85 rfl ?_
      refine z_iload_n dX10_mixesChoices_86 rfl ?_
      refine z_iconst (v := 4) dX10_mixesChoices_87 rfl ?_
      refine z_cV2s mX10_of gRX10_61 dX10_mixesChoices_88 (q_of hRV hn rfl (show (4 : Int32) = nI 4 from rfl) hq (by decide)) (by decide) (by first | assumption | rfl) (by rfl) (Nat.le_of_ble_eq_true rfl) (Nat.le_refl _) (Nat.le_refl _) ?_
      refine z_icmp_ge (tgt := 171) dX10_mixesChoices_91 (by decide) (fun hb => absurd hb (nI_ge (by omega) (by omega))) (fun _ => ?_)
      refine z_aload_n dX10_mixesChoices_94 rfl ?_
      refine z_iload_n dX10_mixesChoices_95 rfl ?_
      refine z_iconst (v := 2) dX10_mixesChoices_96 rfl ?_
      refine z_cV2s mX10_of gRX10_61 dX10_mixesChoices_97 (q_of hRV hn rfl (show (2 : Int32) = nI 2 from rfl) hq (by decide)) (by decide) (by first | assumption | rfl) (by rfl) (Nat.le_of_ble_eq_true rfl) (Nat.le_refl _) (Nat.le_refl _) ?_
      refine z_iload dX10_mixesChoices_100 rfl ?_
      refine z_ishr dX10_mixesChoices_102 ?_
      refine z_iconst (v := 1) dX10_mixesChoices_103 rfl ?_
      refine z_iand dX10_mixesChoices_104 ?_
      refine z_if_ne (tgt := 128) dX10_mixesChoices_105 (by decide) (fun hb => ?_) (fun hb => ?_)
      · have hl : ¬ loose (aqd A) q k = true := fun z => hb (hbit.mpr (by simpa [loose] using z))
        have e1 : chq (aqd A) (I 259 3) q k = k := by rw [hml k, if_neg hl]
        have := mid J a1 a2 a3 a4 (fun j hj => by
          by_cases ej : j = k
          · rw [ej, e1]; exact a6 k (Nat.le_refl _) (by omega)
          · exact a5 j (by omega)) (fun j q1 q2 => a6 j (by omega) q2) a7 rfl
        rw [col_no hl] at this
        exact this
      · refine z_aload_n dX10_mixesChoices_108 rfl ?_
        refine z_getR fRX10_22 dX10_mixesChoices_109 (by first | assumption | rfl) (by rfl) ?_
        refine z_iconst (v := 5) dX10_mixesChoices_112 rfl ?_
        refine z_iload_n dX10_mixesChoices_113 rfl ?_
        refine z_imul dX10_mixesChoices_114 ?_
        refine z_iload dX10_mixesChoices_115 rfl ?_
        refine z_iadd dX10_mixesChoices_117 ?_
        refine z_aload_n dX10_mixesChoices_118 rfl ?_
        refine z_getR fRX10_25 dX10_mixesChoices_119 (by first | assumption | rfl) (by rfl) ?_
        refine z_iload_n dX10_mixesChoices_122 rfl ?_
        have hl : loose (aqd A) q k = true := by
          have := hbit.mp hb
          simp [loose, this]
        have e1 : chq (aqd A) (I 259 3) q k = (mxL (aqd A) (I 259 3) q).2 (col (loose (aqd A) q) k).1 := by rw [hml k, if_pos hl]
        have hc1 : (col (loose (aqd A) q) k).1 + 1 ≤ (col (loose (aqd A) q) (aqd A q 4)).1 := by
          have := col_mono (loose (aqd A) q) (m := k + 1) (n := aqd A q 4) (by omega)
          rw [col_yes hl] at this
          exact this
        refine z_ialdN dX10_mixesChoices_123 m_row (rfl) (by omega) (by decide) ?_
        rw [a4 _ (show (col (loose (aqd A) q) k).1 < _ by omega), ← e1]
        refine z_iastN dX10_mixesChoices_124 m_chat (e5 k) (by omega) (by decide) ?_
        refine z_inc3 (w := 1) dX10_mixesChoices_125 rfl (by decide) rfl ?_
        rw [nI_1, show (col (loose (aqd A) q) k).1 + 1 = (col (loose (aqd A) q) (k + 1)).1 by rw [col_yes hl]]
        refine mid _ (fun a q1 q2 q3 q4 => by rw [zup_ne _ _ _ q3]; exact a1 a q1 q2 q3 q4) (fun k q1 q2 => by rw [zup_ne _ _ _ (by decide)]; exact a2 k q1 q2) (by rw [zup_ne _ _ _ (by decide)]; exact a3) (by rw [zup_ne _ _ _ (by decide)]; exact a4) (fun j hj => ?_) (fun j q1 q2 => ?_) (fun j hj => ?_) (zup_ne _ _ _ (by decide))
        · rw [zup_at]
          by_cases ej : j = k
          · rw [ej, upd_at]
          · rw [upd_ne _ _ (by omega)]; exact a5 j (by omega)
        · rw [zup_at, upd_ne _ _ (by omega)]; exact a6 j (by omega) q2
        · rw [zup_at, upd_ne _ _ (by omega)]; exact a7 j hj
  have loop1 : ∀ (m k : Nat) (J : ZI), k + m = aqd A q 4 → (∀ a, a ≠ 259 → a ≠ 264 → a ≠ 265 → J a = I a) → (∀ k, k ≠ 8 → J 259 k = I 259 k) → J 259 8 = nI (col (loose (aqd A) q) k).1 → Rp (J 265) (col (loose (aqd A) q) k).2 (col (loose (aqd A) q) k).1
      → (∀ j, j < k → J 264 (5 * p + j) = nI j) → (∀ j, (j < 5 * p ∨ 5 * p + 5 ≤ j) → J 264 j = I 264 j)
      → (ZG X RX10 cX10_mixesChoices 5 2 0 0 0 0 14 [.ref 259, .int (nI p), .int (nI q), .int (nI k), zj] [] Sg J) := by
    intro m
    induction m with
    | zero =>
      intro k K hk a1 a2 a3 a4 a5 a6
      have e : k = aqd A q 4 := by omega
      subst e
      have hRV : RV (K 260) A := by rw [a1 _ (by decide) (by decide) (by decide)]; exact h
      refine z_iload_n dX10_mixesChoices_14 rfl ?_
      refine z_aload_n dX10_mixesChoices_15 rfl ?_
      refine z_iload_n dX10_mixesChoices_16 rfl ?_
      refine z_iconst (v := 4) dX10_mixesChoices_17 rfl ?_
      refine z_cV2s mX10_of gRX10_61 dX10_mixesChoices_18 (q_of hRV hn rfl (show (4 : Int32) = nI 4 from rfl) hq (by decide)) (by decide) (by first | assumption | rfl) (by rfl) (Nat.le_of_ble_eq_true rfl) (Nat.le_refl _) (Nat.le_refl _) ?_
      refine z_icmp_ge (tgt := 74) dX10_mixesChoices_21 (by decide) (fun _ => ?_) (fun hb => absurd (nI_le (Nat.le_refl _) (by omega)) hb)
      refine z_aload_n dX10_mixesChoices_74 rfl ?_
      refine z_cV0p mX10_mixes gRX10_82 dX10_mixesChoices_75 (q_mixes a3 (by omega)) (by decide) (by first | assumption | rfl) (by rfl) (Nat.le_of_ble_eq_true rfl) (Nat.le_refl _) (Nat.le_refl _) (fun r J hq => ?_)
      obtain ⟨rfl, b1, b2, b3, b4⟩ := hq
      have hm := mix_rp ((col (loose (aqd A) q) (aqd A q 4)).1 - 1) (K 259 3) (K 265) (col (loose (aqd A) q) (aqd A q 4)).2 (col (loose (aqd A) q) (aqd A q 4)).1 (by omega) a4
      rw [← b3, ← b4, a2 3 (by decide)] at hm
      refine z_iconst (v := 0) dX10_mixesChoices_78 rfl ?_
      refine z_ist3 dX10_mixesChoices_79 (by decide) rfl ?_
      refine z_iconst (v := 0) dX10_mixesChoices_80 rfl ?_
      refine z_ist4 dX10_mixesChoices_81 (by decide) rfl ?_
      refine loop2 (aqd A q 4) 0 J (by omega) (fun a q1 q2 q3 q4 => by rw [b1 a q1 q4]; exact a1 a q1 q3 q4) (fun k q1 q2 => by rw [b2 k q1]; exact a2 k q2) hm.1 hm.2 (fun j hj => absurd hj (Nat.not_lt_zero j)) (fun j q1 q2 => by rw [b1 264 (by decide) (by decide)]; exact a5 j q2) (fun j hj => by rw [b1 264 (by decide) (by decide)]; exact a6 j hj) (fun ⟨j, hj, _⟩ => absurd hj (Nat.not_lt_zero j)) (fun j hj => by rw [b1 263 (by decide) (by decide), a1 263 (by decide) (by decide) (by decide)])
    | succ m ih =>
      intro k J hk a1 a2 a3 a4 a5 a6
      have hRV : RV (J 260) A := by rw [a1 _ (by decide) (by decide) (by decide)]; exact h
      have hbit := z_bit (aqd A q 2) hK k (by omega)
      have hck := col_le (loose (aqd A) q) k
      have b5 : ∀ j, j < k + 1 → zup J 264 (5 * p + k) (nI k) 264 (5 * p + j) = nI j := fun j hj => by
        rw [zup_at]
        by_cases ej : j = k
        · rw [ej, upd_at]
        · rw [upd_ne _ _ (by omega)]; exact a5 j (by omega)
      have b6 : ∀ j, (j < 5 * p ∨ 5 * p + 5 ≤ j) → zup J 264 (5 * p + k) (nI k) 264 j = I 264 j := fun j hj => by
        rw [zup_at, upd_ne _ _ (by omega)]; exact a6 j hj
      have hR2 : RV (zup J 264 (5 * p + k) (nI k) 260) A := by rw [zup_ne _ _ _ (by decide)]; exact hRV
      refine z_iload_n dX10_mixesChoices_14 rfl ?_
      refine z_aload_n dX10_mixesChoices_15 rfl ?_
      refine z_iload_n dX10_mixesChoices_16 rfl ?_
      refine z_iconst (v := 4) dX10_mixesChoices_17 rfl ?_
      refine z_cV2s mX10_of gRX10_61 dX10_mixesChoices_18 (q_of hRV hn rfl (show (4 : Int32) = nI 4 from rfl) hq (by decide)) (by decide) (by first | assumption | rfl) (by rfl) (Nat.le_of_ble_eq_true rfl) (Nat.le_refl _) (Nat.le_refl _) ?_
      refine z_icmp_ge (tgt := 74) dX10_mixesChoices_21 (by decide) (fun hb => absurd hb (nI_ge (by omega) (by omega))) (fun _ => ?_)
      refine z_aload_n dX10_mixesChoices_24 rfl ?_
      refine z_getR fRX10_22 dX10_mixesChoices_25 (by first | assumption | rfl) (by rfl) ?_
      refine z_iconst (v := 5) dX10_mixesChoices_28 rfl ?_
      refine z_iload_n dX10_mixesChoices_29 rfl ?_
      refine z_imul dX10_mixesChoices_30 ?_
      refine z_iload_n dX10_mixesChoices_31 rfl ?_
      refine z_iadd dX10_mixesChoices_32 ?_
      refine z_iload_n dX10_mixesChoices_33 rfl ?_
      refine z_iastN dX10_mixesChoices_34 m_chat (e5 k) (by omega) (by decide) ?_
      refine z_aload_n dX10_mixesChoices_35 rfl ?_
      refine z_iload_n dX10_mixesChoices_36 rfl ?_
      refine z_iconst (v := 2) dX10_mixesChoices_37 rfl ?_
      refine z_cV2s mX10_of gRX10_61 dX10_mixesChoices_38 (q_of hR2 hn rfl (show (2 : Int32) = nI 2 from rfl) hq (by decide)) (by decide) (by first | assumption | rfl) (by rfl) (Nat.le_of_ble_eq_true rfl) (Nat.le_refl _) (Nat.le_refl _) ?_
      refine z_iload_n dX10_mixesChoices_41 rfl ?_
      refine z_ishr dX10_mixesChoices_42 ?_
      refine z_iconst (v := 1) dX10_mixesChoices_43 rfl ?_
      refine z_iand dX10_mixesChoices_44 ?_
      refine z_if_ne (tgt := 68) dX10_mixesChoices_45 (by decide) (fun hb => ?_) (fun hb => ?_)
      · refine z_inc3 (w := 1) dX10_mixesChoices_68 rfl (by decide) rfl ?_
        refine z_goto (tgt := 14) dX10_mixesChoices_71 (by decide) ?_
        have hl : ¬ loose (aqd A) q k = true := fun z => hb (hbit.mpr (by simpa [loose] using z))
        rw [nI_1]
        refine ih (k + 1) _ (by omega) (fun a q1 q2 q3 => by rw [zup_ne _ _ _ q2]; exact a1 a q1 q2 q3) (fun k q => by rw [zup_ne _ _ _ (by decide)]; exact a2 k q) (by rw [zup_ne _ _ _ (by decide), col_no hl]; exact a3) (by rw [zup_ne _ _ _ (by decide), col_no hl]; exact a4) b5 b6
      · refine z_aload_n dX10_mixesChoices_48 rfl ?_
        refine z_getR fRX10_25 dX10_mixesChoices_49 (by first | assumption | rfl) (by rfl) ?_
        refine z_aload_n dX10_mixesChoices_52 rfl ?_
        refine z_getI fRX10_75 dX10_mixesChoices_53 (by first | assumption | rfl) (by rfl) ?_
        refine z_iload_n dX10_mixesChoices_56 rfl ?_
        have hl : loose (aqd A) q k = true := by
          have := hbit.mp hb
          simp [loose, this]
        have e8 : zup J 264 (5 * p + k) (nI k) 259 8 = nI (col (loose (aqd A) q) k).1 := by rw [zup_ne _ _ _ (by decide)]; exact a3
        rw [e8]
        refine z_iastN dX10_mixesChoices_57 m_row (rfl) (by omega) (by decide) ?_
        refine z_aload_n dX10_mixesChoices_58 rfl ?_
        refine z_dup dX10_mixesChoices_59 rfl ?_
        refine z_getI fRX10_75 dX10_mixesChoices_60 (by first | assumption | rfl) (by rfl) ?_
        refine z_iconst (v := 1) dX10_mixesChoices_63 rfl ?_
        refine z_iadd dX10_mixesChoices_64 ?_
        refine z_putI fRX10_75 dX10_mixesChoices_65 (by first | assumption | rfl) (by rfl) ?_
        refine z_inc3 (w := 1) dX10_mixesChoices_68 rfl (by decide) rfl ?_
        refine z_goto (tgt := 14) dX10_mixesChoices_71 (by decide) ?_
        have e9 : zup (zup J 264 (5 * p + k) (nI k)) 265 (col (loose (aqd A) q) k).1 (nI k) 259 8 = nI (col (loose (aqd A) q) k).1 := by rw [zup_ne _ _ _ (by decide)]; exact e8
        rw [e9, nI_1, nI_1]
        refine ih (k + 1) _ (by omega) (fun a q1 q2 q3 => by rw [zup_ne _ _ _ q1, zup_ne _ _ _ q3, zup_ne _ _ _ q2]; exact a1 a q1 q2 q3) (fun k q => by rw [zup_at, upd_ne _ _ q, zup_ne _ _ _ (by decide), zup_ne _ _ _ (by decide)]; exact a2 k q) (by rw [zup_at, upd_at, col_yes hl]) ?_ (fun j hj => by rw [zup_ne _ _ _ (by decide), zup_ne _ _ _ (by decide)]; exact b5 j hj) (fun j hj => by rw [zup_ne _ _ _ (by decide), zup_ne _ _ _ (by decide)]; exact b6 j hj)
        rw [zup_ne _ _ _ (by decide), zup_at, zup_ne _ _ _ (by decide), col_yes hl]
        intro j hj
        have hj2 : j < (col (loose (aqd A) q) k).1 + 1 := hj
        show upd _ _ _ j = nI (if j = (col (loose (aqd A) q) k).1 then k else (col (loose (aqd A) q) k).2 j)
        by_cases ej : j = (col (loose (aqd A) q) k).1
        · rw [if_pos ej, ej, upd_at]
        · rw [if_neg ej, upd_ne _ _ ej]
          exact a4 j (by omega)
  refine z_aload_n dX10_mixesChoices_0 rfl ?_
  refine z_getR fRX10_16 dX10_mixesChoices_1 (by first | assumption | rfl) (by rfl) ?_
  refine z_iload_n dX10_mixesChoices_4 rfl ?_
  refine z_ialdN dX10_mixesChoices_5 m_order (rfl) (hp) (by decide) ?_
  rw [hqp]
  refine z_ist2 dX10_mixesChoices_6 (by decide) rfl ?_
  refine z_aload_n dX10_mixesChoices_7 rfl ?_
  refine z_iconst (v := 0) dX10_mixesChoices_8 rfl ?_
  refine z_putI fRX10_75 dX10_mixesChoices_9 (by first | assumption | rfl) (by rfl) ?_
  refine z_iconst (v := 0) dX10_mixesChoices_12 rfl ?_
  refine z_ist3 dX10_mixesChoices_13 (by decide) rfl ?_
  refine loop1 (aqd A q 4) 0 _ (by omega) (fun a q1 q2 q3 => zup_ne _ _ _ q1) (fun k q => by rw [zup_at, upd_ne _ _ q]) (by rw [zup_at, upd_at]; rfl) (fun j hj => absurd hj (Nat.not_lt_zero j)) (fun j hj => absurd hj (Nat.not_lt_zero j)) (fun j hj => by rw [zup_ne _ _ _ (by decide)])

