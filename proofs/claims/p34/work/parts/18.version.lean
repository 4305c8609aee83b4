/-! ===== a version's mixing ===== -/
theorem s_mixChoices {I : ZI} {nq q p i : Nat} {qd : Qd} {y : Int32} (hQ : Qs I 2 nq qd) (hV : QV nq qd) (hp : PpAt p) (hp2 : 113 < p) (hy : y = nI i) (hi : i < 20) (hqi : I (p + 1 + 1) i = nI q) (hq : q < nq) :
    ZP yX3_mixChoices cX3_mixChoices 10 none 2 [.ref 105, .ref 2, .int y, .ref p] Sg I (fun r J => r = none ∧ (∀ a, a ≠ 106 → a ≠ 112 → a ≠ p + 7 + 1 → a ≠ p + 5 + 1 → J a = I a) ∧ J 106 0 = (mxL qd (I 106 0) q).1
      ∧ (∀ k, k < qd q 4 → J (p + 7 + 1) (5 * i + k) = nI (chq qd (I 106 0) q k)) ∧ (∀ j, (j < 5 * i ∨ 5 * i + qd q 4 ≤ j) → J (p + 7 + 1) j = I (p + 7 + 1) j)
      ∧ J (p + 5 + 1) i = nI (kyq (chq qd (I 106 0) q) (qd q 1) (qd q 4)) ∧ ∀ j, j ≠ i → J (p + 5 + 1) j = I (p + 5 + 1) j) := by
  have hn := hV.1
  have hq1 := at_q.1
  have hp0 := hp.1
  have hp1 := hp.2.1.1
  have hp3 := hp.2.2.2.1.1
  obtain ⟨v1, v2, v3, v4, v5, v6, v7⟩ := hV.2 q hq
  have hK : qd q 2 < 32 := Nat.lt_of_lt_of_le v6 (Nat.pow_le_pow_right (by decide) v4 : 2 ^ qd q 4 ≤ 2 ^ 5)
  have hcn := col_le (loose qd q) (qd q 4)
  have hon := chq_onto (qd := qd) (x := I 106 0) (q := q) v5
  have hml : ∀ k, chq qd (I 106 0) q k = if loose qd q k = true then (mxL qd (I 106 0) q).2 (col (loose qd q) k).1 else k := fun k => rfl
  subst hy
  generalize hch : chq qd (I 106 0) q = ch at hon hml ⊢
  generalize hg : (mxL qd (I 106 0) q).2 = g at hml
  generalize hx1 : (mxL qd (I 106 0) q).1 = x1
  have q57 : p + 5 + 1 ≠ p + 7 + 1 := by omega
  refine ZSp.of (own := RX3) (L := [.ref 105, .ref 2, .int (nI i), .ref p, zj, zj, zj, zj, zj, zj]) mX3_mixChoices rfl (List.all_eq_true.mp rfl) (Nat.le_of_ble_eq_true rfl) rfl (fun X hE hN => ?_)
  have loop : ∀ (m k : Nat) (J : ZI), k + m = qd q 4 → (∀ a, a ≠ 106 → a ≠ 112 → a ≠ p + 7 + 1 → a ≠ p + 5 + 1 → J a = I a) → J 106 0 = x1 → Rp (J 112) g (col (loose qd q) (qd q 4)).1
      → (∀ j, j < k → J (p + 7 + 1) (5 * i + j) = nI (ch j)) → (∀ j, (j < 5 * i ∨ 5 * i + k ≤ j) → J (p + 7 + 1) j = I (p + 7 + 1) j) → ((∃ j, j < k ∧ ch j = qd q 1) → J (p + 5 + 1) i = nI (kyq ch (qd q 1) k)) → (∀ j, j ≠ i → J (p + 5 + 1) j = I (p + 5 + 1) j)
      → (ZG X RX3 cX3_mixChoices 10 2 0 0 0 0 53 [.ref 105, .ref 2, .int (nI i), .ref p, .int (nI q), .int (nI (qd q 4)), .int (nI (qd q 2)), .int (nI (col (loose qd q) k).1), .int (nI k), zj] [] Sg J) := by
    intro m
    induction m with
    | zero =>
      intro k J hk a1 a2 a3 a4 a5 a6 a7
      have e : k = qd q 4 := by omega
      subst e
      refine z_iload dX3_mixChoices_53 rfl ?_
      refine z_iload dX3_mixChoices_55 rfl ?_
      refine z_icmp_ge (tgt := 125) dX3_mixChoices_57 (by decide) (fun _ => ?_) (fun hb => absurd (nI_le (Nat.le_refl _) (by omega)) hb)
      exact z_vret hE dX3_mixChoices_125 ⟨rfl, rfl, a1, a2, a4, a5, a6 hon, a7⟩
    | succ m ih =>
      intro k J hk a1 a2 a3 a4 a5 a6 a7
      have hbit := z_bit (qd q 2) hK k (by omega)
      have hQJ : ∀ J' : ZI, (∀ a, a ≠ 106 → a ≠ 112 → a ≠ p + 7 + 1 → a ≠ p + 5 + 1 → J' a = I a) → Qs J' 2 nq qd := fun J' h => hQ.keep (h _ (by decide) (by decide) (by omega) (by omega)) (h _ (by decide) (by decide) (by omega) (by omega))
      have tail : ∀ J' : ZI, (∀ a, a ≠ 106 → a ≠ 112 → a ≠ p + 7 + 1 → a ≠ p + 5 + 1 → J' a = I a) → J' 106 0 = x1 → Rp (J' 112) g (col (loose qd q) (qd q 4)).1
          → (∀ j, j < k + 1 → J' (p + 7 + 1) (5 * i + j) = nI (ch j)) → (∀ j, (j < 5 * i ∨ 5 * i + (k + 1) ≤ j) → J' (p + 7 + 1) j = I (p + 7 + 1) j) → ((∃ j, j < k + 1 ∧ ch j = qd q 1) → J' (p + 5 + 1) i = nI (kyq ch (qd q 1) (k + 1))) → (∀ j, j ≠ i → J' (p + 5 + 1) j = I (p + 5 + 1) j)
          → (ZG X RX3 cX3_mixChoices 10 2 0 0 0 0 119 [.ref 105, .ref 2, .int (nI i), .ref p, .int (nI q), .int (nI (qd q 4)), .int (nI (qd q 2)), .int (nI (col (loose qd q) (k + 1)).1), .int (nI k), .int (nI (ch k))] [] Sg J') := by
        intro J' b1 b2 b3 b4 b5 b6 b7
        refine z_inc8 (w := 1) dX3_mixChoices_119 rfl (by decide) rfl ?_
        refine z_goto (tgt := 53) dX3_mixChoices_122 (by decide) ?_
        refine z_fg9 ?_
        rw [nI_1]
        exact ih (k + 1) J' (by omega) b1 b2 b3 b4 b5 b6 b7
      have mid : (ZG X RX3 cX3_mixChoices 10 2 0 0 0 0 88 [.ref 105, .ref 2, .int (nI i), .ref p, .int (nI q), .int (nI (qd q 4)), .int (nI (qd q 2)), .int (nI (col (loose qd q) (k + 1)).1), .int (nI k), .int (nI (ch k))] [] Sg J) := by
        refine z_aload_n dX3_mixChoices_88 rfl ?_
        refine z_iload_n dX3_mixChoices_89 rfl ?_
        refine z_iload dX3_mixChoices_90 rfl ?_
        refine z_iload dX3_mixChoices_92 rfl ?_
        refine z_cV3n mX4_putChoice gRX3_89 dX3_mixChoices_94 (s_putChoice hp rfl rfl hi (show k < 5 by omega)) (by decide) (by first | assumption | rfl) (by rfl) (Nat.le_of_ble_eq_true rfl) (Nat.le_refl _) (Nat.le_refl _) ?_
        have b1 : ∀ a, a ≠ 106 → a ≠ 112 → a ≠ p + 7 + 1 → a ≠ p + 5 + 1 → zup J (p + 7 + 1) (5 * i + k) (nI (ch k)) a = I a := fun a h1 h2 h3 h4 => by rw [zup_ne _ _ _ h3, a1 a h1 h2 h3 h4]
        have b4 : ∀ j, j < k + 1 → zup J (p + 7 + 1) (5 * i + k) (nI (ch k)) (p + 7 + 1) (5 * i + j) = nI (ch j) := fun j hj => by
          rw [zup_at]
          by_cases hjk : j = k
          · rw [hjk, upd_at]
          · rw [upd_ne _ _ (by omega), a4 j (by omega)]
        have b5 : ∀ j, (j < 5 * i ∨ 5 * i + (k + 1) ≤ j) → zup J (p + 7 + 1) (5 * i + k) (nI (ch k)) (p + 7 + 1) j = I (p + 7 + 1) j := fun j hj => by rw [zup_at, upd_ne _ _ (by omega), a5 j (by omega)]
        refine z_iload dX3_mixChoices_97 rfl ?_
        refine z_aload_n dX3_mixChoices_99 rfl ?_
        refine z_iload dX3_mixChoices_100 rfl ?_
        refine z_iconst (v := 1) dX3_mixChoices_102 rfl ?_
        refine z_cV2s mX5_number gRX3_82 dX3_mixChoices_103 (s_number at_q (hQJ _ b1) hn rfl (show (1 : Int32) = nI 1 from rfl) hq (by decide)) (by decide) (by first | assumption | rfl) (by rfl) (Nat.le_of_ble_eq_true rfl) (Nat.le_refl _) (Nat.le_refl _) ?_
        have hck : ch k < 5 := by rw [← hch]; have := chq_lt (qd := qd) (x := I 106 0) (q := q) (k := k) (by omega); omega
        refine z_icmp_ne (tgt := 119) dX3_mixChoices_106 (by decide) (fun hb => ?_) (fun hb => ?_)
        · have hne : ch k ≠ qd q 1 := fun e => hb (by rw [e])
          refine tail _ b1 ?_ ?_ b4 b5 (fun h => ?_) (fun j hj => ?_)
          · rw [zup_ne _ _ _ (show 106 ≠ p + 7 + 1 by omega), a2]
          · rw [zup_ne _ _ _ (show 112 ≠ p + 7 + 1 by omega)]; exact a3
          · rw [zup_ne _ _ _ q57, kyq, if_neg hne]
            obtain ⟨j, h1, h2⟩ := h
            exact a6 ⟨j, by have e : j ≠ k := fun e => hne (e ▸ h2); omega, h2⟩
          · rw [zup_ne _ _ _ q57, a7 j hj]
        · refine z_aload_n dX3_mixChoices_109 rfl ?_
          refine z_getR fRX3_93 dX3_mixChoices_110 (by first | assumption | rfl) (by rfl) ?_
          refine z_iload_n dX3_mixChoices_113 rfl ?_
          refine z_iload dX3_mixChoices_114 rfl ?_
          have heq : ch k = qd q 1 := (nI_eq (by omega) (by omega)).mp hb
          refine z_cV2n mX6_set gRX3_68 dX3_mixChoices_116 (s_setN hp.2.2.2.1 rfl hi) (by decide) (by first | assumption | rfl) (by rfl) (Nat.le_of_ble_eq_true rfl) (Nat.le_refl _) (Nat.le_refl _) ?_
          refine tail _ (fun a h1 h2 h3 h4 => ?_) ?_ ?_ (fun j hj => ?_) (fun j hj => ?_) (fun h => ?_) (fun j hj => ?_)
          · rw [zup_ne _ _ _ h4, b1 a h1 h2 h3 h4]
          · rw [zup_ne _ _ _ (show 106 ≠ p + 5 + 1 by omega), zup_ne _ _ _ (show 106 ≠ p + 7 + 1 by omega), a2]
          · rw [zup_ne _ _ _ (show 112 ≠ p + 5 + 1 by omega), zup_ne _ _ _ (show 112 ≠ p + 7 + 1 by omega)]; exact a3
          · rw [zup_ne _ _ _ q57.symm, b4 j hj]
          · rw [zup_ne _ _ _ q57.symm, b5 j hj]
          · rw [zup_at, upd_at, kyq, if_pos heq]
          · rw [zup_at, upd_ne _ _ hj, zup_ne _ _ _ q57, a7 j hj]
      refine z_iload dX3_mixChoices_53 rfl ?_
      refine z_iload dX3_mixChoices_55 rfl ?_
      refine z_icmp_ge (tgt := 125) dX3_mixChoices_57 (by decide) (fun hb => absurd hb (nI_ge (by omega) (by omega))) (fun _ => ?_)
      refine z_iload dX3_mixChoices_60 rfl ?_
      refine z_ist9 dX3_mixChoices_62 (by decide) rfl ?_
      refine z_iload dX3_mixChoices_64 rfl ?_
      refine z_iload dX3_mixChoices_66 rfl ?_
      refine z_ishr dX3_mixChoices_68 ?_
      refine z_iconst (v := 1) dX3_mixChoices_69 rfl ?_
      refine z_iand dX3_mixChoices_70 ?_
      refine z_if_ne (tgt := 88) dX3_mixChoices_71 (by decide) (fun hb => ?_) (fun hb => ?_)
      · have hl : ¬ loose qd q k = true := fun h => hb (hbit.mpr (by simpa [loose] using h))
        have e1 : ch k = k := by rw [hml k, if_neg hl]
        rw [e1, col_no hl] at mid
        exact mid
      · refine z_aload_n dX3_mixChoices_74 rfl ?_
        refine z_getR fRX3_30 dX3_mixChoices_75 (by first | assumption | rfl) (by rfl) ?_
        refine z_iload dX3_mixChoices_78 rfl ?_
        have hl : loose qd q k = true := by
          have := hbit.mp hb
          simp [loose, this]
        have e1 : ch k = g (col (loose qd q) k).1 := by rw [hml k, if_pos hl]
        have hc1 : (col (loose qd q) k).1 + 1 ≤ (col (loose qd q) (qd q 4)).1 := by
          have := col_mono (loose qd q) (m := k + 1) (n := qd q 4) (by omega)
          rw [col_yes hl] at this
          exact this
        refine z_cV1s mX6_get gRX3_50 dX3_mixChoices_80 (s_getN at_loose rfl (show (col (loose qd q) k).1 < 5 by omega)) (by decide) (by first | assumption | rfl) (by rfl) (Nat.le_of_ble_eq_true rfl) (Nat.le_refl _) (Nat.le_refl _) ?_
        rw [show J (111 + 1) (col (loose qd q) k).1 = nI (ch k) by rw [e1]; exact a3 _ (by omega)]
        refine z_ist9 dX3_mixChoices_83 (by decide) rfl ?_
        refine z_inc7 (w := 1) dX3_mixChoices_85 rfl (by decide) rfl ?_
        rw [nI_1, show (col (loose qd q) k).1 + 1 = (col (loose qd q) (k + 1)).1 by rw [col_yes hl]]
        exact mid
  refine z_aload_n dX3_mixChoices_0 rfl ?_
  refine z_getR fRX3_79 dX3_mixChoices_1 (by first | assumption | rfl) (by rfl) ?_
  refine z_iload_n dX3_mixChoices_4 rfl ?_
  refine z_cV1s mX6_get gRX3_50 dX3_mixChoices_5 (s_getN hp.2.1 rfl hi) (by decide) (by first | assumption | rfl) (by rfl) (Nat.le_of_ble_eq_true rfl) (Nat.le_refl _) (Nat.le_refl _) ?_
  rw [hqi]
  refine z_ist4 dX3_mixChoices_8 (by decide) rfl ?_
  refine z_aload_n dX3_mixChoices_10 rfl ?_
  refine z_iload dX3_mixChoices_11 rfl ?_
  refine z_iconst (v := 4) dX3_mixChoices_13 rfl ?_
  refine z_cV2s mX5_number gRX3_82 dX3_mixChoices_14 (s_number at_q hQ hn rfl (show (4 : Int32) = nI 4 from rfl) hq (by decide)) (by decide) (by first | assumption | rfl) (by rfl) (Nat.le_of_ble_eq_true rfl) (Nat.le_refl _) (Nat.le_refl _) ?_
  refine z_ist5 dX3_mixChoices_17 (by decide) rfl ?_
  refine z_aload_n dX3_mixChoices_19 rfl ?_
  refine z_iload dX3_mixChoices_20 rfl ?_
  refine z_iconst (v := 2) dX3_mixChoices_22 rfl ?_
  refine z_cV2s mX5_number gRX3_82 dX3_mixChoices_23 (s_number at_q hQ hn rfl (show (2 : Int32) = nI 2 from rfl) hq (by decide)) (by decide) (by first | assumption | rfl) (by rfl) (Nat.le_of_ble_eq_true rfl) (Nat.le_refl _) (Nat.le_refl _) ?_
  refine z_ist6 dX3_mixChoices_26 (by decide) rfl ?_
  refine z_aload_n dX3_mixChoices_28 rfl ?_
  refine z_getR fRX3_12 dX3_mixChoices_29 (by first | assumption | rfl) (by rfl) ?_
  refine z_aload_n dX3_mixChoices_32 rfl ?_
  refine z_getR fRX3_30 dX3_mixChoices_33 (by first | assumption | rfl) (by rfl) ?_
  refine z_aload_n dX3_mixChoices_36 rfl ?_
  refine z_iload dX3_mixChoices_37 rfl ?_
  refine z_iload dX3_mixChoices_39 rfl ?_
  refine z_cV2p mX3_listLoose gRX3_86 dX3_mixChoices_41 (s_listLoose rfl rfl v4 hK rfl) (by decide) (by first | assumption | rfl) (by rfl) (Nat.le_of_ble_eq_true rfl) (Nat.le_refl _) (Nat.le_refl _) (fun r J hq => ?_)
  obtain ⟨rfl, hJ, hR⟩ := hq
  have hm := mix_rp ((col (loose qd q) (qd q 4)).1 - 1) (J 106 0) (J 112) (col (loose qd q) (qd q 4)).2 (col (loose qd q) (qd q 4)).1 (by omega) hR
  have e106 : J 106 0 = I 106 0 := by rw [hJ 106 (by decide)]
  rw [e106, show mixN ((col (loose qd q) (qd q 4)).1 - 1) (I 106 0, (col (loose qd q) (qd q 4)).2) = mxL qd (I 106 0) q from rfl, hg, hx1] at hm
  refine z_cV2n mX2_mix gRX3_40 dX3_mixChoices_44 (s_lotsMix at_lots at_loose (by decide) (show (col (loose qd q) (qd q 4)).1 ≤ 5 by omega) rfl J) (by decide) (by first | assumption | rfl) (by rfl) (Nat.le_of_ble_eq_true rfl) (Nat.le_refl _) (Nat.le_refl _) ?_
  rw [e106]
  refine z_iconst (v := 0) dX3_mixChoices_47 rfl ?_
  refine z_ist7 dX3_mixChoices_48 (by decide) rfl ?_
  refine z_iconst (v := 0) dX3_mixChoices_50 rfl ?_
  refine z_ist8 dX3_mixChoices_51 (by decide) rfl ?_
  refine loop (qd q 4) 0 _ (by omega) (fun a h1 h2 h3 h4 => ?_) ?_ ?_ (fun j hj => absurd hj (Nat.not_lt_zero j)) (fun j hj => ?_) (fun h => by obtain ⟨j, hj, -⟩ := h; exact absurd hj (Nat.not_lt_zero j)) (fun j hj => ?_)
  · rw [zup_ne _ _ _ h1, zcp_ne _ _ h2, hJ a h2]
  · rw [zup_at, upd_at]; exact hm.1
  · rw [zup_ne _ _ _ (by decide)]
    show Rp (zcp J 112 _ 112) g _
    rw [zcp_at]
    exact hm.2
  · rw [zup_ne _ _ _ (show p + 7 + 1 ≠ 106 by omega), zcp_ne _ _ (show p + 7 + 1 ≠ 111 + 1 by omega), hJ _ (by omega)]
  · rw [zup_ne _ _ _ (show p + 5 + 1 ≠ 106 by omega), zcp_ne _ _ (show p + 5 + 1 ≠ 111 + 1 by omega), hJ _ (by omega)]
/-- a paper is the version of the seed -/
def Pm (I : ZI) (p nq : Nat) (qd : Qd) (seed : Int32) : Prop := I p 5 = nI nq ∧ Rp (I (p + 1 + 1)) (Od nq qd seed) nq ∧ (∀ i, i < nq → I (p + 3 + 1) (Od nq qd seed i) = nI i) ∧ (∀ i, i < nq → ∀ k, k < qd (Od nq qd seed i) 4 → I (p + 7 + 1) (5 * i + k) = nI (Ch nq qd seed i k)) ∧ Rp (I (p + 5 + 1)) (Ky nq qd seed) nq
theorem s_mix {I : ZI} {nq p : Nat} {qd : Qd} {seed : Int32} (hQ : Qs I 2 nq qd) (hV : QV nq qd) (hp : PpAt p) (hp2 : 113 < p) :
    ZP yX3_mix cX3_mix 6 none 4 [.ref 105, .ref 2, .int seed, .ref p] Sg I (fun r J => r = none ∧ (∀ a, a ≠ 106 → a ≠ 108 → a ≠ 110 → a ≠ 112 → a ≠ p → a ≠ p + 1 + 1 → a ≠ p + 3 + 1 → a ≠ p + 5 + 1 → a ≠ p + 7 + 1 → J a = I a) ∧ (∀ k, k ≠ 5 → J p k = I p k) ∧ Pm J p nq qd seed) := by
  have hn := hV.1
  have hp0 := hp.1
  have hue := mxU_en nq qd seed
  have hoe := Od_en nq qd seed
  have h3n := Ord3_n nq qd seed
  have hcn := col_le (lead qd) nq
  have q1 : p ≠ p + 1 + 1 := by omega
  have q2 : p ≠ p + 3 + 1 := by omega
  have q3 : p + 1 + 1 ≠ p + 3 + 1 := by omega
  have q5 : p + 1 + 1 ≠ p + 5 + 1 := by omega
  have q6 : p + 3 + 1 ≠ p + 5 + 1 := by omega
  have q7 : p + 5 + 1 ≠ p + 7 + 1 := by omega
  refine ZSp.of (own := RX3) (L := [.ref 105, .ref 2, .int seed, .ref p, zj, zj]) mX3_mix rfl (List.all_eq_true.mp rfl) (Nat.le_of_ble_eq_true rfl) rfl (fun X hE hN => ?_)
  have loop2 : ∀ (n i : Nat) (m : Int32) (J : ZI), i + n = nq → (∀ a, a ≠ 106 → a ≠ 108 → a ≠ 110 → a ≠ 112 → a ≠ p → a ≠ p + 1 + 1 → a ≠ p + 3 + 1 → a ≠ p + 5 + 1 → a ≠ p + 7 + 1 → J a = I a) → (∀ k, k ≠ 5 → J p k = I p k) → J p 5 = nI nq → Rp (J (p + 1 + 1)) (Od nq qd seed) nq → (∀ j, j < nq → J (p + 3 + 1) (Od nq qd seed j) = nI j)
      → J 106 0 = Xs nq qd seed i → (∀ j, j < i → ∀ k, k < qd (Od nq qd seed j) 4 → J (p + 7 + 1) (5 * j + k) = nI (Ch nq qd seed j k)) → (∀ j, j < i → J (p + 5 + 1) j = nI (Ky nq qd seed j)) → (ZG X RX3 cX3_mix 6 4 0 0 0 0 67 [.ref 105, .ref 2, .int seed, .ref p, .int m, .int (nI i)] [] Sg J) := by
    intro n
    induction n with
    | zero =>
      intro i m J hi a1 a2 a3 a4 a5 a6 a7 a8
      have e : i = nq := by omega
      subst e
      refine z_iload dX3_mix_67 rfl ?_
      refine z_aload_n dX3_mix_69 rfl ?_
      refine z_getI fRX3_44 dX3_mix_70 (by first | assumption | rfl) (by rfl) ?_
      refine z_icmp_ge (tgt := 90) dX3_mix_73 (by decide) (fun _ => ?_) (fun hb => absurd (by rw [a3]; exact nI_le (Nat.le_refl _) (by omega)) hb)
      exact z_vret hE dX3_mix_90 ⟨rfl, rfl, a1, a2, a3, a4, a5, a7, a8⟩
    | succ n ih =>
      intro i m J hi a1 a2 a3 a4 a5 a6 a7 a8
      have hQJ : Qs J 2 nq qd := hQ.keep (a1 _ (by decide) (by decide) (by decide) (by decide) (by omega) (by omega) (by omega) (by omega) (by omega)) (a1 _ (by decide) (by decide) (by decide) (by decide) (by omega) (by omega) (by omega) (by omega) (by omega))
      have hO := hoe.1 i (by omega)
      refine z_iload dX3_mix_67 rfl ?_
      refine z_aload_n dX3_mix_69 rfl ?_
      refine z_getI fRX3_44 dX3_mix_70 (by first | assumption | rfl) (by rfl) ?_
      refine z_icmp_ge (tgt := 90) dX3_mix_73 (by decide) (fun hb => absurd hb (by rw [a3]; exact nI_ge (by omega) (by omega))) (fun _ => ?_)
      refine z_aload_n dX3_mix_76 rfl ?_
      refine z_aload_n dX3_mix_77 rfl ?_
      refine z_iload dX3_mix_78 rfl ?_
      refine z_aload_n dX3_mix_80 rfl ?_
      refine z_cV3p mX3_mixChoices gRX3_58 dX3_mix_81 (s_mixChoices hQJ hV hp hp2 rfl (show i < 20 by omega) (a4 i (by omega)) hO) (by decide) (by first | assumption | rfl) (by rfl) (Nat.le_of_ble_eq_true rfl) (Nat.le_refl _) (Nat.le_refl _) (fun r J hq => ?_)
      obtain ⟨rfl, b1, b2, b3, b4, b5, b6⟩ := hq
      refine z_inc5 (w := 1) dX3_mix_84 rfl (by decide) rfl ?_
      refine z_goto (tgt := 67) dX3_mix_87 (by decide) ?_
      rw [nI_1]
      have hO5 := (hV.2 _ hO).2.2.2.1
      refine ih (i + 1) m _ (by omega) (fun a h1 h2 h3 h4 h5 h6 h7 h8 h9 => ?_) (fun k hk => ?_) ?_ ?_ (fun j hj => ?_) ?_ (fun j hj k hk => ?_) (fun j hj => ?_)
      · rw [b1 a h1 h4 h9 h8, a1 a h1 h2 h3 h4 h5 h6 h7 h8 h9]
      · rw [b1 p (by omega) (by omega) (by omega) (by omega), a2 k hk]
      · rw [b1 p (by omega) (by omega) (by omega) (by omega), a3]
      · rw [b1 (p + 1 + 1) (by omega) (by omega) (by omega) (by omega)]; exact a4
      · rw [b1 (p + 3 + 1) (by omega) (by omega) (by omega) (by omega), a5 j hj]
      · rw [b2, a6]; rfl
      · by_cases hji : j = i
        · subst hji
          rw [b3 k hk, a6]; rfl
        · have hOj := hoe.1 j (by omega)
          have hOj5 := (hV.2 _ hOj).2.2.2.1
          rw [b4 _ (by omega), a7 j (by omega) k hk]
      · by_cases hji : j = i
        · subst hji
          rw [b5, a6]; rfl
        · rw [b6 j hji, a8 j (by omega)]
  have loop1 : ∀ (n i : Nat) (J : ZI), i + n = (col (lead qd) nq).1 → (∀ a, a ≠ 106 → a ≠ 108 → a ≠ 110 → a ≠ p → a ≠ p + 1 + 1 → a ≠ p + 3 + 1 → J a = I a) → (∀ k, k ≠ 5 → J p k = I p k) → Rp (J 108) (mxU nq qd seed).2 (col (lead qd) nq).1
      → J 106 0 = (mxO nq qd (mxU nq qd seed).2 (mxU nq qd seed).1 i).1 → J p 5 = nI (mxO nq qd (mxU nq qd seed).2 (mxU nq qd seed).1 i).2.1 → Rp (J (p + 1 + 1)) (mxO nq qd (mxU nq qd seed).2 (mxU nq qd seed).1 i).2.2 (mxO nq qd (mxU nq qd seed).2 (mxU nq qd seed).1 i).2.1
      → (∀ j, j < (mxO nq qd (mxU nq qd seed).2 (mxU nq qd seed).1 i).2.1 → J (p + 3 + 1) ((mxO nq qd (mxU nq qd seed).2 (mxU nq qd seed).1 i).2.2 j) = nI j) → (ZG X RX3 cX3_mix 6 4 0 0 0 0 36 [.ref 105, .ref 2, .int seed, .ref p, .int (nI (col (lead qd) nq).1), .int (nI i)] [] Sg J) := by
    intro n
    induction n with
    | zero =>
      intro i J hi a1 a2 a3 a4 a5 a6 a7
      have e : i = (col (lead qd) nq).1 := by omega
      subst e
      refine z_iload dX3_mix_36 rfl ?_
      refine z_iload dX3_mix_38 rfl ?_
      refine z_icmp_ge (tgt := 64) dX3_mix_40 (by decide) (fun _ => ?_) (fun hb => absurd (nI_le (Nat.le_refl _) (by omega)) hb)
      refine z_iconst (v := 0) dX3_mix_64 rfl ?_
      refine z_ist5 dX3_mix_65 (by decide) rfl ?_
      have e3 : (mxO nq qd (mxU nq qd seed).2 (mxU nq qd seed).1 (col (lead qd) nq).1).2.1 = nq := h3n
      rw [e3] at a5 a6 a7
      exact loop2 nq 0 _ J (by omega) (fun a h1 h2 h3 h4 h5 h6 h7 h8 h9 => a1 a h1 h2 h3 h5 h6 h7) a2 a5 a6 a7 a4 (fun j hj => absurd hj (Nat.not_lt_zero j)) (fun j hj => absurd hj (Nat.not_lt_zero j))
    | succ n ih =>
      intro i J hi a1 a2 a3 a4 a5 a6 a7
      have hQJ : Qs J 2 nq qd := hQ.keep (a1 _ (by decide) (by decide) (by decide) (by omega) (by omega) (by omega)) (a1 _ (by decide) (by decide) (by decide) (by omega) (by omega) (by omega))
      have hu := hue.1 i (by omega)
      have en1 := mxO_en (x := (mxU nq qd seed).1) hue (i + 1) (by omega)
      have hle : (mxO nq qd (mxU nq qd seed).2 (mxU nq qd seed).1 (i + 1)).2.1 ≤ nq := fb_holes nq _ _ (fun k hk => (en1.1 k hk).1) en1.2.2
      have hst : mxO nq qd (mxU nq qd seed).2 (mxU nq qd seed).1 (i + 1) = ((mxM nq qd (mxO nq qd (mxU nq qd seed).2 (mxU nq qd seed).1 i).1 ((mxU nq qd seed).2 i)).1, (mxO nq qd (mxU nq qd seed).2 (mxU nq qd seed).1 i).2.1 + (col (tog qd ((mxU nq qd seed).2 i)) nq).1, fun p => if p < (mxO nq qd (mxU nq qd seed).2 (mxU nq qd seed).1 i).2.1 then (mxO nq qd (mxU nq qd seed).2 (mxU nq qd seed).1 i).2.2 p else (mxM nq qd (mxO nq qd (mxU nq qd seed).2 (mxU nq qd seed).1 i).1 ((mxU nq qd seed).2 i)).2 (p - (mxO nq qd (mxU nq qd seed).2 (mxU nq qd seed).1 i).2.1)) := rfl
      have hih := ih (i + 1)
      rw [hst] at hle hih en1
      generalize mxO nq qd (mxU nq qd seed).2 (mxU nq qd seed).1 i = M at a4 a5 a6 a7 hle hih en1
      obtain ⟨x, pl, o⟩ := M
      have a4 : J 106 0 = x := a4
      have a5 : J p 5 = nI pl := a5
      have a6 : Rp (J (p + 1 + 1)) o pl := a6
      have a7 : ∀ j, j < pl → J (p + 3 + 1) (o j) = nI j := a7
      have hle : pl + (col (tog qd ((mxU nq qd seed).2 i)) nq).1 ≤ nq := hle
      refine z_iload dX3_mix_36 rfl ?_
      refine z_iload dX3_mix_38 rfl ?_
      refine z_icmp_ge (tgt := 64) dX3_mix_40 (by decide) (fun hb => absurd hb (nI_ge (by omega) (by omega))) (fun _ => ?_)
      refine z_aload_n dX3_mix_43 rfl ?_
      refine z_aload_n dX3_mix_44 rfl ?_
      refine z_aload_n dX3_mix_45 rfl ?_
      refine z_getR fRX3_23 dX3_mix_46 (by first | assumption | rfl) (by rfl) ?_
      refine z_iload dX3_mix_49 rfl ?_
      refine z_cV1s mX6_get gRX3_50 dX3_mix_51 (s_getN at_units rfl (show i < 20 by omega)) (by decide) (by first | assumption | rfl) (by rfl) (Nat.le_of_ble_eq_true rfl) (Nat.le_refl _) (Nat.le_refl _) ?_
      rw [show J (107 + 1) i = nI ((mxU nq qd seed).2 i) from a3 i (by omega)]
      refine z_aload_n dX3_mix_54 rfl ?_
      refine z_cV3p mX3_mixUnit gRX3_54 dX3_mix_55 (s_mixUnit hQJ hV hp hp2 rfl hu.1 hu.2 a5 (by omega)) (by decide) (by first | assumption | rfl) (by rfl) (Nat.le_of_ble_eq_true rfl) (Nat.le_refl _) (Nat.le_refl _) (fun r J hq => ?_)
      obtain ⟨rfl, b1, b2, b3, b4, b5, b6, b7, b8⟩ := hq
      refine z_inc5 (w := 1) dX3_mix_58 rfl (by decide) rfl ?_
      refine z_goto (tgt := 36) dX3_mix_61 (by decide) ?_
      rw [nI_1]
      rw [a4] at b2 b5 b7 b8
      generalize (mxU nq qd seed).2 i = u at *
      generalize (col (tog qd u) nq).1 = c at *
      generalize mxM nq qd x u = MM at *
      obtain ⟨x', g⟩ := MM
      have en1 : En (fun p => if p < pl then o p else g (p - pl)) (pl + c) _ := en1
      have f1 : ∀ p, p < pl → (fun p => if p < pl then o p else g (p - pl)) p = o p := fun p h => if_pos h
      have f2 : ∀ p, ¬ p < pl → (fun p => if p < pl then o p else g (p - pl)) p = g (p - pl) := fun p h => if_neg h
      refine hih _ (by omega) (fun a h1 h2 h3 h4 h5 h6 => ?_) (fun k hk => ?_) ?_ b2 b3 (fun j hj => ?_) (fun j hj => ?_)
      · rw [b1 a h1 h3 h4 h5 h6, a1 a h1 h2 h3 h4 h5 h6]
      · rw [b4 k hk, a2 k hk]
      · rw [b1 108 (by decide) (by decide) (by omega) (by omega) (by omega)]; exact a3
      · have hj : j < pl + c := hj
        show _ = nI (if j < pl then o j else g (j - pl))
        by_cases h1 : j < pl
        · rw [if_pos h1, b6 j h1, a6 j h1]
        · rw [if_neg h1]
          have := b5 (j - pl) (by omega)
          rw [show pl + (j - pl) = j by omega] at this
          exact this
      · have hj : j < pl + c := hj
        by_cases h1 : j < pl
        · refine (congrArg (J (p + 3 + 1)) (if_pos h1 : (if j < pl then o j else g (j - pl)) = o j)).trans ?_
          rw [b8 (o j) (fun k hk e => ?_), a7 j h1]
          have e1 := f1 j h1
          have e2 := f2 (pl + k) (by omega)
          rw [Nat.add_sub_cancel_left] at e2
          have := en1.inj (k := j) (l := pl + k) hj (by omega) (e1.trans ((show o j = g k from e.symm).trans e2.symm))
          omega
        · refine (congrArg (J (p + 3 + 1)) (if_neg h1 : (if j < pl then o j else g (j - pl)) = g (j - pl))).trans ?_
          have := b7 (j - pl) (by omega)
          rw [show pl + (j - pl) = j by omega] at this
          exact this
  refine z_aload_n dX3_mix_0 rfl ?_
  refine z_getR fRX3_12 dX3_mix_1 (by first | assumption | rfl) (by rfl) ?_
  refine z_iload_n dX3_mix_4 rfl ?_
  refine z_cV1n mX2_begin gRX3_33 dX3_mix_5 (s_begin at_lots) (by decide) (by first | assumption | rfl) (by rfl) (Nat.le_of_ble_eq_true rfl) (Nat.le_refl _) (Nat.le_refl _) ?_
  refine z_aload_n dX3_mix_8 rfl ?_
  refine z_aload_n dX3_mix_9 rfl ?_
  refine z_cV1p mX3_listUnits gRX3_36 dX3_mix_10 (s_listUnits (hQ.keep (zup_ne _ _ _ (by decide)) (zup_ne _ _ _ (by decide))) hV) (by decide) (by first | assumption | rfl) (by rfl) (Nat.le_of_ble_eq_true rfl) (Nat.le_refl _) (Nat.le_refl _) (fun r J hq => ?_)
  obtain ⟨rfl, hJ, hR⟩ := hq
  refine z_ist4 dX3_mix_13 (by decide) rfl ?_
  refine z_aload_n dX3_mix_15 rfl ?_
  refine z_getR fRX3_12 dX3_mix_16 (by first | assumption | rfl) (by rfl) ?_
  refine z_aload_n dX3_mix_19 rfl ?_
  refine z_getR fRX3_23 dX3_mix_20 (by first | assumption | rfl) (by rfl) ?_
  refine z_iload dX3_mix_23 rfl ?_
  have hm := mix_rp ((col (lead qd) nq).1 - 1) (J 106 0) (J 108) (col (lead qd) nq).2 (col (lead qd) nq).1 (by omega) hR
  have e106 : J 106 0 = seed := by rw [hJ 106 (by decide), zup_at, upd_at]
  rw [e106, show mixN ((col (lead qd) nq).1 - 1) (seed, (col (lead qd) nq).2) = mxU nq qd seed from rfl] at hm
  refine z_cV2n mX2_mix gRX3_40 dX3_mix_25 (s_lotsMix at_lots at_units (by decide) (show (col (lead qd) nq).1 ≤ 20 by omega) rfl J) (by decide) (by first | assumption | rfl) (by rfl) (Nat.le_of_ble_eq_true rfl) (Nat.le_refl _) (Nat.le_refl _) ?_
  rw [e106]
  refine z_aload_n dX3_mix_28 rfl ?_
  refine z_iconst (v := 0) dX3_mix_29 rfl ?_
  refine z_putI fRX3_44 dX3_mix_30 (by first | assumption | rfl) (by rfl) ?_
  refine z_iconst (v := 0) dX3_mix_33 rfl ?_
  refine z_ist5 dX3_mix_34 (by decide) rfl ?_
  refine loop1 (col (lead qd) nq).1 0 _ (by omega) (fun a h1 h2 h3 h4 h5 h6 => ?_) (fun k hk => ?_) ?_ ?_ ?_ (fun j hj => absurd hj (Nat.not_lt_zero j)) (fun j hj => absurd hj (Nat.not_lt_zero j))
  · rw [zup_ne _ _ _ h4, zup_ne _ _ _ h1, zcp_ne _ _ h2, hJ a h2, zup_ne _ _ _ h1]
  · rw [zup_at, upd_ne _ _ hk, zup_ne _ _ _ (show p ≠ 106 by omega), zcp_ne _ _ (show p ≠ 107 + 1 by omega), hJ p (by omega), zup_ne _ _ _ (show p ≠ 106 by omega)]
  · rw [zup_ne _ _ _ (show 108 ≠ p by omega), zup_ne _ _ _ (by decide)]
    show Rp (zcp J 108 _ 108) _ _
    rw [zcp_at]
    exact hm.2
  · rw [zup_ne _ _ _ (show 106 ≠ p by omega), zup_at, upd_at]
    exact hm.1
  · rw [zup_at, upd_at]
    rfl

