/-! ===== a unit's and a question's mixing ===== -/
theorem s_mixUnit {I : ZI} {nq u p pl : Nat} {qd : Qd} {y : Int32} (hQ : Qs I 2 nq qd) (hV : QV nq qd) (hp : PpAt p) (hp2 : 113 < p) (hy : y = nI u) (hu : u < nq) (hl : lead qd u = true) (hpl : I p 5 = nI pl) (hpc : pl + (col (tog qd u) nq).1 ≤ 20) :
    ZP yX3_mixUnit cX3_mixUnit 6 none 3 [.ref 105, .ref 2, .int y, .ref p] Sg I (fun r J => r = none ∧ (∀ a, a ≠ 106 → a ≠ 110 → a ≠ p → a ≠ p + 1 + 1 → a ≠ p + 3 + 1 → J a = I a) ∧ J 106 0 = (mxM nq qd (I 106 0) u).1 ∧ J p 5 = nI (pl + (col (tog qd u) nq).1) ∧ (∀ k, k ≠ 5 → J p k = I p k)
      ∧ (∀ i, i < (col (tog qd u) nq).1 → J (p + 1 + 1) (pl + i) = nI ((mxM nq qd (I 106 0) u).2 i)) ∧ (∀ i, i < pl → J (p + 1 + 1) i = I (p + 1 + 1) i)
      ∧ (∀ i, i < (col (tog qd u) nq).1 → J (p + 3 + 1) ((mxM nq qd (I 106 0) u).2 i) = nI (pl + i)) ∧ ∀ q, (∀ i, i < (col (tog qd u) nq).1 → (mxM nq qd (I 106 0) u).2 i ≠ q) → J (p + 3 + 1) q = I (p + 3 + 1) q) := by
  have hn := hV.1
  have hq1 := at_q.1
  have hcn := col_le (tog qd u) nq
  have hen := mxM_en nq qd (I 106 0) u
  have hp0 := hp.1
  subst hy
  generalize hg : (mxM nq qd (I 106 0) u).2 = g at hen ⊢
  generalize hx1 : (mxM nq qd (I 106 0) u).1 = x1
  generalize hc : (col (tog qd u) nq).1 = c at hcn hen hpc ⊢
  refine ZSp.of (own := RX3) (L := [.ref 105, .ref 2, .int (nI u), .ref p, zj, zj]) mX3_mixUnit rfl (List.all_eq_true.mp rfl) (Nat.le_of_ble_eq_true rfl) rfl (fun X hE hN => ?_)
  have loop2 : ∀ (n i : Nat) (J : ZI), i + n = c → (∀ a, a ≠ 106 → a ≠ 110 → a ≠ p → a ≠ p + 1 + 1 → a ≠ p + 3 + 1 → J a = I a) → J 106 0 = x1 → Rp (J 110) g c → J p 5 = nI (pl + i) → (∀ k, k ≠ 5 → J p k = I p k)
      → (∀ j, j < i → J (p + 1 + 1) (pl + j) = nI (g j)) → (∀ j, j < pl → J (p + 1 + 1) j = I (p + 1 + 1) j) → (∀ j, j < i → J (p + 3 + 1) (g j) = nI (pl + j)) → (∀ q, (∀ j, j < i → g j ≠ q) → J (p + 3 + 1) q = I (p + 3 + 1) q) → (ZG X RX3 cX3_mixUnit 6 3 0 0 0 0 61 [.ref 105, .ref 2, .int (nI u), .ref p, .int (nI c), .int (nI i)] [] Sg J) := by
    intro n
    induction n with
    | zero =>
      intro i J hi a1 a2 a3 a4 a5 a6 a7 a8 a9
      have e : i = c := by omega
      subst e
      refine z_iload dX3_mixUnit_61 rfl ?_
      refine z_iload dX3_mixUnit_63 rfl ?_
      refine z_icmp_ge (tgt := 87) dX3_mixUnit_65 (by decide) (fun _ => ?_) (fun hb => absurd (nI_le (Nat.le_refl _) (by omega)) hb)
      exact z_vret hE dX3_mixUnit_87 ⟨rfl, rfl, a1, a2, a4, a5, a6, a7, a8, a9⟩
    | succ n ih =>
      intro i J hi a1 a2 a3 a4 a5 a6 a7 a8 a9
      refine z_iload dX3_mixUnit_61 rfl ?_
      refine z_iload dX3_mixUnit_63 rfl ?_
      refine z_icmp_ge (tgt := 87) dX3_mixUnit_65 (by decide) (fun hb => absurd hb (nI_ge (by omega) (by omega))) (fun _ => ?_)
      refine z_aload_n dX3_mixUnit_68 rfl ?_
      refine z_aload_n dX3_mixUnit_69 rfl ?_
      refine z_getR fRX3_27 dX3_mixUnit_70 (by first | assumption | rfl) (by rfl) ?_
      refine z_iload dX3_mixUnit_73 rfl ?_
      refine z_cV1s mX6_get gRX3_50 dX3_mixUnit_75 (s_getN at_members rfl (show i < 20 by omega)) (by decide) (by first | assumption | rfl) (by rfl) (Nat.le_of_ble_eq_true rfl) (Nat.le_refl _) (Nat.le_refl _) ?_
      rw [show J (109 + 1) i = nI (g i) from a3 i (by omega)]
      have hgi := (hen.1 i (by omega)).1
      refine z_cV1n mX4_append gRX3_76 dX3_mixUnit_78 (s_pAppend hp a4 (by omega) rfl (by omega)) (by decide) (by first | assumption | rfl) (by rfl) (Nat.le_of_ble_eq_true rfl) (Nat.le_refl _) (Nat.le_refl _) ?_
      refine z_inc5 (w := 1) dX3_mixUnit_81 rfl (by decide) rfl ?_
      refine z_goto (tgt := 61) dX3_mixUnit_84 (by decide) ?_
      rw [nI_1]
      have q1 : p ≠ p + 1 + 1 := by omega
      have q2 : p ≠ p + 3 + 1 := by omega
      have q3 : p + 1 + 1 ≠ p + 3 + 1 := by omega
      refine ih (i + 1) _ (by omega) (fun a h1 h2 h3 h4 h5 => ?_) ?_ ?_ ?_ (fun k hk => ?_) (fun j hj => ?_) (fun j hj => ?_) (fun j hj => ?_) (fun q hq => ?_)
      · rw [zup_ne _ _ _ h3, zup_ne _ _ _ h5, zup_ne _ _ _ h4, a1 a h1 h2 h3 h4 h5]
      · rw [zup_ne _ _ _ (show 106 ≠ p by omega), zup_ne _ _ _ (show 106 ≠ p + 3 + 1 by omega), zup_ne _ _ _ (show 106 ≠ p + 1 + 1 by omega), a2]
      · rw [zup_ne _ _ _ (show 110 ≠ p by omega), zup_ne _ _ _ (show 110 ≠ p + 3 + 1 by omega), zup_ne _ _ _ (show 110 ≠ p + 1 + 1 by omega)]
        exact a3
      · rw [zup_at, upd_at]
        rfl
      · rw [zup_at, upd_ne _ _ hk, zup_ne _ _ _ q2, zup_ne _ _ _ q1, a5 k hk]
      · rw [zup_ne _ _ _ q1.symm, zup_ne _ _ _ q3, zup_at]
        by_cases hji : j = i
        · rw [hji, upd_at]
        · rw [upd_ne _ _ (by omega), a6 j (by omega)]
      · rw [zup_ne _ _ _ q1.symm, zup_ne _ _ _ q3, zup_at, upd_ne _ _ (by omega), a7 j hj]
      · rw [zup_ne _ _ _ q2.symm, zup_at]
        by_cases hji : j = i
        · rw [hji, upd_at]
        · rw [upd_ne _ _ (fun e => hji (hen.inj (by omega) (by omega) e)), zup_ne _ _ _ q3.symm, a8 j (by omega)]
      · rw [zup_ne _ _ _ q2.symm, zup_at, upd_ne _ _ (fun e => hq i (Nat.lt_succ_self i) e.symm), zup_ne _ _ _ q3.symm]
        exact a9 q (fun j hj => hq j (by omega))
  have loop1 : ∀ (n k : Nat) (J : ZI), k + n = nq → u ≤ k → (∀ a, a ≠ 110 → J a = I a) → Rp (J 110) (col (tog qd u) k).2 (col (tog qd u) k).1 → (ZG X RX3 cX3_mixUnit 6 3 0 0 0 0 6 [.ref 105, .ref 2, .int (nI u), .ref p, .int (nI (col (tog qd u) k).1), .int (nI k)] [] Sg J) := by
    intro n
    induction n with
    | zero =>
      intro k J hk huk hJ hR
      have e : k = nq := by omega
      subst e
      refine z_iload dX3_mixUnit_6 rfl ?_
      refine z_aload_n dX3_mixUnit_8 rfl ?_
      refine z_getI fRX3_61 dX3_mixUnit_9 (by first | assumption | rfl) (by rfl) ?_
      refine z_icmp_ge (tgt := 45) dX3_mixUnit_12 (by decide) (fun _ => ?_) (fun hb => absurd (by rw [hJ 2 (by decide), hQ.1]; exact nI_le (Nat.le_refl _) (by omega)) hb)
      refine z_aload_n dX3_mixUnit_45 rfl ?_
      refine z_getR fRX3_12 dX3_mixUnit_46 (by first | assumption | rfl) (by rfl) ?_
      refine z_aload_n dX3_mixUnit_49 rfl ?_
      refine z_getR fRX3_27 dX3_mixUnit_50 (by first | assumption | rfl) (by rfl) ?_
      refine z_iload dX3_mixUnit_53 rfl ?_
      have hm := mix_rp ((col (tog qd u) k).1 - 1) (J 106 0) (J 110) (col (tog qd u) k).2 (col (tog qd u) k).1 (by omega) hR
      rw [hJ 106 (by decide), show mixN ((col (tog qd u) k).1 - 1) (I 106 0, (col (tog qd u) k).2) = mxM k qd (I 106 0) u from rfl, hg, hx1, hc] at hm
      have e106 : J 106 0 = I 106 0 := by rw [hJ 106 (by decide)]
      refine z_cV2n mX2_mix gRX3_40 dX3_mixUnit_55 (s_lotsMix at_lots at_members (by decide) (show (col (tog qd u) k).1 ≤ 20 by omega) rfl J) (by decide) (by first | assumption | rfl) (by rfl) (Nat.le_of_ble_eq_true rfl) (Nat.le_refl _) (Nat.le_refl _) ?_
      rw [hc, e106]
      refine z_iconst (v := 0) dX3_mixUnit_58 rfl ?_
      refine z_ist5 dX3_mixUnit_59 (by decide) rfl ?_
      have q3 : p + 1 + 1 ≠ p + 3 + 1 := by omega
      refine loop2 c 0 _ (by omega) (fun a h1 h2 h3 h4 h5 => ?_) ?_ ?_ ?_ (fun k hk => ?_) (fun j hj => absurd hj (Nat.not_lt_zero j)) (fun j hj => ?_) (fun j hj => absurd hj (Nat.not_lt_zero j)) (fun q hq => ?_)
      · rw [zup_ne _ _ _ h1, zcp_ne _ _ h2, hJ a h2]
      · rw [zup_at, upd_at]
        exact hm.1
      · rw [zup_ne _ _ _ (by decide)]
        show Rp (zcp J 110 _ 110) g c
        rw [zcp_at]
        exact hm.2
      · rw [zup_ne _ _ _ (show p ≠ 106 by omega), zcp_ne _ _ (show p ≠ 109 + 1 by omega), hJ p (by omega)]
        exact hpl
      · rw [zup_ne _ _ _ (show p ≠ 106 by omega), zcp_ne _ _ (show p ≠ 109 + 1 by omega), hJ p (by omega)]
      · rw [zup_ne _ _ _ (show p + 1 + 1 ≠ 106 by omega), zcp_ne _ _ (show p + 1 + 1 ≠ 109 + 1 by omega), hJ _ (by omega)]
      · rw [zup_ne _ _ _ (show p + 3 + 1 ≠ 106 by omega), zcp_ne _ _ (show p + 3 + 1 ≠ 109 + 1 by omega), hJ _ (by omega)]
    | succ n ih =>
      intro k J hk huk hJ hR
      have hQJ : Qs J 2 nq qd := hQ.keep (hJ _ (by decide)) (hJ _ (by decide))
      refine z_iload dX3_mixUnit_6 rfl ?_
      refine z_aload_n dX3_mixUnit_8 rfl ?_
      refine z_getI fRX3_61 dX3_mixUnit_9 (by first | assumption | rfl) (by rfl) ?_
      refine z_icmp_ge (tgt := 45) dX3_mixUnit_12 (by decide) (fun hb => absurd hb (by rw [hJ 2 (by decide), hQ.1]; exact nI_ge (by omega) (by omega))) (fun _ => ?_)
      refine z_aload_n dX3_mixUnit_15 rfl ?_
      refine z_iload_n dX3_mixUnit_16 rfl ?_
      refine z_iload dX3_mixUnit_17 rfl ?_
      refine z_cV2s mX5_together gRX3_72 dX3_mixUnit_19 (s_together at_q hQJ hV rfl rfl hu (show k < nq by omega)) (by decide) (by first | assumption | rfl) (by rfl) (Nat.le_of_ble_eq_true rfl) (Nat.le_refl _) (Nat.le_refl _) ?_
      refine z_if_eq (tgt := 39) dX3_mixUnit_22 (by decide) (fun hb => ?_) (fun hb => ?_)
      · refine z_inc5 (w := 1) dX3_mixUnit_39 rfl (by decide) rfl ?_
        refine z_goto (tgt := 6) dX3_mixUnit_42 (by decide) ?_
        have hl : ¬ tog qd u k = true := fun h => by rw [if_pos h] at hb; exact absurd hb (by decide)
        rw [nI_1]
        refine (congrArg (fun z => (ZG X RX3 cX3_mixUnit 6 3 0 0 0 0 6 [.ref 105, .ref 2, .int (nI u), .ref p, .int (nI z), .int (nI (k + 1))] [] Sg J)) (show (col (tog qd u) k).1 = (col (tog qd u) (k + 1)).1 by rw [col_no hl])).mpr ?_
        exact ih (k + 1) J (by omega) (by omega) hJ (by rw [col_no hl]; exact hR)
      · refine z_aload_n dX3_mixUnit_25 rfl ?_
        refine z_getR fRX3_27 dX3_mixUnit_26 (by first | assumption | rfl) (by rfl) ?_
        refine z_iload dX3_mixUnit_29 rfl ?_
        refine z_iload dX3_mixUnit_31 rfl ?_
        have hl : tog qd u k = true := by
          by_cases h : tog qd u k = true
          · exact h
          · rw [if_neg h] at hb; exact absurd rfl hb
        have hc2 : (col (tog qd u) k).1 < 20 := by have := col_le (tog qd u) k; omega
        refine z_cV2n mX6_set gRX3_68 dX3_mixUnit_33 (s_setN at_members rfl hc2) (by decide) (by first | assumption | rfl) (by rfl) (Nat.le_of_ble_eq_true rfl) (Nat.le_refl _) (Nat.le_refl _) ?_
        refine z_inc4 (w := 1) dX3_mixUnit_36 rfl (by decide) rfl ?_
        refine z_inc5 (w := 1) dX3_mixUnit_39 rfl (by decide) rfl ?_
        refine z_goto (tgt := 6) dX3_mixUnit_42 (by decide) ?_
        rw [nI_1, nI_1]
        refine (congrArg (fun z => (ZG X RX3 cX3_mixUnit 6 3 0 0 0 0 6 [.ref 105, .ref 2, .int (nI u), .ref p, .int (nI z), .int (nI (k + 1))] [] Sg _)) (show (col (tog qd u) k).1 + 1 = (col (tog qd u) (k + 1)).1 by rw [col_yes hl])).mpr ?_
        refine ih (k + 1) _ (by omega) (by omega) (fun a ha => by rw [zup_ne _ _ _ ha]; exact hJ a ha) ?_
        rw [col_yes hl]
        intro j hj
        show zup J 110 _ _ 110 j = nI (if j = (col (tog qd u) k).1 then k else (col (tog qd u) k).2 j)
        rw [zup_at]
        by_cases hjc : j = (col (tog qd u) k).1
        · rw [if_pos hjc, hjc, upd_at]
        · rw [if_neg hjc, upd_ne _ _ hjc]
          have hj2 : j < (col (tog qd u) k).1 + 1 := hj
          exact hR j (by omega)
  refine z_iconst (v := 0) dX3_mixUnit_0 rfl ?_
  refine z_ist4 dX3_mixUnit_1 (by decide) rfl ?_
  refine z_iload_n dX3_mixUnit_3 rfl ?_
  refine z_ist5 dX3_mixUnit_4 (by decide) rfl ?_
  refine (congrArg (fun z => (ZG X RX3 cX3_mixUnit 6 3 0 0 0 0 6 [.ref 105, .ref 2, .int (nI u), .ref p, .int (nI z), .int (nI u)] [] Sg I)) (show 0 = (col (tog qd u) u).1 from (lead_none hl).symm)).mpr ?_
  exact loop1 (nq - u) u I (by omega) (Nat.le_refl u) (fun _ _ => rfl) (fun k hk => absurd hk (by rw [lead_none hl]; exact Nat.not_lt_zero k))
theorem s_listLoose {I : ZI} {q n K : Nat} {qd : Qd} {x y : Int32} (hx : x = nI n) (hy : y = nI K) (hn : n ≤ 5) (hK : K < 32) (hqK : qd q 2 = K) : ZP yX3_listLoose cX3_listLoose 5 (some FieldType.int) 1 [.ref 105, .int x, .int y] Sg I (fun r J => r = some (.int (nI (col (loose qd q) n).1)) ∧ (∀ a, a ≠ 112 → J a = I a) ∧ Rp (J 112) (col (loose qd q) n).2 (col (loose qd q) n).1) := by
  subst hx
  subst hy
  refine ZSp.of (own := RX3) (L := [.ref 105, .int (nI n), .int (nI K), zj, zj]) mX3_listLoose rfl (List.all_eq_true.mp rfl) (Nat.le_of_ble_eq_true rfl) rfl (fun X hE hN => ?_)
  have loop : ∀ (m k : Nat) (J : ZI), k + m = n → (∀ a, a ≠ 112 → J a = I a) → Rp (J 112) (col (loose qd q) k).2 (col (loose qd q) k).1 → (ZG X RX3 cX3_listLoose 5 1 0 0 0 0 5 [.ref 105, .int (nI n), .int (nI K), .int (nI (col (loose qd q) k).1), .int (nI k)] [] Sg J) := by
    intro m
    induction m with
    | zero =>
      intro k J hk hJ hR
      have e : k = n := by omega
      subst e
      refine z_iload dX3_listLoose_5 rfl ?_
      refine z_iload_n dX3_listLoose_7 rfl ?_
      refine z_icmp_ge (tgt := 39) dX3_listLoose_8 (by decide) (fun _ => ?_) (fun hb => absurd (nI_le (Nat.le_refl _) (by omega)) hb)
      refine z_iload_n dX3_listLoose_39 rfl ?_
      exact z_iret hE dX3_listLoose_40 ⟨rfl, rfl, hJ, hR⟩
    | succ m ih =>
      intro k J hk hJ hR
      have hbit := z_bit K hK k (by omega)
      refine z_iload dX3_listLoose_5 rfl ?_
      refine z_iload_n dX3_listLoose_7 rfl ?_
      refine z_icmp_ge (tgt := 39) dX3_listLoose_8 (by decide) (fun hb => absurd hb (nI_ge (by omega) (by omega))) (fun _ => ?_)
      refine z_iload_n dX3_listLoose_11 rfl ?_
      refine z_iload dX3_listLoose_12 rfl ?_
      refine z_ishr dX3_listLoose_14 ?_
      refine z_iconst (v := 1) dX3_listLoose_15 rfl ?_
      refine z_iand dX3_listLoose_16 ?_
      refine z_if_ne (tgt := 33) dX3_listLoose_17 (by decide) (fun hb => ?_) (fun hb => ?_)
      · refine z_inc4 (w := 1) dX3_listLoose_33 rfl (by decide) rfl ?_
        refine z_goto (tgt := 5) dX3_listLoose_36 (by decide) ?_
        have hl : ¬ loose qd q k = true := fun h => hb (hbit.mpr (by simpa [loose, hqK] using h))
        rw [nI_1]
        refine (congrArg (fun z => (ZG X RX3 cX3_listLoose 5 1 0 0 0 0 5 [.ref 105, .int (nI n), .int (nI K), .int (nI z), .int (nI (k + 1))] [] Sg J)) (show (col (loose qd q) k).1 = (col (loose qd q) (k + 1)).1 by rw [col_no hl])).mpr ?_
        exact ih (k + 1) J (by omega) hJ (by rw [col_no hl]; exact hR)
      · refine z_aload_n dX3_listLoose_20 rfl ?_
        refine z_getR fRX3_30 dX3_listLoose_21 (by first | assumption | rfl) (by rfl) ?_
        refine z_iload_n dX3_listLoose_24 rfl ?_
        refine z_iload dX3_listLoose_25 rfl ?_
        have hl : loose qd q k = true := by
          have := hbit.mp hb
          simp [loose, hqK, this]
        have hc : (col (loose qd q) k).1 < 5 := by have := col_le (loose qd q) k; omega
        refine z_cV2n mX6_set gRX3_68 dX3_listLoose_27 (s_setN at_loose rfl hc) (by decide) (by first | assumption | rfl) (by rfl) (Nat.le_of_ble_eq_true rfl) (Nat.le_refl _) (Nat.le_refl _) ?_
        refine z_inc3 (w := 1) dX3_listLoose_30 rfl (by decide) rfl ?_
        refine z_inc4 (w := 1) dX3_listLoose_33 rfl (by decide) rfl ?_
        refine z_goto (tgt := 5) dX3_listLoose_36 (by decide) ?_
        rw [nI_1, nI_1]
        refine (congrArg (fun z => (ZG X RX3 cX3_listLoose 5 1 0 0 0 0 5 [.ref 105, .int (nI n), .int (nI K), .int (nI z), .int (nI (k + 1))] [] Sg _)) (show (col (loose qd q) k).1 + 1 = (col (loose qd q) (k + 1)).1 by rw [col_yes hl])).mpr ?_
        refine ih (k + 1) _ (by omega) (fun a ha => by rw [zup_ne _ _ _ ha]; exact hJ a ha) ?_
        rw [col_yes hl]
        intro j hj
        show zup J 112 _ _ 112 j = nI (if j = (col (loose qd q) k).1 then k else (col (loose qd q) k).2 j)
        rw [zup_at]
        by_cases hjc : j = (col (loose qd q) k).1
        · rw [if_pos hjc, hjc, upd_at]
        · rw [if_neg hjc, upd_ne _ _ hjc]
          have hj2 : j < (col (loose qd q) k).1 + 1 := hj
          exact hR j (by omega)
  refine z_iconst (v := 0) dX3_listLoose_0 rfl ?_
  refine z_ist3 dX3_listLoose_1 (by decide) rfl ?_
  refine z_iconst (v := 0) dX3_listLoose_2 rfl ?_
  refine z_ist4 dX3_listLoose_3 (by decide) rfl ?_
  exact loop n 0 I (by omega) (fun _ _ => rfl) (fun k hk => absurd hk (Nat.not_lt_zero k))

