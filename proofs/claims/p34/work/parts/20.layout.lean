/-! ===== the layout of a paper ===== -/
theorem z_max (a b : Nat) (ha : a < 1000) (hb : b < 1000) : (if nI a < nI b then nI b else nI a) = nI (if a < b then b else a) := by
  by_cases h : a < b
  · rw [if_pos h, if_pos (nI_lt h (by omega))]
  · rw [if_neg h, if_neg (nI_nlt (by omega) (by omega))]
theorem s_pagesFrom {I : ZI} {y n p0 Lq : Nat} {h : Nat → Nat} {x z : Int32} (hy : LyAt y) (hn : I y 5 = nI n) (hn20 : n ≤ 20) (hR : Rp (I (y + 1 + 1)) h n) (hx : x = nI p0) (hp0 : p0 ≤ n) (hz : z = nI Lq) (hL : Lq ≤ 60) (hh : ∀ i, i < n → h i ≤ Lq) : ZE yX1_pagesFrom cX1_pagesFrom 7 (some FieldType.int) 1 [.ref y, .int x, .int z] Sg I (some (.int (nI (ndp h Lq n p0)))) I := by
  have hy0 := hy.1
  have hy1 := hy.2.1.1
  subst hx
  subst hz
  refine ZSp.of (own := RX1) (L := [.ref y, .int (nI p0), .int (nI Lq), zj, zj, zj, zj]) mX1_pagesFrom rfl (List.all_eq_true.mp rfl) (Nat.le_of_ble_eq_true rfl) rfl (fun X hE hN => ?_)
  have loop : ∀ (k p l c : Nat), p + k = n → l ≤ Lq → c + nd h Lq (n - p) p l = ndp h Lq n p0 → (ZG X RX1 cX1_pagesFrom 7 1 0 0 0 0 8 [.ref y, .int (nI p0), .int (nI Lq), .int (nI c), .int (nI l), .int (nI p), zj] [] Sg I) := by
    intro k
    induction k with
    | zero =>
      intro p l c hp hl hc
      have e : p = n := by omega
      subst e
      rw [Nat.sub_self] at hc
      have e0 : nd h Lq 0 p l = 0 := rfl
      rw [e0] at hc
      refine z_iload dX1_pagesFrom_8 rfl ?_
      refine z_aload_n dX1_pagesFrom_10 rfl ?_
      refine z_getI fRX1_38 dX1_pagesFrom_11 (by first | assumption | rfl) (by rfl) ?_
      refine z_icmp_ge (tgt := 54) dX1_pagesFrom_14 (by decide) (fun _ => ?_) (fun hb => absurd (by rw [hn]; exact nI_le (Nat.le_refl _) (by omega)) hb)
      refine z_iload_n dX1_pagesFrom_54 rfl ?_
      exact z_eireturn hE dX1_pagesFrom_55 (by rw [← hc]; rfl) rfl
    | succ k ih =>
      intro p l c hp hl hc
      have hhp := hh p (by omega)
      have hcn : c ≤ ndp h Lq n p0 := by omega
      have hc20 := ndp_le h Lq n p0
      rw [show n - p = (n - (p + 1)) + 1 by omega, nd] at hc
      have join : ∀ (l' c' : Nat), h p ≤ l' → l' ≤ Lq → c' + nd h Lq (n - (p + 1)) (p + 1) (l' - h p) = ndp h Lq n p0 → (ZG X RX1 cX1_pagesFrom 7 1 0 0 0 0 41 [.ref y, .int (nI p0), .int (nI Lq), .int (nI c'), .int (nI l'), .int (nI p), .int (nI (h p))] [] Sg I) := by
        intro l' c' h1 h2 h3
        refine z_iload dX1_pagesFrom_41 rfl ?_
        refine z_iload dX1_pagesFrom_43 rfl ?_
        refine z_isub dX1_pagesFrom_45 ?_
        refine z_ist4 dX1_pagesFrom_46 (by decide) rfl ?_
        refine z_inc5 (w := 1) dX1_pagesFrom_48 rfl (by decide) rfl ?_
        refine z_goto (tgt := 8) dX1_pagesFrom_51 (by decide) ?_
        rw [pk_sub h1, nI_1]
        refine z_fg6 ?_
        exact ih (p + 1) (l' - h p) c' (by omega) (by omega) h3
      refine z_iload dX1_pagesFrom_8 rfl ?_
      refine z_aload_n dX1_pagesFrom_10 rfl ?_
      refine z_getI fRX1_38 dX1_pagesFrom_11 (by first | assumption | rfl) (by rfl) ?_
      refine z_icmp_ge (tgt := 54) dX1_pagesFrom_14 (by decide) (fun hb => absurd hb (by rw [hn]; exact nI_ge (by omega) (by omega))) (fun _ => ?_)
      refine z_aload_n dX1_pagesFrom_17 rfl ?_
      refine z_getR fRX1_14 dX1_pagesFrom_18 (by first | assumption | rfl) (by rfl) ?_
      refine z_iload dX1_pagesFrom_21 rfl ?_
      refine z_cV1s mX6_get gRX1_44 dX1_pagesFrom_23 (s_getN hy.2.1 rfl (show p < 20 by omega)) (by decide) (by first | assumption | rfl) (by rfl) (Nat.le_of_ble_eq_true rfl) (Nat.le_refl _) (Nat.le_refl _) ?_
      rw [hR p (by omega)]
      refine z_ist6 dX1_pagesFrom_26 (by decide) rfl ?_
      refine z_iload dX1_pagesFrom_28 rfl ?_
      refine z_iload dX1_pagesFrom_30 rfl ?_
      refine z_icmp_le (tgt := 41) dX1_pagesFrom_32 (by decide) (fun hb => ?_) (fun hb => ?_)
      · have hle : h p ≤ l := (nI_leI (by omega) (by omega)).mp hb
        rw [if_neg (by omega)] at hc
        exact join l c hle hl hc
      · have hlt : l < h p := by
          rcases Nat.lt_or_ge l (h p) with q | q
          · exact q
          · exact absurd (nI_le q (by omega)) hb
        rw [if_pos hlt] at hc
        refine z_inc3 (w := 1) dX1_pagesFrom_35 rfl (by decide) rfl ?_
        refine z_iload_n dX1_pagesFrom_38 rfl ?_
        refine z_ist4 dX1_pagesFrom_39 (by decide) rfl ?_
        rw [nI_1]
        exact join Lq (c + 1) hhp (Nat.le_refl _) (by omega)
  refine z_iconst (v := 0) dX1_pagesFrom_0 rfl ?_
  refine z_ist3 dX1_pagesFrom_1 (by decide) rfl ?_
  refine z_iconst (v := 0) dX1_pagesFrom_2 rfl ?_
  refine z_ist4 dX1_pagesFrom_3 (by decide) rfl ?_
  refine z_iload_n dX1_pagesFrom_5 rfl ?_
  refine z_ist5 dX1_pagesFrom_6 (by decide) rfl ?_
  exact loop (n - p0) p0 0 0 (by omega) (Nat.zero_le _) (by rw [Nat.zero_add]; rfl)
theorem s_lowestLimit {I : ZI} {y n M lines : Nat} {h : Nat → Nat} {x : Int32} (hy : LyAt y) (hn : I y 5 = nI n) (hn20 : n ≤ 20) (hR : Rp (I (y + 1 + 1)) h n) (hM : I y 6 = nI M) (hMd : M = ndp h lines n 0) (hx : x = nI lines) (hl9 : 9 ≤ lines) (hl60 : lines ≤ 60) (hh : ∀ i, i < n → h i ≤ 9) : ZE yX1_lowestLimit cX1_lowestLimit 4 (some FieldType.int) 2 [.ref y, .int x] Sg I (some (.int (nI (lmf h n M (lines - mxh h n) (mxh h n))))) I := by
  have hy0 := hy.1
  have hy1 := hy.2.1.1
  have hM20 : M ≤ n := by rw [hMd]; have := ndp_le h lines n 0; omega
  have hmx : mxh h n ≤ 9 := mxh_ub hh
  subst hx
  refine ZSp.of (own := RX1) (L := [.ref y, .int (nI lines), zj, zj]) mX1_lowestLimit rfl (List.all_eq_true.mp rfl) (Nat.le_of_ble_eq_true rfl) rfl (fun X hE hN => ?_)
  have loop2 : ∀ (k l : Nat), l + k = lines → mxh h n ≤ l → (ZG X RX1 cX1_lowestLimit 4 2 0 0 0 0 31 [.ref y, .int (nI lines), .int (nI l), .int (nI n)] [] Sg I) → True := fun _ _ _ _ _ => trivial
  have loop2 : ∀ (k l : Nat), l + k = lines → mxh h n ≤ l → lmf h n M k l = lmf h n M (lines - mxh h n) (mxh h n) → (ZG X RX1 cX1_lowestLimit 4 2 0 0 0 0 31 [.ref y, .int (nI lines), .int (nI l), .int (nI n)] [] Sg I) := by
    intro k
    induction k with
    | zero =>
      intro l hl hm hv
      have e : l = lines := by omega
      subst e
      refine z_iload_n dX1_lowestLimit_31 rfl ?_
      refine z_iload_n dX1_lowestLimit_32 rfl ?_
      refine z_icmp_ge (tgt := 55) dX1_lowestLimit_33 (by decide) (fun _ => ?_) (fun hb => absurd (nI_le (Nat.le_refl _) (by omega)) hb)
      refine z_iload_n dX1_lowestLimit_55 rfl ?_
      exact z_eireturn hE dX1_lowestLimit_56 (by rw [← hv]; rfl) rfl
    | succ k ih =>
      intro l hl hm hv
      have hnl := ndp_le h l n 0
      rw [lmf] at hv
      refine z_iload_n dX1_lowestLimit_31 rfl ?_
      refine z_iload_n dX1_lowestLimit_32 rfl ?_
      refine z_icmp_ge (tgt := 55) dX1_lowestLimit_33 (by decide) (fun hb => absurd hb (nI_ge (by omega) (by omega))) (fun _ => ?_)
      refine z_aload_n dX1_lowestLimit_36 rfl ?_
      refine z_iconst (v := 0) dX1_lowestLimit_37 rfl ?_
      refine z_iload_n dX1_lowestLimit_38 rfl ?_
      refine z_cV2s mX1_pagesFrom gRX1_58 dX1_lowestLimit_39 (s_pagesFrom hy hn hn20 hR (show (0 : Int32) = nI 0 from rfl) (Nat.zero_le n) rfl (by omega) (fun i hi => Nat.le_trans (mxh_le hi) hm)) (by decide) (by first | assumption | rfl) (by rfl) (Nat.le_of_ble_eq_true rfl) (Nat.le_refl _) (Nat.le_refl _) ?_
      refine z_aload_n dX1_lowestLimit_42 rfl ?_
      refine z_getI fRX1_61 dX1_lowestLimit_43 (by first | assumption | rfl) (by rfl) ?_
      rw [hM]
      refine z_icmp_le (tgt := 55) dX1_lowestLimit_46 (by decide) (fun hb => ?_) (fun hb => ?_)
      · refine z_iload_n dX1_lowestLimit_55 rfl ?_
        have hle : ndp h l n 0 ≤ M := (nI_leI (by omega) (by omega)).mp hb
        rw [if_neg (by omega)] at hv
        exact z_eireturn hE dX1_lowestLimit_56 (by rw [← hv]) rfl
      · have hlt : M < ndp h l n 0 := by
          rcases Nat.lt_or_ge M (ndp h l n 0) with q | q
          · exact q
          · exact absurd (nI_le q (by omega)) hb
        rw [if_pos hlt] at hv
        refine z_inc2 (w := 1) dX1_lowestLimit_49 rfl (by decide) rfl ?_
        refine z_goto (tgt := 31) dX1_lowestLimit_52 (by decide) ?_
        rw [nI_1]
        exact ih (l + 1) (by omega) (by omega) hv
  have loop1 : ∀ (k i : Nat), i + k = n → (ZG X RX1 cX1_lowestLimit 4 2 0 0 0 0 4 [.ref y, .int (nI lines), .int (nI (mxh h i)), .int (nI i)] [] Sg I) := by
    intro k
    induction k with
    | zero =>
      intro i hi
      have e : i = n := by omega
      subst e
      refine z_iload_n dX1_lowestLimit_4 rfl ?_
      refine z_aload_n dX1_lowestLimit_5 rfl ?_
      refine z_getI fRX1_38 dX1_lowestLimit_6 (by first | assumption | rfl) (by rfl) ?_
      refine z_icmp_ge (tgt := 31) dX1_lowestLimit_9 (by decide) (fun _ => ?_) (fun hb => absurd (by rw [hn]; exact nI_le (Nat.le_refl _) (by omega)) hb)
      exact loop2 (lines - mxh h i) (mxh h i) (by omega) (Nat.le_refl _) rfl
    | succ k ih =>
      intro i hi
      have hhi := hh i (by omega)
      have hmi : mxh h i ≤ 9 := mxh_ub (fun j hj => hh j (by omega))
      refine z_iload_n dX1_lowestLimit_4 rfl ?_
      refine z_aload_n dX1_lowestLimit_5 rfl ?_
      refine z_getI fRX1_38 dX1_lowestLimit_6 (by first | assumption | rfl) (by rfl) ?_
      refine z_icmp_ge (tgt := 31) dX1_lowestLimit_9 (by decide) (fun hb => absurd hb (by rw [hn]; exact nI_ge (by omega) (by omega))) (fun _ => ?_)
      refine z_iload_n dX1_lowestLimit_12 rfl ?_
      refine z_aload_n dX1_lowestLimit_13 rfl ?_
      refine z_getR fRX1_14 dX1_lowestLimit_14 (by first | assumption | rfl) (by rfl) ?_
      refine z_iload_n dX1_lowestLimit_17 rfl ?_
      refine z_cV1s mX6_get gRX1_44 dX1_lowestLimit_18 (s_getN hy.2.1 rfl (show i < 20 by omega)) (by decide) (by first | assumption | rfl) (by rfl) (Nat.le_of_ble_eq_true rfl) (Nat.le_refl _) (Nat.le_refl _) ?_
      rw [hR i (by omega)]
      refine z_mmax gRX1_75 j_max_static j_math_ini j_max_code dX1_lowestLimit_21 (by decide) (Nat.le_of_ble_eq_true rfl) (Nat.le_refl _) (Nat.le_refl _) ?_
      rw [z_max _ _ (by omega) (by omega)]
      refine z_ist2 dX1_lowestLimit_24 (by decide) rfl ?_
      refine z_inc3 (w := 1) dX1_lowestLimit_25 rfl (by decide) rfl ?_
      refine z_goto (tgt := 4) dX1_lowestLimit_28 (by decide) ?_
      rw [nI_1]
      exact ih (i + 1) (by omega)
  refine z_iconst (v := 0) dX1_lowestLimit_0 rfl ?_
  refine z_ist2 dX1_lowestLimit_1 (by decide) rfl ?_
  refine z_iconst (v := 0) dX1_lowestLimit_2 rfl ?_
  refine z_ist3 dX1_lowestLimit_3 (by decide) rfl ?_
  exact loop1 n 0 (by omega)
theorem s_earliestEnd {I : ZI} {y n s left Lq : Nat} {h : Nat → Nat} {x z u : Int32} (hy : LyAt y) (hn : I y 5 = nI n) (hn20 : n ≤ 20) (hR : Rp (I (y + 1 + 1)) h n) (hx : x = nI s) (hs : s < n) (hz : z = nI left) (hleft : left ≤ 20) (hu : u = nI Lq) (hL : Lq ≤ 60) (hh : ∀ i, i < n → h i ≤ Lq) : ZE yX1_earliestEnd cX1_earliestEnd 5 (some FieldType.int) 2 [.ref y, .int x, .int z, .int u] Sg I (some (.int (nI (eef h Lq n left (n - (s + 1)) (s + 1))))) I := by
  have hy0 := hy.1
  subst hx
  subst hz
  subst hu
  refine ZSp.of (own := RX1) (L := [.ref y, .int (nI s), .int (nI left), .int (nI Lq), zj]) mX1_earliestEnd rfl (List.all_eq_true.mp rfl) (Nat.le_of_ble_eq_true rfl) rfl (fun X hE hN => ?_)
  have loop : ∀ (k e : Nat), e + k = n → eef h Lq n left k e = eef h Lq n left (n - (s + 1)) (s + 1) → (ZG X RX1 cX1_earliestEnd 5 2 0 0 0 0 5 [.ref y, .int (nI s), .int (nI left), .int (nI Lq), .int (nI e)] [] Sg I) := by
    intro k
    induction k with
    | zero =>
      intro e he hv
      have e1 : e = n := by omega
      subst e1
      refine z_iload dX1_earliestEnd_5 rfl ?_
      refine z_aload_n dX1_earliestEnd_7 rfl ?_
      refine z_getI fRX1_38 dX1_earliestEnd_8 (by first | assumption | rfl) (by rfl) ?_
      refine z_icmp_ge (tgt := 31) dX1_earliestEnd_11 (by decide) (fun _ => ?_) (fun hb => absurd (by rw [hn]; exact nI_le (Nat.le_refl _) (by omega)) hb)
      refine z_iload dX1_earliestEnd_31 rfl ?_
      exact z_eireturn hE dX1_earliestEnd_33 (by rw [← hv]; rfl) rfl
    | succ k ih =>
      intro e he hv
      have hnl := ndp_le h Lq n e
      rw [eef] at hv
      refine z_iload dX1_earliestEnd_5 rfl ?_
      refine z_aload_n dX1_earliestEnd_7 rfl ?_
      refine z_getI fRX1_38 dX1_earliestEnd_8 (by first | assumption | rfl) (by rfl) ?_
      refine z_icmp_ge (tgt := 31) dX1_earliestEnd_11 (by decide) (fun hb => absurd hb (by rw [hn]; exact nI_ge (by omega) (by omega))) (fun _ => ?_)
      refine z_aload_n dX1_earliestEnd_14 rfl ?_
      refine z_iload dX1_earliestEnd_15 rfl ?_
      refine z_iload_n dX1_earliestEnd_17 rfl ?_
      refine z_cV2s mX1_pagesFrom gRX1_58 dX1_earliestEnd_18 (s_pagesFrom hy hn hn20 hR rfl (show e ≤ n by omega) rfl hL hh) (by decide) (by first | assumption | rfl) (by rfl) (Nat.le_of_ble_eq_true rfl) (Nat.le_refl _) (Nat.le_refl _) ?_
      refine z_iload_n dX1_earliestEnd_21 rfl ?_
      refine z_icmp_le (tgt := 31) dX1_earliestEnd_22 (by decide) (fun hb => ?_) (fun hb => ?_)
      · refine z_iload dX1_earliestEnd_31 rfl ?_
        have hle : ndp h Lq n e ≤ left := (nI_leI (by omega) (by omega)).mp hb
        rw [if_neg (by omega)] at hv
        exact z_eireturn hE dX1_earliestEnd_33 (by rw [← hv]) rfl
      · have hlt : left < ndp h Lq n e := by
          rcases Nat.lt_or_ge left (ndp h Lq n e) with q | q
          · exact q
          · exact absurd (nI_le q (by omega)) hb
        rw [if_pos hlt] at hv
        refine z_inc4 (w := 1) dX1_earliestEnd_25 rfl (by decide) rfl ?_
        refine z_goto (tgt := 5) dX1_earliestEnd_28 (by decide) ?_
        rw [nI_1]
        exact ih (e + 1) (by omega) hv
  refine z_iload_n dX1_earliestEnd_0 rfl ?_
  refine z_iconst (v := 1) dX1_earliestEnd_1 rfl ?_
  refine z_iadd dX1_earliestEnd_2 ?_
  refine z_ist4 dX1_earliestEnd_3 (by decide) rfl ?_
  rw [nI_1]
  exact loop (n - (s + 1)) (s + 1) (by omega) rfl
theorem s_fill {I : ZI} {y n s e i : Nat} {h : Nat → Nat} {x z u : Int32} (hy : LyAt y) (hn20 : n ≤ 20) (hR : Rp (I (y + 1 + 1)) h n) (hx : x = nI i) (hi : i < 20) (hz : z = nI s) (hu : u = nI e) (hse : s ≤ e) (hen : e ≤ n) :
    ZP yX1_fill cX1_fill 6 none 1 [.ref y, .int x, .int z, .int u] Sg I (fun r J => r = none ∧ (∀ a, a ≠ y + 3 + 1 → a ≠ y + 5 + 1 → a ≠ y + 7 + 1 → a ≠ y + 9 + 1 → J a = I a) ∧ (∀ k, k < e - s → J (y + 3 + 1) (s + k) = nI i) ∧ (∀ p, (p < s ∨ e ≤ p) → J (y + 3 + 1) p = I (y + 3 + 1) p) ∧ (∀ k, k < e - s → J (y + 5 + 1) (s + k) = nI (smh h s k)) ∧ (∀ p, (p < s ∨ e ≤ p) → J (y + 5 + 1) p = I (y + 5 + 1) p)
      ∧ J (y + 7 + 1) = upd (I (y + 7 + 1)) i (nI (e - s)) ∧ J (y + 9 + 1) = upd (I (y + 9 + 1)) i (nI (smh h s (e - s)))) := by
  obtain ⟨hy0, hy1, hy2, hy3, hy4, hy5⟩ := hy
  have g1 := hy1.1
  have g2 := hy2.1
  have g3 := hy3.1
  have g4 := hy4.1
  have g5 := hy5.1
  subst hx
  subst hz
  subst hu
  refine ZSp.of (own := RX1) (L := [.ref y, .int (nI i), .int (nI s), .int (nI e), zj, zj]) mX1_fill rfl (List.all_eq_true.mp rfl) (Nat.le_of_ble_eq_true rfl) rfl (fun X hE hN => ?_)
  have loop : ∀ (m k : Nat) (J : ZI), s + k + m = e → (∀ a, a ≠ y + 3 + 1 → a ≠ y + 5 + 1 → J a = I a) → (∀ j, j < k → J (y + 3 + 1) (s + j) = nI i) → (∀ p, (p < s ∨ s + k ≤ p) → J (y + 3 + 1) p = I (y + 3 + 1) p) → (∀ j, j < k → J (y + 5 + 1) (s + j) = nI (smh h s j)) → (∀ p, (p < s ∨ s + k ≤ p) → J (y + 5 + 1) p = I (y + 5 + 1) p) → (ZG X RX1 cX1_fill 6 1 0 0 0 0 6 [.ref y, .int (nI i), .int (nI s), .int (nI e), .int (nI (smh h s k)), .int (nI (s + k))] [] Sg J) := by
    intro m
    induction m with
    | zero =>
      intro k J hk a1 a2 a3 a4 a5
      have e1 : s + k = e := by omega
      have e2 : k = e - s := by omega
      refine z_iload dX1_fill_6 rfl ?_
      refine z_iload_n dX1_fill_8 rfl ?_
      refine z_icmp_ge (tgt := 53) dX1_fill_9 (by decide) (fun _ => ?_) (fun hb => absurd (nI_le (by omega) (by omega)) hb)
      refine z_aload_n dX1_fill_53 rfl ?_
      refine z_getR fRX1_26 dX1_fill_54 (by first | assumption | rfl) (by rfl) ?_
      refine z_iload_n dX1_fill_57 rfl ?_
      refine z_iload_n dX1_fill_58 rfl ?_
      refine z_iload_n dX1_fill_59 rfl ?_
      refine z_isub dX1_fill_60 ?_
      refine z_cV2n mX6_set gRX1_54 dX1_fill_61 (s_setN hy4 rfl hi) (by decide) (by first | assumption | rfl) (by rfl) (Nat.le_of_ble_eq_true rfl) (Nat.le_refl _) (Nat.le_refl _) ?_
      refine z_aload_n dX1_fill_64 rfl ?_
      refine z_getR fRX1_29 dX1_fill_65 (by first | assumption | rfl) (by rfl) ?_
      refine z_iload_n dX1_fill_68 rfl ?_
      refine z_iload dX1_fill_69 rfl ?_
      refine z_cV2n mX6_set gRX1_54 dX1_fill_71 (s_setN hy5 rfl hi) (by decide) (by first | assumption | rfl) (by rfl) (Nat.le_of_ble_eq_true rfl) (Nat.le_refl _) (Nat.le_refl _) ?_
      have n78 : y + 7 + 1 ≠ y + 9 + 1 := by omega
      exact z_vret hE dX1_fill_74 ⟨rfl, rfl, fun a h1 h2 h3 h4 => by rw [zup_ne _ _ _ h4, zup_ne _ _ _ h3, a1 a h1 h2], fun j hj => by rw [zup_ne _ _ _ (by omega), zup_ne _ _ _ (by omega), a2 j (by omega)], fun p hp => by rw [zup_ne _ _ _ (by omega), zup_ne _ _ _ (by omega), a3 p (by omega)], fun j hj => by rw [zup_ne _ _ _ (by omega), zup_ne _ _ _ (by omega), a4 j (by omega)], fun p hp => by rw [zup_ne _ _ _ (by omega), zup_ne _ _ _ (by omega), a5 p (by omega)], by rw [zup_ne _ _ _ n78, zup_at, a1 _ (by omega) (by omega), pk_sub hse], by rw [zup_at, zup_ne _ _ _ n78.symm, a1 _ (by omega) (by omega), e2]⟩
    | succ m ih =>
      intro k J hk a1 a2 a3 a4 a5
      have n35 : y + 3 + 1 ≠ y + 5 + 1 := by omega
      refine z_iload dX1_fill_6 rfl ?_
      refine z_iload_n dX1_fill_8 rfl ?_
      refine z_icmp_ge (tgt := 53) dX1_fill_9 (by decide) (fun hb => absurd hb (nI_ge (by omega) (by omega))) (fun _ => ?_)
      refine z_aload_n dX1_fill_12 rfl ?_
      refine z_getR fRX1_20 dX1_fill_13 (by first | assumption | rfl) (by rfl) ?_
      refine z_iload dX1_fill_16 rfl ?_
      refine z_iload_n dX1_fill_18 rfl ?_
      refine z_cV2n mX6_set gRX1_54 dX1_fill_19 (s_setN hy2 rfl (show s + k < 20 by omega)) (by decide) (by first | assumption | rfl) (by rfl) (Nat.le_of_ble_eq_true rfl) (Nat.le_refl _) (Nat.le_refl _) ?_
      refine z_aload_n dX1_fill_22 rfl ?_
      refine z_getR fRX1_23 dX1_fill_23 (by first | assumption | rfl) (by rfl) ?_
      refine z_iload dX1_fill_26 rfl ?_
      refine z_iload dX1_fill_28 rfl ?_
      refine z_cV2n mX6_set gRX1_54 dX1_fill_30 (s_setN hy3 rfl (show s + k < 20 by omega)) (by decide) (by first | assumption | rfl) (by rfl) (Nat.le_of_ble_eq_true rfl) (Nat.le_refl _) (Nat.le_refl _) ?_
      refine z_iload dX1_fill_33 rfl ?_
      refine z_aload_n dX1_fill_35 rfl ?_
      refine z_getR fRX1_14 dX1_fill_36 (by first | assumption | rfl) (by rfl) ?_
      refine z_iload dX1_fill_39 rfl ?_
      refine z_cV1s mX6_get gRX1_44 dX1_fill_41 (s_getN hy1 rfl (show s + k < 20 by omega)) (by decide) (by first | assumption | rfl) (by rfl) (Nat.le_of_ble_eq_true rfl) (Nat.le_refl _) (Nat.le_refl _) ?_
      rw [zup_ne _ _ _ (show y + 1 + 1 ≠ y + 5 + 1 by omega), zup_ne _ _ _ (show y + 1 + 1 ≠ y + 3 + 1 by omega), a1 (y + 1 + 1) (by omega) (by omega), hR (s + k) (by omega)]
      refine z_iadd dX1_fill_44 ?_
      refine z_ist4 dX1_fill_45 (by decide) rfl ?_
      refine z_inc5 (w := 1) dX1_fill_47 rfl (by decide) rfl ?_
      refine z_goto (tgt := 6) dX1_fill_50 (by decide) ?_
      rw [nI_add, nI_1]
      refine ih (k + 1) _ (by omega) (fun a h1 h2 => ?_) (fun j hj => ?_) (fun p hp => ?_) (fun j hj => ?_) (fun p hp => ?_)
      · rw [zup_ne _ _ _ h2, zup_ne _ _ _ h1, a1 a h1 h2]
      · rw [zup_ne _ _ _ n35, zup_at]
        by_cases hjk : j = k
        · rw [hjk, upd_at]
        · rw [upd_ne _ _ (by omega), a2 j (by omega)]
      · rw [zup_ne _ _ _ n35, zup_at, upd_ne _ _ (by omega), a3 p (by omega)]
      · rw [zup_at]
        by_cases hjk : j = k
        · rw [hjk, upd_at]
        · rw [upd_ne _ _ (by omega), zup_ne _ _ _ n35.symm, a4 j (by omega)]
      · rw [zup_at, upd_ne _ _ (by omega), zup_ne _ _ _ n35.symm, a5 p (by omega)]
  refine z_iconst (v := 0) dX1_fill_0 rfl ?_
  refine z_ist4 dX1_fill_1 (by decide) rfl ?_
  refine z_iload_n dX1_fill_3 rfl ?_
  refine z_ist5 dX1_fill_4 (by decide) rfl ?_
  exact loop (e - s) 0 I (by omega) (fun _ _ _ => rfl) (fun j hj => absurd hj (Nat.not_lt_zero j)) (fun _ _ => rfl) (fun j hj => absurd hj (Nat.not_lt_zero j)) (fun _ _ => rfl)
/-- a layout is that of the version of the seed, with pages of so many lines -/
def Ly (I : ZI) (y nq : Nat) (qd : Qd) (seed : Int32) (lines : Nat) : Prop := I y 6 = nI (Pn nq qd seed lines) ∧ ∀ i, i < Pn nq qd seed lines → I (y + 7 + 1) i = nI (Ps nq qd seed lines (i + 1) - Ps nq qd seed lines i) ∧ I (y + 9 + 1) i = nI (smh (Hq nq qd seed) (Ps nq qd seed lines i) (Ps nq qd seed lines (i + 1) - Ps nq qd seed lines i)) ∧ ∀ k, k < Ps nq qd seed lines (i + 1) - Ps nq qd seed lines i → I (y + 3 + 1) (Ps nq qd seed lines i + k) = nI i ∧ I (y + 5 + 1) (Ps nq qd seed lines i + k) = nI (smh (Hq nq qd seed) (Ps nq qd seed lines i) k)
theorem s_lay {I : ZI} {p nq lines : Nat} {qd : Qd} {seed x : Int32} (hQ : Qs I 2 nq qd) (hV : QV nq qd) (hp : PpAt p) (hp2 : 113 < p) (hP : Pm I p nq qd seed) (hx : x = nI lines) (hl9 : 9 ≤ lines) (hl60 : lines ≤ 60) :
    ZP yX1_lay cX1_lay 8 none 3 [.ref (p + 9), .ref 2, .ref p, .int x] Sg I (fun r J => r = none ∧ (∀ a, a ≠ p + 9 → a ≠ p + 9 + 1 + 1 → a ≠ p + 9 + 3 + 1 → a ≠ p + 9 + 5 + 1 → a ≠ p + 9 + 7 + 1 → a ≠ p + 9 + 9 + 1 → J a = I a) ∧ Ly J (p + 9) nq qd seed lines) := by
  have hn := hV.1
  have hp0 := hp.1
  have hp1 := hp.2.1.1
  have hy := hp.2.2.2.2.2
  have hy0 := hy.1
  have hy1 := hy.2.1.1
  have hq1 := at_q.1
  obtain ⟨L1, L2, L3⟩ := Lm_spec (seed := seed) hV hl9
  have hMn := Pn_le (nq := nq) (qd := qd) (seed := seed) (lines := lines)
  have hPs := Ps_spec (seed := seed) hV hl9
  have hPsn : ∀ i, Ps nq qd seed lines (i + 1) = eef (Hq nq qd seed) (Lm nq qd seed lines) nq (Pn nq qd seed lines - i - 1) (nq - (Ps nq qd seed lines i + 1)) (Ps nq qd seed lines i + 1) := fun _ => rfl
  subst hx
  refine ZSp.of (own := RX1) (L := [.ref (p + 9), .ref 2, .ref p, .int (nI lines), zj, zj, zj, zj]) mX1_lay rfl (List.all_eq_true.mp rfl) (Nat.le_of_ble_eq_true rfl) rfl (fun X hE hN => ?_)
  have loop2 : ∀ (m i : Nat) (t : Value) (J : ZI), i + m = Pn nq qd seed lines → (∀ a, a ≠ p + 9 → a ≠ p + 9 + 1 + 1 → a ≠ p + 9 + 3 + 1 → a ≠ p + 9 + 5 + 1 → a ≠ p + 9 + 7 + 1 → a ≠ p + 9 + 9 + 1 → J a = I a) → J (p + 9) 5 = nI nq → J (p + 9) 6 = nI (Pn nq qd seed lines) → Rp (J (p + 9 + 1 + 1)) (Hq nq qd seed) nq
      → (∀ j, j < i → J (p + 9 + 7 + 1) j = nI (Ps nq qd seed lines (j + 1) - Ps nq qd seed lines j) ∧ J (p + 9 + 9 + 1) j = nI (smh (Hq nq qd seed) (Ps nq qd seed lines j) (Ps nq qd seed lines (j + 1) - Ps nq qd seed lines j)) ∧ ∀ k, k < Ps nq qd seed lines (j + 1) - Ps nq qd seed lines j → J (p + 9 + 3 + 1) (Ps nq qd seed lines j + k) = nI j ∧ J (p + 9 + 5 + 1) (Ps nq qd seed lines j + k) = nI (smh (Hq nq qd seed) (Ps nq qd seed lines j) k))
      → (∀ j, j < i → Ps nq qd seed lines (j + 1) ≤ Ps nq qd seed lines i) → (ZG X RX1 cX1_lay 8 3 0 0 0 0 72 [.ref (p + 9), .ref 2, .ref p, .int (nI lines), .int (nI (Lm nq qd seed lines)), .int (nI (Ps nq qd seed lines i)), .int (nI i), zj] [] Sg J) := by
    intro m
    induction m with
    | zero =>
      intro i t J hi a1 a2 a3 a4 a5 a6
      have e : i = Pn nq qd seed lines := by omega
      refine z_iload dX1_lay_72 rfl ?_
      refine z_aload_n dX1_lay_74 rfl ?_
      refine z_getI fRX1_61 dX1_lay_75 (by first | assumption | rfl) (by rfl) ?_
      refine z_icmp_ge (tgt := 120) dX1_lay_78 (by decide) (fun _ => ?_) (fun hb => absurd (by rw [a3]; exact nI_le (by omega) (by omega)) hb)
      exact z_vret hE dX1_lay_120 ⟨rfl, rfl, a1, a3, fun j hj => a5 j (by omega)⟩
    | succ m ih =>
      intro i t J hi a1 a2 a3 a4 a5 a6
      have hpi := hPs.1 i (by omega)
      refine z_iload dX1_lay_72 rfl ?_
      refine z_aload_n dX1_lay_74 rfl ?_
      refine z_getI fRX1_61 dX1_lay_75 (by first | assumption | rfl) (by rfl) ?_
      refine z_icmp_ge (tgt := 120) dX1_lay_78 (by decide) (fun hb => absurd hb (by rw [a3]; exact nI_ge (by omega) (by omega))) (fun _ => ?_)
      refine z_aload_n dX1_lay_81 rfl ?_
      refine z_iload dX1_lay_82 rfl ?_
      refine z_aload_n dX1_lay_84 rfl ?_
      refine z_getI fRX1_61 dX1_lay_85 (by first | assumption | rfl) (by rfl) ?_
      refine z_iload dX1_lay_88 rfl ?_
      refine z_isub dX1_lay_90 ?_
      refine z_iconst (v := 1) dX1_lay_91 rfl ?_
      refine z_isub dX1_lay_92 ?_
      refine z_iload dX1_lay_93 rfl ?_
      rw [a3, show nI (Pn nq qd seed lines) - nI i - 1 = nI (Pn nq qd seed lines - i - 1) by rw [pk_sub (by omega)]; exact pk_sub (b := 1) (by omega)]
      refine z_cV3s mX1_earliestEnd gRX1_67 dX1_lay_95 (s_earliestEnd hy a2 hn a4 rfl (by omega) rfl (by omega) rfl (by omega) (fun j hj => (L1 j hj).2)) (by decide) (by first | assumption | rfl) (by rfl) (Nat.le_of_ble_eq_true rfl) (Nat.le_refl _) (Nat.le_refl _) ?_
      rw [← hPsn i]
      refine z_ist7 dX1_lay_98 (by decide) rfl ?_
      refine z_aload_n dX1_lay_100 rfl ?_
      refine z_iload dX1_lay_101 rfl ?_
      refine z_iload dX1_lay_103 rfl ?_
      refine z_iload dX1_lay_105 rfl ?_
      refine z_cV3p mX1_fill gRX1_71 dX1_lay_107 (s_fill (h := Hq nq qd seed) hy hn a4 rfl (show i < 20 by omega) rfl rfl (Nat.le_of_lt hpi.1) hpi.2) (by decide) (by first | assumption | rfl) (by rfl) (Nat.le_of_ble_eq_true rfl) (Nat.le_refl _) (Nat.le_refl _) (fun r J hq => ?_)
      obtain ⟨rfl, b1, b2, b3, b4, b5, b6, b7⟩ := hq
      refine z_iload dX1_lay_110 rfl ?_
      refine z_ist5 dX1_lay_112 (by decide) rfl ?_
      refine z_inc6 (w := 1) dX1_lay_114 rfl (by decide) rfl ?_
      refine z_goto (tgt := 72) dX1_lay_117 (by decide) ?_
      rw [nI_1]
      refine z_fg7 ?_
      refine ih (i + 1) t _ (by omega) (fun a h1 h2 h3 h4 h5 h6 => ?_) ?_ ?_ ?_ (fun j hj => ?_) (fun j hj => ?_)
      · rw [b1 a h3 h4 h5 h6, a1 a h1 h2 h3 h4 h5 h6]
      · rw [b1 _ (by omega) (by omega) (by omega) (by omega), a2]
      · rw [b1 _ (by omega) (by omega) (by omega) (by omega), a3]
      · rw [b1 _ (by omega) (by omega) (by omega) (by omega)]; exact a4
      · by_cases hji : j = i
        · subst hji
          rw [b6, b7, upd_at, upd_at]
          exact ⟨rfl, rfl, fun k hk => ⟨b2 k hk, b4 k hk⟩⟩
        · obtain ⟨c1, c2, c3⟩ := a5 j (by omega)
          have c4 := a6 j (by omega)
          rw [b6, b7, upd_ne _ _ hji, upd_ne _ _ hji]
          refine ⟨c1, c2, fun k hk => ?_⟩
          rw [b3 _ (by omega), b5 _ (by omega)]
          exact c3 k hk
      · by_cases hji : j = i
        · rw [hji]; exact Nat.le_refl _
        · have := a6 j (by omega)
          omega
  have loop1 : ∀ (m k : Nat) (J : ZI), k + m = nq → (∀ a, a ≠ p + 9 → a ≠ p + 9 + 1 + 1 → J a = I a) → J (p + 9) 5 = nI nq → (∀ j, j < k → J (p + 9 + 1 + 1) j = nI (Hq nq qd seed j)) → (ZG X RX1 cX1_lay 8 3 0 0 0 0 11 [.ref (p + 9), .ref 2, .ref p, .int (nI lines), .int (nI k), zj, zj, zj] [] Sg J) := by
    intro m
    induction m with
    | zero =>
      intro k J hk a1 a2 a3
      have e : k = nq := by omega
      subst e
      refine z_iload dX1_lay_11 rfl ?_
      refine z_aload_n dX1_lay_13 rfl ?_
      refine z_getI fRX1_38 dX1_lay_14 (by first | assumption | rfl) (by rfl) ?_
      refine z_icmp_ge (tgt := 49) dX1_lay_17 (by decide) (fun _ => ?_) (fun hb => absurd (by rw [a2]; exact nI_le (Nat.le_refl _) (by omega)) hb)
      refine z_aload_n dX1_lay_49 rfl ?_
      refine z_aload_n dX1_lay_50 rfl ?_
      refine z_iconst (v := 0) dX1_lay_51 rfl ?_
      refine z_iload_n dX1_lay_52 rfl ?_
      refine z_cV2s mX1_pagesFrom gRX1_58 dX1_lay_53 (s_pagesFrom (h := Hq k qd seed) hy a2 hn a3 (show (0 : Int32) = nI 0 from rfl) (Nat.zero_le k) rfl hl60 (fun i hi => Nat.le_trans (L1 i hi).2 L2)) (by decide) (by first | assumption | rfl) (by rfl) (Nat.le_of_ble_eq_true rfl) (Nat.le_refl _) (Nat.le_refl _) ?_
      refine z_putI fRX1_61 dX1_lay_56 (by first | assumption | rfl) (by rfl) ?_
      refine z_aload_n dX1_lay_59 rfl ?_
      refine z_iload_n dX1_lay_60 rfl ?_
      have c1 : zup J (p + 9) 6 (nI (ndp (Hq k qd seed) lines k 0)) (p + 9) 5 = nI k := by rw [zup_at, upd_ne _ _ (by decide)]; exact a2
      have c2 : Rp (zup J (p + 9) 6 (nI (ndp (Hq k qd seed) lines k 0)) (p + 9 + 1 + 1)) (Hq k qd seed) k := by rw [zup_ne _ _ _ (by omega)]; exact a3
      have c3 : zup J (p + 9) 6 (nI (ndp (Hq k qd seed) lines k 0)) (p + 9) 6 = nI (Pn k qd seed lines) := by rw [zup_at, upd_at]; rfl
      refine z_cV1s mX1_lowestLimit gRX1_64 dX1_lay_61 (s_lowestLimit hy c1 hn c2 c3 rfl rfl hl9 hl60 (fun i hi => (Hq_in hV hi).2)) (by decide) (by first | assumption | rfl) (by rfl) (Nat.le_of_ble_eq_true rfl) (Nat.le_refl _) (Nat.le_refl _) ?_
      refine z_ist4 dX1_lay_64 (by decide) rfl ?_
      refine z_iconst (v := 0) dX1_lay_66 rfl ?_
      refine z_ist5 dX1_lay_67 (by decide) rfl ?_
      refine z_iconst (v := 0) dX1_lay_69 rfl ?_
      refine z_ist6 dX1_lay_70 (by decide) rfl ?_
      exact loop2 (Pn k qd seed lines) 0 zj _ (by omega) (fun a h1 h2 h3 h4 h5 h6 => by rw [zup_ne _ _ _ h1, a1 a h1 h2]) c1 c3 c2 (fun j hj => absurd hj (Nat.not_lt_zero j)) (fun j hj => absurd hj (Nat.not_lt_zero j))
    | succ m ih =>
      intro k J hk a1 a2 a3
      have hQJ : Qs J 2 nq qd := hQ.keep (a1 _ (by omega) (by omega)) (a1 _ (by omega) (by omega))
      have hO := (Od_en nq qd seed).1 k (by omega)
      refine z_iload dX1_lay_11 rfl ?_
      refine z_aload_n dX1_lay_13 rfl ?_
      refine z_getI fRX1_38 dX1_lay_14 (by first | assumption | rfl) (by rfl) ?_
      refine z_icmp_ge (tgt := 49) dX1_lay_17 (by decide) (fun hb => absurd hb (by rw [a2]; exact nI_ge (by omega) (by omega))) (fun _ => ?_)
      refine z_aload_n dX1_lay_20 rfl ?_
      refine z_getR fRX1_14 dX1_lay_21 (by first | assumption | rfl) (by rfl) ?_
      refine z_iload dX1_lay_24 rfl ?_
      refine z_aload_n dX1_lay_26 rfl ?_
      refine z_aload_n dX1_lay_27 rfl ?_
      refine z_getR fRX1_41 dX1_lay_28 (by first | assumption | rfl) (by rfl) ?_
      refine z_iload dX1_lay_31 rfl ?_
      refine z_cV1s mX6_get gRX1_44 dX1_lay_33 (s_getN hp.2.1 rfl (show k < 20 by omega)) (by decide) (by first | assumption | rfl) (by rfl) (Nat.le_of_ble_eq_true rfl) (Nat.le_refl _) (Nat.le_refl _) ?_
      rw [a1 (p + 1 + 1) (by omega) (by omega), hP.2.1 k (by omega)]
      refine z_iconst (v := 0) dX1_lay_36 rfl ?_
      refine z_cV2s mX5_number gRX1_48 dX1_lay_37 (s_number at_q hQJ hn rfl (show (0 : Int32) = nI 0 from rfl) hO (by decide)) (by decide) (by first | assumption | rfl) (by rfl) (Nat.le_of_ble_eq_true rfl) (Nat.le_refl _) (Nat.le_refl _) ?_
      refine z_cV2n mX6_set gRX1_54 dX1_lay_40 (s_setN hy.2.1 rfl (show k < 20 by omega)) (by decide) (by first | assumption | rfl) (by rfl) (Nat.le_of_ble_eq_true rfl) (Nat.le_refl _) (Nat.le_refl _) ?_
      refine z_inc4 (w := 1) dX1_lay_43 rfl (by decide) rfl ?_
      refine z_goto (tgt := 11) dX1_lay_46 (by decide) ?_
      rw [nI_1]
      refine ih (k + 1) _ (by omega) (fun a h1 h2 => ?_) ?_ (fun j hj => ?_)
      · rw [zup_ne _ _ _ h2, a1 a h1 h2]
      · rw [zup_ne _ _ _ (by omega), a2]
      · rw [zup_at]
        by_cases hjk : j = k
        · rw [hjk, upd_at]; rfl
        · rw [upd_ne _ _ hjk, a3 j (by omega)]
  refine z_aload_n dX1_lay_0 rfl ?_
  refine z_aload_n dX1_lay_1 rfl ?_
  refine z_getI fRX1_32 dX1_lay_2 (by first | assumption | rfl) (by rfl) ?_
  refine z_putI fRX1_38 dX1_lay_5 (by first | assumption | rfl) (by rfl) ?_
  refine z_iconst (v := 0) dX1_lay_8 rfl ?_
  refine z_ist4 dX1_lay_9 (by decide) rfl ?_
  rw [hP.1]
  exact loop1 nq 0 _ (by omega) (fun a h1 _ => zup_ne _ _ _ h1) (by rw [zup_at, upd_at]) (fun j hj => absurd hj (Nat.not_lt_zero j))

