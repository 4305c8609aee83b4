/-! ===== the model: how many pages a row of places needs ===== -/
theorem mxh_ex {h : Nat → Nat} : ∀ {n l : Nat}, l < mxh h n → ∃ i, i < n ∧ l < h i
  | 0, l, hl => absurd hl (Nat.not_lt_zero l)
  | n + 1, l, hl => by
    rw [mxh] at hl
    by_cases c : mxh h n < h n
    · rw [if_pos c] at hl
      exact ⟨n, Nat.lt_succ_self n, hl⟩
    · rw [if_neg c] at hl
      obtain ⟨i, a, b⟩ := mxh_ex (h := h) (n := n) hl
      exact ⟨i, by omega, b⟩
theorem q_needs {I : ZI} {A : AS} {seed x y r : Int32} {p0 L : Nat} (h : RV (I 260) A) (hV : AV A) (hR : Rp (I 262) (Od (anq A) (aqd A) seed) (anq A)) (hx : x = nI p0) (hp0 : p0 ≤ anq A) (hy : y = nI L) (hL : L ≤ 60) (h1 : (∀ i, p0 ≤ i → i < anq A → Hq (anq A) (aqd A) seed i ≤ L) → r = nI (ndp (Hq (anq A) (aqd A) seed) L (anq A) p0)) (h0 : (∃ i, p0 ≤ i ∧ i < anq A ∧ L < Hq (anq A) (aqd A) seed i) → r = 99) : ZE yX10_needs cX10_needs 7 (some FieldType.int) 1 [.ref 259, .int x, .int y] Sg I (some (.int r)) I := by
  have g0 := m_obj
  have hn := hV.1.1
  have hO := Od_en (anq A) (aqd A) seed
  subst hx
  subst hy
  refine ZSp.of (own := RX10) (L := [.ref 259, .int (nI p0), .int (nI L), zj, zj, zj, zj]) mX10_needs rfl (List.all_eq_true.mp rfl) (Nat.le_of_ble_eq_true rfl) rfl (fun X hE hN => ?_)
  have loop : ∀ (k p l c : Nat), p + k = anq A → p0 ≤ p → l ≤ L → (∀ i, p0 ≤ i → i < p → Hq (anq A) (aqd A) seed i ≤ L) → c + nd (Hq (anq A) (aqd A) seed) L (anq A - p) p l = ndp (Hq (anq A) (aqd A) seed) L (anq A) p0 → (ZG X RX10 cX10_needs 7 1 0 0 0 0 8 [.ref 259, .int (nI p0), .int (nI L), .int (nI c), .int (nI l), .int (nI p), zj] [] Sg I) := by
    intro k
    induction k with
    | zero =>
      intro p l c hp hp1 hl hh hc
      have e : p = anq A := by omega
      subst e
      rw [Nat.sub_self] at hc
      have e0 : nd (Hq (anq A) (aqd A) seed) L 0 (anq A) l = 0 := rfl
      rw [e0] at hc
      refine z_iload dX10_needs_8 rfl ?_
      refine z_aload_n dX10_needs_10 rfl ?_
      refine z_getR fRX10_7 dX10_needs_11 (by first | assumption | rfl) (by rfl) ?_
      refine z_iconst (v := 0) dX10_needs_14 rfl ?_
      refine z_ialdN (j := 0) dX10_needs_15 m_v (rfl) (by decide) (by decide) ?_
      rw [h.1]
      refine z_icmp_ge (tgt := 84) dX10_needs_16 (by decide) (fun _ => ?_) (fun hb => absurd (nI_le (Nat.le_refl _) (by omega)) hb)
      refine z_iload_n dX10_needs_84 rfl ?_
      exact z_eireturn hE dX10_needs_85 (by rw [h1 hh, ← hc]; rfl) rfl
    | succ k ih =>
      intro p l c hp hp1 hl hh hc
      have hp2 : p < anq A := by omega
      have h9 := (Hq_in (seed := seed) hV.1 hp2).2
      have hq : aqd A (Od (anq A) (aqd A) seed p) 0 = Hq (anq A) (aqd A) seed p := rfl
      have hcn : c ≤ ndp (Hq (anq A) (aqd A) seed) L (anq A) p0 := by omega
      have hc20 := ndp_le (Hq (anq A) (aqd A) seed) L (anq A) p0
      refine z_iload dX10_needs_8 rfl ?_
      refine z_aload_n dX10_needs_10 rfl ?_
      refine z_getR fRX10_7 dX10_needs_11 (by first | assumption | rfl) (by rfl) ?_
      refine z_iconst (v := 0) dX10_needs_14 rfl ?_
      refine z_ialdN (j := 0) dX10_needs_15 m_v (rfl) (by decide) (by decide) ?_
      rw [h.1]
      refine z_icmp_ge (tgt := 84) dX10_needs_16 (by decide) (fun hb => absurd hb (nI_ge (by omega) (by omega))) (fun _ => ?_)
      refine z_aload_n dX10_needs_19 rfl ?_
      refine z_aload_n dX10_needs_20 rfl ?_
      refine z_getR fRX10_16 dX10_needs_21 (by first | assumption | rfl) (by rfl) ?_
      refine z_iload dX10_needs_24 rfl ?_
      refine z_ialdN dX10_needs_26 m_order (rfl) (by omega) (by decide) ?_
      rw [hR p hp2]
      refine z_iconst (v := 0) dX10_needs_27 rfl ?_
      refine z_cV2s mX10_of gRX10_61 dX10_needs_28 (q_of h hn rfl (show (0 : Int32) = nI 0 from rfl) (hO.1 p hp2) (by decide)) (by decide) (by first | assumption | rfl) (by rfl) (Nat.le_of_ble_eq_true rfl) (Nat.le_refl _) (Nat.le_refl _) ?_
      rw [hq]
      refine z_ist6 dX10_needs_31 (by decide) rfl ?_
      refine z_iload dX10_needs_33 rfl ?_
      refine z_iload_n dX10_needs_35 rfl ?_
      by_cases hle : Hq (anq A) (aqd A) seed p ≤ L
      · refine z_icmp_le (tgt := 42) dX10_needs_36 (by decide) (fun _ => ?_) (fun hb => absurd (nI_le hle (by omega)) hb)
        have hh2 : ∀ i, p0 ≤ i → i < p + 1 → Hq (anq A) (aqd A) seed i ≤ L := fun i q1 q2 => by
          by_cases e : i = p
          · rw [e]; exact hle
          · exact hh i q1 (by omega)
        rw [show anq A - p = (anq A - (p + 1)) + 1 by omega, nd] at hc
        refine z_iload_n dX10_needs_42 rfl ?_
        refine z_iload dX10_needs_43 rfl ?_
        refine z_iload dX10_needs_45 rfl ?_
        by_cases hlt : l < Hq (anq A) (aqd A) seed p
        · rw [if_pos hlt] at hc
          refine z_icmp_le (tgt := 54) dX10_needs_47 (by decide) (fun hb => absurd hb (fun z => absurd ((nI_leI (by omega) (by omega)).mp z) (by omega))) (fun _ => ?_)
          refine z_iconst (v := 1) dX10_needs_50 rfl ?_
          refine z_goto (tgt := 55) dX10_needs_51 (by decide) ?_
          refine z_iadd dX10_needs_55 ?_
          refine z_ist3 dX10_needs_56 (by decide) rfl ?_
          refine z_iload dX10_needs_57 rfl ?_
          refine z_iload dX10_needs_59 rfl ?_
          refine z_icmp_le (tgt := 71) dX10_needs_61 (by decide) (fun hb => absurd hb (fun z => absurd ((nI_leI (by omega) (by omega)).mp z) (by omega))) (fun _ => ?_)
          refine z_iload_n dX10_needs_64 rfl ?_
          refine z_iload dX10_needs_65 rfl ?_
          refine z_isub dX10_needs_67 ?_
          refine z_goto (tgt := 76) dX10_needs_68 (by decide) ?_
          refine z_ist4 dX10_needs_76 (by decide) rfl ?_
          refine z_inc5 (w := 1) dX10_needs_78 rfl (by decide) rfl ?_
          refine z_goto (tgt := 8) dX10_needs_81 (by decide) ?_
          rw [nI_1, nI_1, pk_sub hle]
          refine z_fg6 ?_
          exact ih (p + 1) (L - Hq (anq A) (aqd A) seed p) (c + 1) (by omega) (by omega) (by omega) hh2 (by omega)
        · rw [if_neg hlt] at hc
          have hge : Hq (anq A) (aqd A) seed p ≤ l := by omega
          refine z_icmp_le (tgt := 54) dX10_needs_47 (by decide) (fun _ => ?_) (fun hb => absurd (nI_le hge (by omega)) hb)
          refine z_iconst (v := 0) dX10_needs_54 rfl ?_
          refine z_iadd dX10_needs_55 ?_
          refine z_ist3 dX10_needs_56 (by decide) rfl ?_
          refine z_iload dX10_needs_57 rfl ?_
          refine z_iload dX10_needs_59 rfl ?_
          refine z_icmp_le (tgt := 71) dX10_needs_61 (by decide) (fun _ => ?_) (fun hb => absurd (nI_le hge (by omega)) hb)
          refine z_iload dX10_needs_71 rfl ?_
          refine z_iload dX10_needs_73 rfl ?_
          refine z_isub dX10_needs_75 ?_
          refine z_ist4 dX10_needs_76 (by decide) rfl ?_
          refine z_inc5 (w := 1) dX10_needs_78 rfl (by decide) rfl ?_
          refine z_goto (tgt := 8) dX10_needs_81 (by decide) ?_
          rw [Int32.add_zero, pk_sub hge, nI_1]
          refine z_fg6 ?_
          exact ih (p + 1) (l - Hq (anq A) (aqd A) seed p) c (by omega) (by omega) (by omega) hh2 hc
      · refine z_icmp_le (tgt := 42) dX10_needs_36 (by decide) (fun hb => absurd hb (fun z => absurd ((nI_leI (by omega) (by omega)).mp z) hle)) (fun _ => ?_)
        refine z_bipush (v := 99) dX10_needs_39 rfl ?_
        exact z_eireturn hE dX10_needs_41 (by rw [h0 ⟨p, hp1, hp2, by omega⟩]) rfl
  refine z_iconst (v := 0) dX10_needs_0 rfl ?_
  refine z_ist3 dX10_needs_1 (by decide) rfl ?_
  refine z_iconst (v := 0) dX10_needs_2 rfl ?_
  refine z_ist4 dX10_needs_3 (by decide) rfl ?_
  refine z_iload_n dX10_needs_5 rfl ?_
  refine z_ist5 dX10_needs_6 (by decide) rfl ?_
  exact loop (anq A - p0) p0 0 0 (by omega) (Nat.le_refl _) (Nat.zero_le _) (fun i q1 q2 => absurd q2 (by omega)) (by rw [Nat.zero_add]; rfl)
/-! ===== the model: its pages ===== -/
def LPf (J : ZI) (A : AS) (seed : Int32) : Prop := J 259 12 = nI (Pn (anq A) (aqd A) seed (aln A)) ∧ ∀ i, i < Pn (anq A) (aqd A) seed (aln A) → ∀ k, k < Ps (anq A) (aqd A) seed (aln A) (i + 1) - Ps (anq A) (aqd A) seed (aln A) i → J 267 (Ps (anq A) (aqd A) seed (aln A) i + k) = nI i ∧ J 268 (Ps (anq A) (aqd A) seed (aln A) i + k) = nI (smh (Hq (anq A) (aqd A) seed) (Ps (anq A) (aqd A) seed (aln A) i) k)
/-- what the laying of pages leaves as it was -/
def LFr (I J : ZI) : Prop := (∀ a, a ≠ 259 → a ≠ 267 → a ≠ 268 → J a = I a) ∧ ∀ k, k ≠ 12 → J 259 k = I 259 k
theorem LFr.ri {I J : ZI} {A : AS} {hc : Nat} {Hh : Nat → AS} {tc : Nat} {bf : Nat → Nat} (h : RI I A hc Hh tc bf) (f : LFr I J) : RI J A hc Hh tc bf :=
  h.keep (f.1 260 (by decide) (by decide) (by decide)) (f.1 261 (by decide) (by decide) (by decide)) (f.1 271 (by decide) (by decide) (by decide)) (f.2 2 (by decide)) (f.2 16 (by decide))
theorem LFr.mp {I J : ZI} {A : AS} {seed : Int32} (h : MPf I A seed) (f : LFr I J) : MPf J A seed := by
  unfold MPf
  rw [f.1 262 (by decide) (by decide) (by decide), f.1 263 (by decide) (by decide) (by decide), f.1 264 (by decide) (by decide) (by decide)]
  exact h
theorem q_lays0 {I : ZI} {A : AS} {seed : Int32} {M L : Nat} {P H : Nat → Nat} (h : RV (I 260) A) (hV : AV A) (hM : MPf I A seed) (eh : Hq (anq A) (aqd A) seed = H) (L1 : ∀ i, i < anq A → 1 ≤ H i ∧ H i ≤ L) (L2 : L ≤ aln A) (hMn : M ≤ anq A) (hPs : ∀ i, i < M → P i < P (i + 1) ∧ P (i + 1) ≤ anq A) (hP0 : P 0 = 0) (hmx : mxh H (anq A) ≤ 9) (hPsn : ∀ i, P (i + 1) = eef H L (anq A) (M - i - 1) (anq A - (P i + 1)) (P i + 1)) (hLm : L = lmf H (anq A) M (aln A - mxh H (anq A)) (mxh H (anq A))) (hPn0 : ndp H (aln A) (anq A) 0 = M) :
    ZP yX10_lays cX10_lays 6 none 2 [.ref 259] Sg I (fun r J => r = none ∧ LFr I J ∧ J 259 12 = nI M ∧ ∀ i, i < M → ∀ k, k < P (i + 1) - P i → J 267 (P i + k) = nI i ∧ J 268 (P i + k) = nI (smh H (P i) k)) := by
  have g0 := m_obj
  have hn := hV.1.1
  have hO := Od_en (anq A) (aqd A) seed
  have hl9 := hV.2.2.1
  have hl60 := hV.2.2.2.1
  refine ZSp.of (own := RX10) (L := [.ref 259, zj, zj, zj, zj, zj]) mX10_lays rfl (List.all_eq_true.mp rfl) (Nat.le_of_ble_eq_true rfl) rfl (fun X hE hN => ?_)
  have outer : ∀ (m i : Nat) (w : Value) (K : ZI), i + m = M → LFr I K → K 259 12 = nI M → (∀ j, j < i → P (j + 1) ≤ P i ∧ ∀ k, k < P (j + 1) - P j → K 267 (P j + k) = nI j ∧ K 268 (P j + k) = nI (smh H (P j) k)) → (ZG X RX10 cX10_lays 6 2 0 0 0 0 40 [.ref 259, .int (nI L), .int (nI (P i)), .int (nI i), w, zj] [] Sg K) := by
    intro m
    induction m with
    | zero =>
      intro i w K hi c1 c2 c3
      have e : i = M := by omega
      subst e
      refine z_iload_n dX10_lays_40 rfl ?_
      refine z_aload_n dX10_lays_41 rfl ?_
      refine z_getI fRX10_98 dX10_lays_42 (by first | assumption | rfl) (by rfl) ?_
      rw [c2]
      refine z_icmp_ge (tgt := 126) dX10_lays_45 (by decide) (fun _ => ?_) (fun hb => absurd (nI_le (Nat.le_refl _) (by omega)) hb)
      exact z_vret hE dX10_lays_126 ⟨rfl, rfl, c1, c2, fun j hj k hk => (c3 j hj).2 k hk⟩
    | succ m ih =>
      intro i w K hi c1 c2 c3
      have hpi := hPs i (by omega)
      have inner : ∀ (m p : Nat) (K : ZI), p + m = anq A → P i ≤ p → p < anq A → eef H L (anq A) (M - i - 1) (anq A - (p + 1)) (p + 1) = P (i + 1) → LFr I K → K 259 12 = nI M → (∀ j, j < i → P (j + 1) ≤ P i ∧ ∀ k, k < P (j + 1) - P j → K 267 (P j + k) = nI j ∧ K 268 (P j + k) = nI (smh H (P j) k)) → (∀ k, k < p - P i → K 267 (P i + k) = nI i ∧ K 268 (P i + k) = nI (smh H (P i) k)) → (ZG X RX10 cX10_lays 6 2 0 0 0 0 54 [.ref 259, .int (nI L), .int (nI p), .int (nI i), .int (nI (smh H (P i) (p - P i))), .int 1] [] Sg K) := by
        intro m
        induction m with
        | zero =>
          intro p K hp hp1 hp2
          omega
        | succ m ih2 =>
          intro p K hp hp1 hp2 he d1 d2 d3 d4
          have hRK : RV (K 260) A := by rw [d1.1 _ (by decide) (by decide) (by decide)]; exact h
          have hOp := hO.1 p hp2
          have eH : aqd A (Od (anq A) (aqd A) seed p) 0 = H p := by rw [← eh]; rfl
          have eO : K 262 p = nI (Od (anq A) (aqd A) seed p) := by rw [d1.1 _ (by decide) (by decide) (by decide)]; exact hM.1 p hp2
          have fr : LFr I (zup (zup K 267 p (nI i)) 268 p (nI (smh H (P i) (p - P i)))) := ⟨fun a q1 q2 q3 => by rw [zup_ne _ _ _ q3, zup_ne _ _ _ q2]; exact d1.1 a q1 q2 q3, fun k q => by rw [zup_ne _ _ _ (by decide), zup_ne _ _ _ (by decide)]; exact d1.2 k q⟩
          have hR2 : RV (zup (zup K 267 p (nI i)) 268 p (nI (smh H (P i) (p - P i))) 260) A := by rw [fr.1 _ (by decide) (by decide) (by decide)]; exact h
          have hO2 : Rp (zup (zup K 267 p (nI i)) 268 p (nI (smh H (P i) (p - P i))) 262) (Od (anq A) (aqd A) seed) (anq A) := by rw [fr.1 _ (by decide) (by decide) (by decide)]; exact hM.1
          have e12 : zup (zup K 267 p (nI i)) 268 p (nI (smh H (P i) (p - P i))) 259 12 = nI M := by rw [zup_ne _ _ _ (by decide), zup_ne _ _ _ (by decide)]; exact d2
          have d3' : ∀ j, j < i → P (j + 1) ≤ P i ∧ ∀ k, k < P (j + 1) - P j → zup (zup K 267 p (nI i)) 268 p (nI (smh H (P i) (p - P i))) 267 (P j + k) = nI j ∧ zup (zup K 267 p (nI i)) 268 p (nI (smh H (P i) (p - P i))) 268 (P j + k) = nI (smh H (P j) k) := fun j hj => by
            obtain ⟨q1, q2⟩ := d3 j hj
            refine ⟨q1, fun k hk => ?_⟩
            rw [zup_ne _ _ _ (show (267 : Nat) ≠ 268 by decide), zup_at, zup_at, zup_ne _ _ _ (show (268 : Nat) ≠ 267 by decide), upd_ne _ _ (by omega), upd_ne _ _ (by omega)]
            exact q2 k hk
          have d4' : ∀ k, k < p + 1 - P i → zup (zup K 267 p (nI i)) 268 p (nI (smh H (P i) (p - P i))) 267 (P i + k) = nI i ∧ zup (zup K 267 p (nI i)) 268 p (nI (smh H (P i) (p - P i))) 268 (P i + k) = nI (smh H (P i) k) := fun k hk => by
            rw [zup_ne _ _ _ (show (267 : Nat) ≠ 268 by decide), zup_at, zup_at, zup_ne _ _ _ (show (268 : Nat) ≠ 267 by decide)]
            by_cases e : k = p - P i
            · subst e
              rw [show P i + (p - P i) = p by omega, upd_at, upd_at]
              exact ⟨rfl, rfl⟩
            · rw [upd_ne _ _ (by omega), upd_ne _ _ (by omega)]
              exact d4 k (by omega)
          have es : smh H (P i) (p - P i) + H p = smh H (P i) (p + 1 - P i) := by
            rw [show p + 1 - P i = (p - P i) + 1 by omega, smh, show P i + (p - P i) = p by omega]
          have nle := ndp_le H L (anq A) (p + 1)
          refine z_iload dX10_lays_54 rfl ?_
          refine z_if_eq (tgt := 120) dX10_lays_56 (by decide) (fun hb => absurd hb (by decide)) (fun _ => ?_)
          refine z_aload_n dX10_lays_59 rfl ?_
          refine z_getR fRX10_31 dX10_lays_60 (by first | assumption | rfl) (by rfl) ?_
          refine z_iload_n dX10_lays_63 rfl ?_
          refine z_iload_n dX10_lays_64 rfl ?_
          refine z_iastN dX10_lays_65 m_pageOf (rfl) (by omega) (by decide) ?_
          refine z_aload_n dX10_lays_66 rfl ?_
          refine z_getR fRX10_34 dX10_lays_67 (by first | assumption | rfl) (by rfl) ?_
          refine z_iload_n dX10_lays_70 rfl ?_
          refine z_iload dX10_lays_71 rfl ?_
          refine z_iastN dX10_lays_73 m_lineOf (rfl) (by omega) (by decide) ?_
          refine z_iload dX10_lays_74 rfl ?_
          refine z_aload_n dX10_lays_76 rfl ?_
          refine z_aload_n dX10_lays_77 rfl ?_
          refine z_getR fRX10_16 dX10_lays_78 (by first | assumption | rfl) (by rfl) ?_
          refine z_iload_n dX10_lays_81 rfl ?_
          refine z_ialdN dX10_lays_82 m_order (rfl) (by omega) (by decide) ?_
          rw [hO2 p hp2]
          refine z_iconst (v := 0) dX10_lays_83 rfl ?_
          refine z_cV2s mX10_of gRX10_61 dX10_lays_84 (q_of hR2 hn rfl (show (0 : Int32) = nI 0 from rfl) hOp (by decide)) (by decide) (by first | assumption | rfl) (by rfl) (Nat.le_of_ble_eq_true rfl) (Nat.le_refl _) (Nat.le_refl _) ?_
          rw [eH]
          refine z_iadd dX10_lays_87 ?_
          refine z_ist4 dX10_lays_88 (by decide) rfl ?_
          refine z_inc2 (w := 1) dX10_lays_90 rfl (by decide) rfl ?_
          refine z_aload_n dX10_lays_93 rfl ?_
          refine z_iload_n dX10_lays_94 rfl ?_
          refine z_iload_n dX10_lays_95 rfl ?_
          rw [nI_add, es, nI_1]
          refine z_cV2s mX10_needs gRX10_95 dX10_lays_96 (q_needs (r := nI (ndp H L (anq A) (p + 1))) hR2 hV hO2 rfl (show p + 1 ≤ anq A by omega) rfl (show L ≤ 60 by omega) (fun _ => by rw [eh]) (fun ⟨j, _, j2, j3⟩ => by rw [eh] at j3; have := (L1 j j2).2; omega)) (by decide) (by first | assumption | rfl) (by rfl) (Nat.le_of_ble_eq_true rfl) (Nat.le_refl _) (Nat.le_refl _) ?_
          refine z_aload_n dX10_lays_99 rfl ?_
          refine z_getI fRX10_98 dX10_lays_100 (by first | assumption | rfl) (by rfl) ?_
          refine z_iconst (v := 1) dX10_lays_103 rfl ?_
          refine z_isub dX10_lays_104 ?_
          refine z_iload_n dX10_lays_105 rfl ?_
          refine z_isub dX10_lays_106 ?_
          rw [e12, show nI M - 1 - nI i = nI (M - i - 1) from by rw [show nI M - 1 = nI (M - 1) from pk_sub (b := 1) (by omega), pk_sub (by omega), show M - 1 - i = M - i - 1 by omega]]
          by_cases hle : ndp H L (anq A) (p + 1) ≤ M - i - 1
          · have hend : P (i + 1) = p + 1 := by
              rw [← he]
              cases hk : anq A - (p + 1) with
              | zero => rfl
              | succ k => rw [eef, if_neg (by omega)]
            refine z_icmp_le (tgt := 114) dX10_lays_107 (by decide) (fun _ => ?_) (fun hb => absurd (nI_le hle (by omega)) hb)
            refine z_iconst (v := 0) dX10_lays_114 rfl ?_
            refine z_ist5 dX10_lays_115 (by decide) rfl ?_
            refine z_goto (tgt := 54) dX10_lays_117 (by decide) ?_
            refine z_iload dX10_lays_54 rfl ?_
            refine z_if_eq (tgt := 120) dX10_lays_56 (by decide) (fun _ => ?_) (fun hb => absurd (rfl) hb)
            refine z_inc3 (w := 1) dX10_lays_120 rfl (by decide) rfl ?_
            refine z_goto (tgt := 40) dX10_lays_123 (by decide) ?_
            rw [nI_1, ← hend]
            refine z_fg5 ?_
            refine ih (i + 1) _ _ (by omega) fr e12 (fun j hj => ?_)
            by_cases ej : j = i
            · subst ej
              refine ⟨Nat.le_refl _, fun k hk => d4' k (by omega)⟩
            · obtain ⟨q1, q2⟩ := d3' j (by omega)
              exact ⟨by omega, q2⟩
          · have hp3 : p + 1 < anq A := by
              rcases Nat.lt_or_ge (p + 1) (anq A) with q | q
              · exact q
              · have e : p + 1 = anq A := by omega
                rw [e, ndp_end] at hle
                omega
            have he2 : eef H L (anq A) (M - i - 1) (anq A - (p + 1 + 1)) (p + 1 + 1) = P (i + 1) := by
              rw [← he, show anq A - (p + 1) = (anq A - (p + 1 + 1)) + 1 by omega, eef, if_pos (by omega)]
            refine z_icmp_le (tgt := 114) dX10_lays_107 (by decide) (fun hb => absurd hb (fun z => absurd ((nI_leI (by omega) (by omega)).mp z) hle)) (fun _ => ?_)
            refine z_iconst (v := 1) dX10_lays_110 rfl ?_
            refine z_goto (tgt := 115) dX10_lays_111 (by decide) ?_
            refine z_ist5 dX10_lays_115 (by decide) rfl ?_
            refine z_goto (tgt := 54) dX10_lays_117 (by decide) ?_
            exact ih2 (p + 1) _ (by omega) (by omega) hp3 he2 fr e12 d3' d4'
      refine z_iload_n dX10_lays_40 rfl ?_
      refine z_aload_n dX10_lays_41 rfl ?_
      refine z_getI fRX10_98 dX10_lays_42 (by first | assumption | rfl) (by rfl) ?_
      rw [c2]
      refine z_icmp_ge (tgt := 126) dX10_lays_45 (by decide) (fun hb => absurd hb (nI_ge (by omega) (by omega))) (fun _ => ?_)
      refine z_iconst (v := 0) dX10_lays_48 rfl ?_
      refine z_ist4 dX10_lays_49 (by decide) rfl ?_
      refine z_iconst (v := 1) dX10_lays_51 rfl ?_
      refine z_ist5 dX10_lays_52 (by decide) rfl ?_
      have e0 := hPsn i
      have := inner (anq A - P i) (P i) K (by omega) (Nat.le_refl _) (by omega) e0.symm c1 c2 c3 (fun k hk => absurd hk (by omega))
      rw [Nat.sub_self] at this
      exact this
  have most : 0 < anq A → ∀ (k l : Nat) (K : ZI), l + k = aln A → 1 ≤ l → (mxh H (anq A) ≤ l → lmf H (anq A) M (aln A - l) l = L) → LFr I K → K 259 12 = nI M → (ZG X RX10 cX10_lays 6 2 0 0 0 0 17 [.ref 259, .int (nI l), zj, zj, zj, zj] [] Sg K) := by
    intro h0 k
    induction k with
    | zero =>
      intro l K hl hl1 hv c1 c2
      have hRK : RV (K 260) A := by rw [c1.1 _ (by decide) (by decide) (by decide)]; exact h
      have hOK : Rp (K 262) (Od (anq A) (aqd A) seed) (anq A) := by rw [c1.1 _ (by decide) (by decide) (by decide)]; exact hM.1
      have e : l = aln A := by omega
      have e2 : L = l := by
        rw [← hv (by omega), show aln A - l = 0 by omega]
        rfl
      have hall : ∀ j, j < anq A → H j ≤ l := fun j hj => by have := (L1 j hj).2; omega
      refine z_aload_n dX10_lays_17 rfl ?_
      refine z_iconst (v := 0) dX10_lays_18 rfl ?_
      refine z_iload_n dX10_lays_19 rfl ?_
      refine z_cV2s mX10_needs gRX10_95 dX10_lays_20 (q_needs (r := nI (ndp H l (anq A) 0)) hRK hV hOK (show (0 : Int32) = nI 0 from rfl) (Nat.zero_le _) rfl (show l ≤ 60 by omega) (fun _ => by rw [eh]) (fun ⟨j, _, j2, j3⟩ => by rw [eh] at j3; have := hall j j2; omega)) (by decide) (by first | assumption | rfl) (by rfl) (Nat.le_of_ble_eq_true rfl) (Nat.le_refl _) (Nat.le_refl _) ?_
      refine z_aload_n dX10_lays_23 rfl ?_
      refine z_getI fRX10_98 dX10_lays_24 (by first | assumption | rfl) (by rfl) ?_
      have e3 : ndp H l (anq A) 0 = M := by rw [e]; exact hPn0
      rw [c2, e3]
      refine z_icmp_le (tgt := 36) dX10_lays_27 (by decide) (fun _ => ?_) (fun hb => absurd (nI_le (Nat.le_refl _) (by omega)) hb)
      refine z_iconst (v := 0) dX10_lays_36 rfl ?_
      refine z_ist2 dX10_lays_37 (by decide) rfl ?_
      refine z_iconst (v := 0) dX10_lays_38 rfl ?_
      refine z_ist3 dX10_lays_39 (by decide) rfl ?_
      rw [← e2]
      have := outer M 0 zj K (by omega) c1 c2 (fun j hj => absurd hj (Nat.not_lt_zero j))
      rw [hP0] at this
      exact this
    | succ k ih =>
      intro l K hl hl1 hv c1 c2
      have hRK : RV (K 260) A := by rw [c1.1 _ (by decide) (by decide) (by decide)]; exact h
      have hOK : Rp (K 262) (Od (anq A) (aqd A) seed) (anq A) := by rw [c1.1 _ (by decide) (by decide) (by decide)]; exact hM.1
      have nle := ndp_le H l (anq A) 0
      refine z_aload_n dX10_lays_17 rfl ?_
      refine z_iconst (v := 0) dX10_lays_18 rfl ?_
      refine z_iload_n dX10_lays_19 rfl ?_
      by_cases hm : mxh H (anq A) ≤ l
      · have hall : ∀ j, j < anq A → H j ≤ l := fun j hj => Nat.le_trans (mxh_le hj) hm
        have hv2 := hv hm
        rw [show aln A - l = (aln A - (l + 1)) + 1 by omega, lmf] at hv2
        refine z_cV2s mX10_needs gRX10_95 dX10_lays_20 (q_needs (r := nI (ndp H l (anq A) 0)) hRK hV hOK (show (0 : Int32) = nI 0 from rfl) (Nat.zero_le _) rfl (show l ≤ 60 by omega) (fun _ => by rw [eh]) (fun ⟨j, _, j2, j3⟩ => by rw [eh] at j3; have := hall j j2; omega)) (by decide) (by first | assumption | rfl) (by rfl) (Nat.le_of_ble_eq_true rfl) (Nat.le_refl _) (Nat.le_refl _) ?_
        refine z_aload_n dX10_lays_23 rfl ?_
        refine z_getI fRX10_98 dX10_lays_24 (by first | assumption | rfl) (by rfl) ?_
        rw [c2]
        by_cases hle : M < ndp H l (anq A) 0
        · rw [if_pos hle] at hv2
          refine z_icmp_le (tgt := 36) dX10_lays_27 (by decide) (fun hb => absurd hb (fun z => absurd ((nI_leI (by omega) (by omega)).mp z) (by omega))) (fun _ => ?_)
          refine z_inc1 (w := 1) dX10_lays_30 rfl (by decide) rfl ?_
          refine z_goto (tgt := 17) dX10_lays_33 (by decide) ?_
          rw [nI_1]
          exact ih (l + 1) K (by omega) (by omega) (fun _ => hv2) c1 c2
        · rw [if_neg hle] at hv2
          refine z_icmp_le (tgt := 36) dX10_lays_27 (by decide) (fun _ => ?_) (fun hb => absurd (nI_le (by omega) (by omega)) hb)
          refine z_iconst (v := 0) dX10_lays_36 rfl ?_
          refine z_ist2 dX10_lays_37 (by decide) rfl ?_
          refine z_iconst (v := 0) dX10_lays_38 rfl ?_
          refine z_ist3 dX10_lays_39 (by decide) rfl ?_
          rw [hv2]
          have := outer M 0 zj K (by omega) c1 c2 (fun j hj => absurd hj (Nat.not_lt_zero j))
          rw [hP0] at this
          exact this
      · obtain ⟨j0, j1, j2⟩ := mxh_ex (h := H) (n := anq A) (l := l) (by omega)
        refine z_cV2s mX10_needs gRX10_95 dX10_lays_20 (q_needs (r := 99) hRK hV hOK (show (0 : Int32) = nI 0 from rfl) (Nat.zero_le _) rfl (show l ≤ 60 by omega) (fun z => by rw [eh] at z; exact absurd (z j0 (Nat.zero_le _) j1) (by omega)) (fun _ => rfl)) (by decide) (by first | assumption | rfl) (by rfl) (Nat.le_of_ble_eq_true rfl) (Nat.le_refl _) (Nat.le_refl _) ?_
        refine z_aload_n dX10_lays_23 rfl ?_
        refine z_getI fRX10_98 dX10_lays_24 (by first | assumption | rfl) (by rfl) ?_
        rw [c2]
        refine z_icmp_le (tgt := 36) dX10_lays_27 (by decide) (fun hb => absurd hb (nI_ge (b := 99) (show M < 99 by omega) (by decide))) (fun _ => ?_)
        refine z_inc1 (w := 1) dX10_lays_30 rfl (by decide) rfl ?_
        refine z_goto (tgt := 17) dX10_lays_33 (by decide) ?_
        rw [nI_1]
        refine ih (l + 1) K (by omega) (by omega) (fun z => ?_) c1 c2
        have e : mxh H (anq A) = l + 1 := by omega
        rw [hLm, e]
  refine z_aload_n dX10_lays_0 rfl ?_
  refine z_aload_n dX10_lays_1 rfl ?_
  refine z_iconst (v := 0) dX10_lays_2 rfl ?_
  refine z_aload_n dX10_lays_3 rfl ?_
  refine z_getR fRX10_7 dX10_lays_4 (by first | assumption | rfl) (by rfl) ?_
  refine z_iconst (v := 2) dX10_lays_7 rfl ?_
  refine z_ialdN (j := 2) dX10_lays_8 m_v (rfl) (by decide) (by decide) ?_
  rw [h.2.2.1]
  refine z_cV2s mX10_needs gRX10_95 dX10_lays_9 (q_needs (r := nI M) h hV hM.1 (show (0 : Int32) = nI 0 from rfl) (Nat.zero_le _) rfl hl60 (fun _ => by rw [eh, hPn0]) (fun ⟨j, _, j2, j3⟩ => by rw [eh] at j3; have := (L1 j j2).2; omega)) (by decide) (by first | assumption | rfl) (by rfl) (Nat.le_of_ble_eq_true rfl) (Nat.le_refl _) (Nat.le_refl _) ?_
  have c1 : LFr I (zup I 259 12 (nI M)) := ⟨fun a q1 _ _ => zup_ne _ _ _ q1, fun k q => by rw [zup_at, upd_ne _ _ q]⟩
  have c2 : zup I 259 12 (nI M) 259 12 = nI M := by rw [zup_at, upd_at]
  by_cases h0 : anq A = 0
  · have eM0 : M = 0 := by omega
    subst eM0
    have hRK : RV (zup I 259 12 (nI 0) 260) A := by rw [c1.1 _ (by decide) (by decide) (by decide)]; exact h
    have hOK : Rp (zup I 259 12 (nI 0) 262) (Od (anq A) (aqd A) seed) (anq A) := by rw [c1.1 _ (by decide) (by decide) (by decide)]; exact hM.1
    have nle := ndp_le H 1 (anq A) 0
    have eN0 : ndp H 1 (anq A) 0 = 0 := by omega
    refine z_putI fRX10_98 dX10_lays_12 (by first | assumption | rfl) (by rfl) ?_
    refine z_iconst (v := 1) dX10_lays_15 rfl ?_
    refine z_ist1 dX10_lays_16 (by decide) rfl ?_
    refine z_aload_n dX10_lays_17 rfl ?_
    refine z_iconst (v := 0) dX10_lays_18 rfl ?_
    refine z_iload_n dX10_lays_19 rfl ?_
    refine z_cV2s mX10_needs gRX10_95 dX10_lays_20 (q_needs (r := nI (ndp H 1 (anq A) 0)) hRK hV hOK (show (0 : Int32) = nI 0 from rfl) (Nat.zero_le _) (show (1 : Int32) = nI 1 from rfl) (by decide) (fun _ => by rw [eh]) (fun ⟨j, _, j2, j3⟩ => absurd j2 (by omega))) (by decide) (by first | assumption | rfl) (by rfl) (Nat.le_of_ble_eq_true rfl) (Nat.le_refl _) (Nat.le_refl _) ?_
    refine z_aload_n dX10_lays_23 rfl ?_
    refine z_getI fRX10_98 dX10_lays_24 (by first | assumption | rfl) (by rfl) ?_
    rw [c2, eN0]
    refine z_icmp_le (tgt := 36) dX10_lays_27 (by decide) (fun _ => ?_) (fun hb => absurd (by decide) hb)
    refine z_iconst (v := 0) dX10_lays_36 rfl ?_
    refine z_ist2 dX10_lays_37 (by decide) rfl ?_
    refine z_iconst (v := 0) dX10_lays_38 rfl ?_
    refine z_ist3 dX10_lays_39 (by decide) rfl ?_
    refine z_iload_n dX10_lays_40 rfl ?_
    refine z_aload_n dX10_lays_41 rfl ?_
    refine z_getI fRX10_98 dX10_lays_42 (by first | assumption | rfl) (by rfl) ?_
    rw [c2]
    refine z_icmp_ge (tgt := 126) dX10_lays_45 (by decide) (fun _ => ?_) (fun hb => absurd (by decide) hb)
    exact z_vret hE dX10_lays_126 ⟨rfl, rfl, c1, c2, fun j hj => absurd hj (Nat.not_lt_zero j)⟩
  · refine z_putI fRX10_98 dX10_lays_12 (by first | assumption | rfl) (by rfl) ?_
    refine z_iconst (v := 1) dX10_lays_15 rfl ?_
    refine z_ist1 dX10_lays_16 (by decide) rfl ?_
    refine most (by omega) (aln A - 1) 1 _ (by omega) (Nat.le_refl 1) (fun z => ?_) c1 c2
    have q := (L1 0 (by omega)).1
    have q2 := mxh_le (h := H) (n := anq A) (i := 0) (by omega)
    have e : mxh H (anq A) = 1 := by omega
    rw [hLm, e]
theorem q_lays {I : ZI} {A : AS} {seed : Int32} (h : RV (I 260) A) (hV : AV A) (hM : MPf I A seed) : ZP yX10_lays cX10_lays 6 none 2 [.ref 259] Sg I (fun r J => r = none ∧ LFr I J ∧ LPf J A seed) := by
  obtain ⟨L1, L2, L3⟩ := Lm_spec (seed := seed) hV.1 hV.2.2.1
  have hPs := Ps_spec (seed := seed) hV.1 hV.2.2.1
  exact q_lays0 (M := Pn (anq A) (aqd A) seed (aln A)) (L := Lm (anq A) (aqd A) seed (aln A)) (P := Ps (anq A) (aqd A) seed (aln A)) h hV hM rfl L1 L2 Pn_le hPs.1 rfl (mxh_ub (fun i hi => (Hq_in hV.1 hi).2)) (fun _ => rfl) rfl rfl

