/-! ===== mistaken, parting, mean ===== -/
theorem xI_sub {a b : Nat} (h : b ≤ a) : nI a - nI b = nI (a - b) := by
  have e : a = (a - b) + b := by omega
  rw [show nI a = nI (a - b) + nI b by rw [nI_add, ← e], Int32.add_sub_cancel]
theorem ptF_r (R W : Nat) : ptF R W + 4 = ptF (R + 1) W := by
  have e : nI (4 * (R + 1)) = nI (4 * R) + nI 4 := (nI_add (4 * R) 4).symm
  show nI (4 * R) - nI W + nI 4 = nI (4 * (R + 1)) - nI W
  rw [e, Int32.sub_eq_add_neg, Int32.sub_eq_add_neg, Int32.add_assoc, Int32.add_assoc, Int32.add_comm (-nI W)]
theorem ptF_w (R W : Nat) : ptF R W + -1 = ptF R (W + 1) := by
  have e1 : (-1 : Int32) = -nI 1 := by decide
  rw [e1, ptF, ptF, ← nI_add W 1, Int32.sub_eq_add_neg, Int32.sub_eq_add_neg, Int32.neg_add, Int32.add_assoc, Int32.sub_eq_add_neg]
def msF (A : AS) (t v : Nat) : Int32 := ptF (cR (amk A t) (vK A v) (anq A)) (cW (amk A t) (vK A v) (anq A))
def aMistaken (A : AS) (x y r : Int32) : Prop := (∃ t v, t < ans A ∧ x = nI t ∧ v < anv A ∧ y = nI v ∧ r = msF A t v) ∨ ((¬ isT A x ∨ ¬ isV A y) ∧ r = -1001)
theorem mkI_none {m : Option Nat} (h : mkI m = -1) (hm : ∀ k, m = some k → k < 5) : m = none := by
  cases m with
  | none => rfl
  | some k => 
    have h1 := hm k rfl
    have h2 : nI k = -1 := h
    exact absurd h2 (by
      match k, h1 with
      | 0, _ => decide
      | 1, _ => decide
      | 2, _ => decide
      | 3, _ => decide
      | 4, _ => decide)
theorem mkI_some {m : Option Nat} {n : Nat} (hn : n < 5) (hm : ∀ k, m = some k → k < 5) : mkI m = nI n ↔ m = some n := by
  cases m with
  | none =>
    refine ⟨fun h => ?_, fun h => by cases h⟩
    have h2 : (-1 : Int32) = nI n := h
    exact absurd h2 (by
      match n, hn with
      | 0, _ => decide
      | 1, _ => decide
      | 2, _ => decide
      | 3, _ => decide
      | 4, _ => decide)
  | some k =>
    have h1 := hm k rfl
    exact ⟨fun h => congrArg some ((nI_eq (by omega) (by omega)).mp h), fun h => congrArg mkI h⟩
theorem s_mistaken {I : ZI} {A : AS} {hc : Nat} {Hh : Nat → AS} {tc : Nat} {bf : Nat → Nat} {x y : Int32} (h : CI I A hc Hh tc bf) : ZP yX9_mistaken cX9_mistaken 7 (some FieldType.int) 6 [.ref 0, .int x, .int y] Sg I (fun r J => (∃ a, r = some (.int a) ∧ aMistaken A x y a) ∧ (∀ a, 259 ≤ a → J a = I a) ∧ CI J A hc Hh tc bf) := by
  have hn := h.2.1.1.1
  have hnv := h.2.1.2.1
  have hns := h.2.1.2.2.2.2.1
  have h0 := at_tv
  have hn1 := at_now.1
  have hs := at_sheets
  have hs0 := hs.1
  refine ZSp.of (own := RX9) (L := [.ref 0, .int x, .int y, zj, zj, zj, zj]) mX9_mistaken rfl (List.all_eq_true.mp rfl) (Nat.le_of_ble_eq_true rfl) rfl (fun X hE hN => ?_)
  refine z_aload_n dX9_mistaken_0 rfl ?_
  refine z_iload_n dX9_mistaken_1 rfl ?_
  by_cases hv : isV A y
  · obtain ⟨v, hv1, rfl⟩ := hv
    have hv6 : v < 6 := by omega
    have hpp := at_paper hv6
    have hp0 := hpp.1
    refine z_cV1p mX9_paperOf gRX9_119 dX9_mistaken_2 (s_paperOf h rfl hv1) (by decide) (by first | assumption | rfl) (by rfl) (Nat.le_of_ble_eq_true rfl) (Nat.le_refl _) (Nat.le_refl _) (fun r J hq => ?_)
    obtain ⟨rfl, b1, b2, b3, b4⟩ := hq
    have hfr : ∀ a, 259 ≤ a → J a = I a := fun a ha => b1 a (by omega)
    have hcnt : J 7 5 = nI (ans A) := b2.1.2.2.2.2.1
    refine z_ast3 dX9_mistaken_5 (by decide) rfl ?_
    refine z_aload_n dX9_mistaken_6 rfl ?_
    refine z_ifnull dX9_mistaken_7 ?_
    refine z_aload_n dX9_mistaken_10 rfl ?_
    refine z_getR fRX9_10 dX9_mistaken_11 (by first | assumption | rfl) (by rfl) ?_
    refine z_getR fRX9_66 dX9_mistaken_14 (by first | assumption | rfl) (by rfl) ?_
    refine z_iload_n dX9_mistaken_17 rfl ?_
    refine z_cV1s mX7_has gRX9_195 dX9_mistaken_18 (s_shHas hs) (by decide) (by first | assumption | rfl) (by rfl) (Nat.le_of_ble_eq_true rfl) (Nat.le_refl _) (Nat.le_refl _) ?_
    rw [hcnt]
    rcases z_dom x (ans A) (by omega) with ⟨t, ht, rfl, hx⟩ | ⟨hx, hxt⟩
    · rw [if_neg hx]
      have gk := hpp.2.2.2.1.1
      have hrow := b2.1.2.2.2.2.2 t ht
      have hmk5 : ∀ p, p < anq A → ∀ k, amk A t p = some k → k < 5 := by
        intro p hp k hk
        have c1 := (h.2.1.2.2.2.2.2 t ht).2 p hp k hk
        have c2 := (h.2.1.1.2 _ ((Od_en (anq A) (aqd A) (asd A (asv A t))).1 p hp)).2.2.2.1
        exact Nat.lt_of_lt_of_le c1 c2
      have loop : ∀ (m p : Nat), p + m = anq A → (ZG X RX9 cX9_mistaken 7 6 0 0 0 0 34 [.ref 0, .int (nI t), .int (nI v), .ref (139 + 20 * v), .int (ptF (cR (amk A t) (vK A v) p) (cW (amk A t) (vK A v) p)), .int (nI p), zj] [] Sg J) := by
        intro m
        induction m with
        | zero =>
          intro p hp
          have e : p = anq A := by omega
          subst e
          refine z_iload dX9_mistaken_34 rfl ?_
          refine z_aload_n dX9_mistaken_36 rfl ?_
          refine z_getI fRX9_140 dX9_mistaken_37 (by first | assumption | rfl) (by rfl) ?_
          refine z_icmp_ge (tgt := 93) dX9_mistaken_40 (by decide) (fun _ => ?_) (fun hb => absurd (by rw [b3.1]; exact nI_le (Nat.le_refl _) (by omega)) hb)
          refine z_iload dX9_mistaken_93 rfl ?_
          exact z_iret hE dX9_mistaken_95 ⟨rfl, ⟨_, rfl, Or.inl ⟨t, v, ht, rfl, hv1, rfl, rfl⟩⟩, hfr, b2⟩
        | succ m ih =>
          intro p hp
          have hp1 : p < anq A := by omega
          have nxt := ih (p + 1) (by omega)
          have e1 : cR (amk A t) (vK A v) (p + 1) = cR (amk A t) (vK A v) p + (if amk A t p = some (vK A v p) then 1 else 0) := rfl
          have e2 : cW (amk A t) (vK A v) (p + 1) = cW (amk A t) (vK A v) p + (if amk A t p ≠ none ∧ amk A t p ≠ some (vK A v p) then 1 else 0) := rfl
          have hm : J (7 + 7 + 1) (20 * t + p) = mkI (amk A t p) := (hrow.2.2.2 p hp1).1
          have hK5 : vK A v p < 5 := by
            have c1 := (Ky_lt (seed := asd A v) h.2.1.1 hp1).1
            have c2 := (h.2.1.1.2 _ ((Od_en (anq A) (aqd A) (asd A v)).1 p hp1)).2.2.2.1
            exact Nat.lt_of_lt_of_le c1 c2
          refine z_iload dX9_mistaken_34 rfl ?_
          refine z_aload_n dX9_mistaken_36 rfl ?_
          refine z_getI fRX9_140 dX9_mistaken_37 (by first | assumption | rfl) (by rfl) ?_
          refine z_icmp_ge (tgt := 93) dX9_mistaken_40 (by decide) (fun hb => absurd hb (by rw [b3.1]; exact nI_ge (by omega) (by omega))) (fun _ => ?_)
          refine z_aload_n dX9_mistaken_43 rfl ?_
          refine z_getR fRX9_10 dX9_mistaken_44 (by first | assumption | rfl) (by rfl) ?_
          refine z_getR fRX9_66 dX9_mistaken_47 (by first | assumption | rfl) (by rfl) ?_
          refine z_iload_n dX9_mistaken_50 rfl ?_
          refine z_iload dX9_mistaken_51 rfl ?_
          refine z_cV2s mX7_mark gRX9_216 dX9_mistaken_53 (s_mark hs rfl rfl (show t < 20 by omega) (show p < 20 by omega)) (by decide) (by first | assumption | rfl) (by rfl) (Nat.le_of_ble_eq_true rfl) (Nat.le_refl _) (Nat.le_refl _) ?_
          rw [hm]
          refine z_ist6 dX9_mistaken_56 (by decide) rfl ?_
          refine z_iload dX9_mistaken_58 rfl ?_
          refine z_aload_n dX9_mistaken_60 rfl ?_
          refine z_getR fRX9_145 dX9_mistaken_61 (by first | assumption | rfl) (by rfl) ?_
          refine z_iload dX9_mistaken_64 rfl ?_
          refine z_cV1s mX6_get gRX9_115 dX9_mistaken_66 (s_getN hpp.2.2.2.1 rfl (show p < 20 by omega)) (by decide) (by first | assumption | rfl) (by rfl) (Nat.le_of_ble_eq_true rfl) (Nat.le_refl _) (Nat.le_refl _) ?_
          rw [b3.2.2.2.2 p hp1]
          refine z_icmp_ne (tgt := 78) dX9_mistaken_69 (by decide) (fun ha => ?_) (fun ha => ?_)
          · refine z_iload dX9_mistaken_78 rfl ?_
            refine z_iconst (v := -1) dX9_mistaken_80 rfl ?_
            refine z_icmp_eq (tgt := 87) dX9_mistaken_81 (by decide) (fun hc => ?_) (fun hc => ?_)
            · refine z_inc5 (w := 1) dX9_mistaken_87 rfl (by decide) rfl ?_
              refine z_goto (tgt := 34) dX9_mistaken_90 (by decide) ?_
              have n1 : ¬ (none : Option Nat) = some (vK A v p) := by
                intro z
                cases z
              have n2 : ¬ ((none : Option Nat) ≠ none ∧ (none : Option Nat) ≠ some (vK A v p)) := fun z => z.1 rfl
              have hnone := mkI_none hc (hmk5 p hp1)
              rw [e1, e2, hnone, if_neg n1, if_neg n2, Nat.add_zero, Nat.add_zero] at nxt
              rw [nI_1]
              refine z_fg6 ?_
              exact nxt
            · refine z_inc4 (w := (-1)) dX9_mistaken_84 rfl (by decide) rfl ?_
              refine z_inc5 (w := 1) dX9_mistaken_87 rfl (by decide) rfl ?_
              refine z_goto (tgt := 34) dX9_mistaken_90 (by decide) ?_
              have h1 : amk A t p ≠ some (vK A v p) := fun z => ha ((mkI_some hK5 (hmk5 p hp1)).mpr z)
              have h2 : amk A t p ≠ none := fun z => hc (by rw [z]; rfl)
              rw [e1, e2, if_neg h1, if_pos ⟨h2, h1⟩, Nat.add_zero, ← ptF_w] at nxt
              rw [nI_1]
              refine z_fg6 ?_
              exact nxt
          · refine z_inc4 (w := 4) dX9_mistaken_72 rfl (by decide) rfl ?_
            refine z_goto (tgt := 87) dX9_mistaken_75 (by decide) ?_
            refine z_inc5 (w := 1) dX9_mistaken_87 rfl (by decide) rfl ?_
            refine z_goto (tgt := 34) dX9_mistaken_90 (by decide) ?_
            have h1 := (mkI_some hK5 (hmk5 p hp1)).mp ha
            rw [e1, e2, if_pos h1, if_neg (fun z => z.2 h1), Nat.add_zero, ← ptF_r] at nxt
            rw [nI_1]
            refine z_fg6 ?_
            exact nxt
      refine z_if_ne (tgt := 28) dX9_mistaken_21 (by decide) (fun _ => ?_) (fun hb => absurd hb (by decide))
      refine z_iconst (v := 0) dX9_mistaken_28 rfl ?_
      refine z_ist4 dX9_mistaken_29 (by decide) rfl ?_
      refine z_iconst (v := 0) dX9_mistaken_31 rfl ?_
      refine z_ist5 dX9_mistaken_32 (by decide) rfl ?_
      have := loop (anq A) 0 (by omega)
      rw [show ptF (cR (amk A t) (vK A v) 0) (cW (amk A t) (vK A v) 0) = 0 from (by decide : ptF 0 0 = 0)] at this
      exact this
    · rw [if_pos hx]
      refine z_if_ne (tgt := 28) dX9_mistaken_21 (by decide) (fun hb => absurd (rfl) hb) (fun _ => ?_)
      refine z_sipush (v := -1001) dX9_mistaken_24 rfl ?_
      exact z_iret hE dX9_mistaken_27 ⟨rfl, ⟨_, rfl, Or.inr ⟨Or.inl hxt, rfl⟩⟩, hfr, b2⟩
  · refine z_cV1s mX9_paperOf gRX9_119 dX9_mistaken_2 (s_paperOfN h hv) (by decide) (by first | assumption | rfl) (by rfl) (Nat.le_of_ble_eq_true rfl) (Nat.le_refl _) (Nat.le_refl _) ?_
    refine z_asn3 dX9_mistaken_5 (by decide) rfl ?_
    refine z_aload_nN dX9_mistaken_6 rfl ?_
    refine z_ifnullN (tgt := 24) dX9_mistaken_7 (by decide) ?_
    refine z_sipush (v := -1001) dX9_mistaken_24 rfl ?_
    exact z_iret hE dX9_mistaken_27 ⟨rfl, ⟨_, rfl, Or.inr ⟨Or.inr hv, rfl⟩⟩, fun _ _ => rfl, h⟩
def mnS (A : AS) : Nat → Int32
  | 0 => 0
  | t + 1 => mnS A t + ptA A t
def mnF (A : AS) : UInt32 := if ans A = 0 then FP.fconst0 else FP.fdiv (FP.i2f (mnS A (ans A))) (FP.i2f (nI (ans A)))
theorem s_mean {I : ZI} {A : AS} {hc : Nat} {Hh : Nat → AS} {tc : Nat} {bf : Nat → Nat} (h : CI I A hc Hh tc bf) : ZE yX9_mean cX9_mean 3 (some FieldType.float) 2 [.ref 0] Sg I (some (.float (mnF A))) I := by
  have h0 := at_tv
  have hn1 := at_now.1
  have hs := at_sheets
  have hs0 := hs.1
  have hns := h.2.1.2.2.2.2.1
  have hcnt : I 7 5 = nI (ans A) := h.1.2.2.2.2.1
  refine ZSp.of (own := RX9) (L := [.ref 0, zj, zj]) mX9_mean rfl (List.all_eq_true.mp rfl) (Nat.le_of_ble_eq_true rfl) rfl (fun X hE hN => ?_)
  have loop : ∀ (m t : Nat), ans A ≠ 0 → t + m = ans A → (ZG X RX9 cX9_mean 3 2 0 0 0 0 19 [.ref 0, .int (mnS A t), .int (nI t)] [] Sg I) := by
    intro m
    induction m with
    | zero =>
      intro t hne ht
      have e : t = ans A := by omega
      subst e
      refine z_iload_n dX9_mean_19 rfl ?_
      refine z_aload_n dX9_mean_20 rfl ?_
      refine z_getR fRX9_10 dX9_mean_21 (by first | assumption | rfl) (by rfl) ?_
      refine z_getR fRX9_66 dX9_mean_24 (by first | assumption | rfl) (by rfl) ?_
      refine z_getI fRX9_70 dX9_mean_27 (by first | assumption | rfl) (by rfl) ?_
      refine z_icmp_ge (tgt := 53) dX9_mean_30 (by decide) (fun _ => ?_) (fun hb => absurd (by rw [hcnt]; exact nI_le (Nat.le_refl _) (by omega)) hb)
      refine z_iload_n dX9_mean_53 rfl ?_
      refine z_i2f dX9_mean_54 ?_
      refine z_aload_n dX9_mean_55 rfl ?_
      refine z_getR fRX9_10 dX9_mean_56 (by first | assumption | rfl) (by rfl) ?_
      refine z_getR fRX9_66 dX9_mean_59 (by first | assumption | rfl) (by rfl) ?_
      refine z_getI fRX9_70 dX9_mean_62 (by first | assumption | rfl) (by rfl) ?_
      refine z_i2f dX9_mean_65 ?_
      rw [hcnt]
      refine z_fdiv dX9_mean_66 (f_div _ hne (by omega)) ?_
      exact z_efreturn hE dX9_mean_67 (by rw [mnF, if_neg hne]) rfl
    | succ m ih =>
      intro t hne ht
      refine z_iload_n dX9_mean_19 rfl ?_
      refine z_aload_n dX9_mean_20 rfl ?_
      refine z_getR fRX9_10 dX9_mean_21 (by first | assumption | rfl) (by rfl) ?_
      refine z_getR fRX9_66 dX9_mean_24 (by first | assumption | rfl) (by rfl) ?_
      refine z_getI fRX9_70 dX9_mean_27 (by first | assumption | rfl) (by rfl) ?_
      refine z_icmp_ge (tgt := 53) dX9_mean_30 (by decide) (fun hb => absurd hb (by rw [hcnt]; exact nI_ge (by omega) (by omega))) (fun _ => ?_)
      refine z_iload_n dX9_mean_33 rfl ?_
      refine z_aload_n dX9_mean_34 rfl ?_
      refine z_getR fRX9_10 dX9_mean_35 (by first | assumption | rfl) (by rfl) ?_
      refine z_getR fRX9_66 dX9_mean_38 (by first | assumption | rfl) (by rfl) ?_
      refine z_iload_n dX9_mean_41 rfl ?_
      refine z_cV1s mX7_points gRX9_210 dX9_mean_42 (s_points hs rfl (show t < 20 by omega)) (by decide) (by first | assumption | rfl) (by rfl) (Nat.le_of_ble_eq_true rfl) (Nat.le_refl _) (Nat.le_refl _) ?_
      rw [sc_pt h.1 (show t < ans A by omega)]
      refine z_iadd dX9_mean_45 ?_
      refine z_ist1 dX9_mean_46 (by decide) rfl ?_
      refine z_inc2 (w := 1) dX9_mean_47 rfl (by decide) rfl ?_
      refine z_goto (tgt := 19) dX9_mean_50 (by decide) ?_
      rw [nI_1]
      exact ih (t + 1) hne (by omega)
  refine z_aload_n dX9_mean_0 rfl ?_
  refine z_getR fRX9_10 dX9_mean_1 (by first | assumption | rfl) (by rfl) ?_
  refine z_getR fRX9_66 dX9_mean_4 (by first | assumption | rfl) (by rfl) ?_
  refine z_getI fRX9_70 dX9_mean_7 (by first | assumption | rfl) (by rfl) ?_
  rw [hcnt]
  by_cases hne : ans A = 0
  · refine z_if_gt (tgt := 15) dX9_mean_10 (by decide) (fun hb => absurd hb (by rw [hne]; decide)) (fun _ => ?_)
    refine z_fconst0 dX9_mean_13 ?_
    exact z_efreturn hE dX9_mean_14 (by rw [mnF, if_pos hne]) rfl
  · refine z_if_gt (tgt := 15) dX9_mean_10 (by decide) (fun _ => ?_) (fun hb => absurd (by rw [← nI_0]; exact nI_lt (by omega) (by omega)) hb)
    refine z_iconst (v := 0) dX9_mean_15 rfl ?_
    refine z_ist1 dX9_mean_16 (by decide) rfl ?_
    refine z_iconst (v := 0) dX9_mean_17 rfl ?_
    refine z_ist2 dX9_mean_18 (by decide) rfl ?_
    exact loop (ans A) 0 hne (by omega)
/-- how much the better half knew more often than the worse one -/
def prS (A : AS) (t : Nat) : Nat := rk (ptA A) (ptA A t) (ans A) + eqc (ptA A) (ptA A t) t
def prD (A : AS) (q : Nat) : Nat → Int32
  | 0 => 0
  | t + 1 => if pkA A t q = nI (aqd A q 1) then prD A q t + (if prS A t < ans A / 2 then 1 else 0) - (if ans A - ans A / 2 ≤ prS A t then 1 else 0) else prD A q t
def prF (A : AS) (q : Nat) : UInt32 := if ans A / 2 = 0 then FP.fconst0 else FP.fdiv (FP.i2f (prD A q (ans A))) (FP.i2f (nI (ans A / 2)))
def aParting (A : AS) (x : Int32) (r : UInt32) : Prop := (∃ q, q < anq A ∧ x = nI q ∧ r = prF A q) ∨ (¬ isQ A x ∧ r = 3221225472)
theorem nI_half : ∀ n, n < 21 → nI n / 2 = nI (n / 2) := by decide
theorem prS_le {A : AS} {t : Nat} (ht : t ≤ ans A) : prS A t ≤ ans A + ans A := by
  have h1 := rk_le (ptA A) (ptA A t) (ans A)
  have h2 := eqc_le (ptA A) (ptA A t) t
  unfold prS
  omega
theorem s_parting {I : ZI} {A : AS} {hc : Nat} {Hh : Nat → AS} {tc : Nat} {bf : Nat → Nat} {x : Int32} (h : CI I A hc Hh tc bf) : ZP yX9_parting cX9_parting 7 (some FieldType.float) 4 [.ref 0, .int x] Sg I (fun r J => (∃ a, r = some (.float a) ∧ aParting A x a) ∧ J = I) := by
  have h0 := at_tv
  have hn1 := at_now.1
  have hs := at_sheets
  have hs0 := hs.1
  have hns := h.2.1.2.2.2.2.1
  have hn := h.2.1.1.1
  have hcnt : I 7 5 = nI (ans A) := h.1.2.2.2.2.1
  have hq1 : I 2 1 = nI (anq A) := h.1.1.1
  refine ZSp.of (own := RX9) (L := [.ref 0, .int x, zj, zj, zj, zj, zj]) mX9_parting rfl (List.all_eq_true.mp rfl) (Nat.le_of_ble_eq_true rfl) rfl (fun X hE hN => ?_)
  refine z_aload_n dX9_parting_0 rfl ?_
  refine z_getR fRX9_10 dX9_parting_1 (by first | assumption | rfl) (by rfl) ?_
  refine z_getR fRX9_76 dX9_parting_4 (by first | assumption | rfl) (by rfl) ?_
  refine z_iload_n dX9_parting_7 rfl ?_
  refine z_cV1s mX5_has gRX9_88 dX9_parting_8 (s_has at_q) (by decide) (by first | assumption | rfl) (by rfl) (Nat.le_of_ble_eq_true rfl) (Nat.le_refl _) (Nat.le_refl _) ?_
  rw [hq1]
  rcases z_dom x (anq A) (by omega) with ⟨q, hq, rfl, hx⟩ | ⟨hx, hxq⟩
  · rw [if_neg hx]
    have loop : ∀ (m t : Nat), ans A / 2 ≠ 0 → t + m = ans A → (ZG X RX9 cX9_parting 7 4 0 0 0 0 55 [.ref 0, .int (nI q), .int (nI (ans A / 2)), .int (nI (aqd A q 1)), .int (prD A q t), .int (nI t), zj] [] Sg I) := by
      intro m
      induction m with
      | zero =>
        intro t hne ht
        have e : t = ans A := by omega
        subst e
        refine z_iload dX9_parting_55 rfl ?_
        refine z_aload_n dX9_parting_57 rfl ?_
        refine z_getR fRX9_10 dX9_parting_58 (by first | assumption | rfl) (by rfl) ?_
        refine z_getR fRX9_66 dX9_parting_61 (by first | assumption | rfl) (by rfl) ?_
        refine z_getI fRX9_70 dX9_parting_64 (by first | assumption | rfl) (by rfl) ?_
        refine z_icmp_ge (tgt := 150) dX9_parting_67 (by decide) (fun _ => ?_) (fun hb => absurd (by rw [hcnt]; exact nI_le (Nat.le_refl _) (by omega)) hb)
        refine z_iload dX9_parting_150 rfl ?_
        refine z_i2f dX9_parting_152 ?_
        refine z_iload_n dX9_parting_153 rfl ?_
        refine z_i2f dX9_parting_154 ?_
        refine z_fdiv dX9_parting_155 (f_div _ hne (by omega)) ?_
        exact z_fret hE dX9_parting_156 ⟨rfl, ⟨_, rfl, Or.inl ⟨q, hq, rfl, by rw [prF, if_neg hne]⟩⟩, rfl⟩
      | succ m ih =>
        intro t hne ht
        have ht1 : t < ans A := by omega
        have nxt := ih (t + 1) hne (by omega)
        have e1 : prD A q (t + 1) = if pkA A t q = nI (aqd A q 1) then prD A q t + (if prS A t < ans A / 2 then 1 else 0) - (if ans A - ans A / 2 ≤ prS A t then 1 else 0) else prD A q t := rfl
        refine z_iload dX9_parting_55 rfl ?_
        refine z_aload_n dX9_parting_57 rfl ?_
        refine z_getR fRX9_10 dX9_parting_58 (by first | assumption | rfl) (by rfl) ?_
        refine z_getR fRX9_66 dX9_parting_61 (by first | assumption | rfl) (by rfl) ?_
        refine z_getI fRX9_70 dX9_parting_64 (by first | assumption | rfl) (by rfl) ?_
        refine z_icmp_ge (tgt := 150) dX9_parting_67 (by decide) (fun hb => absurd hb (by rw [hcnt]; exact nI_ge (by omega) (by omega))) (fun _ => ?_)
        refine z_aload_n dX9_parting_70 rfl ?_
        refine z_getR fRX9_10 dX9_parting_71 (by first | assumption | rfl) (by rfl) ?_
        refine z_getR fRX9_66 dX9_parting_74 (by first | assumption | rfl) (by rfl) ?_
        refine z_iload dX9_parting_77 rfl ?_
        refine z_iload_n dX9_parting_79 rfl ?_
        refine z_cV2s mX7_pick gRX9_197 dX9_parting_80 (s_pick hs rfl rfl (show t < 20 by omega) (show q < 20 by omega)) (by decide) (by first | assumption | rfl) (by rfl) (Nat.le_of_ble_eq_true rfl) (Nat.le_refl _) (Nat.le_refl _) ?_
        rw [sc_pick h.1 ht1 hq]
        refine z_iload_n dX9_parting_83 rfl ?_
        refine z_icmp_ne (tgt := 144) dX9_parting_84 (by decide) (fun ha => ?_) (fun ha => ?_)
        · refine z_inc5 (w := 1) dX9_parting_144 rfl (by decide) rfl ?_
          refine z_goto (tgt := 55) dX9_parting_147 (by decide) ?_
          rw [e1, if_neg ha] at nxt
          rw [nI_1]
          refine z_fg6 ?_
          exact nxt
        · refine z_aload_n dX9_parting_87 rfl ?_
          refine z_getR fRX9_10 dX9_parting_88 (by first | assumption | rfl) (by rfl) ?_
          refine z_getR fRX9_66 dX9_parting_91 (by first | assumption | rfl) (by rfl) ?_
          refine z_iload dX9_parting_94 rfl ?_
          refine z_cV1s mX7_standing gRX9_207 dX9_parting_96 (s_standing hs hcnt hns rfl (show t < 20 by omega)) (by decide) (by first | assumption | rfl) (by rfl) (Nat.le_of_ble_eq_true rfl) (Nat.le_refl _) (Nat.le_refl _) ?_
          have e2 : rk (ptc I 7) (ptc I 7 t) (ans A) + eqc (ptc I 7) (ptc I 7 t) t = prS A t := by
            rw [prS, sc_pt h.1 ht1, rk_congr (Q := ptA A) (fun j hj => sc_pt h.1 hj), eqc_congr (Q := ptA A) (fun j hj => sc_pt h.1 (show j < ans A by omega))]
          rw [e2]
          have hle := prS_le (A := A) (t := t) (by omega)
          have e3 : nI (ans A) - nI (ans A / 2) = nI (ans A - ans A / 2) := xI_sub (by omega)
          rw [e1, if_pos ha] at nxt
          have tail : ∀ (w : Int32), w = prD A q t + (if prS A t < ans A / 2 then 1 else 0) → (ZG X RX9 cX9_parting 7 4 0 0 0 0 117 [.ref 0, .int (nI q), .int (nI (ans A / 2)), .int (nI (aqd A q 1)), .int w, .int (nI t), .int (nI (prS A t))] [] Sg I) := by
            intro w hw
            rw [← hw] at nxt
            refine z_iload dX9_parting_117 rfl ?_
            refine z_iload dX9_parting_119 rfl ?_
            refine z_aload_n dX9_parting_121 rfl ?_
            refine z_getR fRX9_10 dX9_parting_122 (by first | assumption | rfl) (by rfl) ?_
            refine z_getR fRX9_66 dX9_parting_125 (by first | assumption | rfl) (by rfl) ?_
            refine z_getI fRX9_70 dX9_parting_128 (by first | assumption | rfl) (by rfl) ?_
            refine z_iload_n dX9_parting_131 rfl ?_
            refine z_isub dX9_parting_132 ?_
            rw [hcnt]
            rw [e3]
            refine z_icmp_lt (tgt := 140) dX9_parting_133 (by decide) (fun hc => ?_) (fun hc => ?_)
            · refine z_iconst (v := 0) dX9_parting_140 rfl ?_
              refine z_isub dX9_parting_141 ?_
              refine z_ist4 dX9_parting_142 (by decide) rfl ?_
              refine z_inc5 (w := 1) dX9_parting_144 rfl (by decide) rfl ?_
              refine z_goto (tgt := 55) dX9_parting_147 (by decide) ?_
              have hlt : ¬ ans A - ans A / 2 ≤ prS A t := fun z => absurd hc (nI_nlt z (by omega))
              rw [if_neg hlt] at nxt
              rw [nI_1]
              refine z_fg6 ?_
              exact nxt
            · refine z_iconst (v := 1) dX9_parting_136 rfl ?_
              refine z_goto (tgt := 141) dX9_parting_137 (by decide) ?_
              refine z_isub dX9_parting_141 ?_
              refine z_ist4 dX9_parting_142 (by decide) rfl ?_
              refine z_inc5 (w := 1) dX9_parting_144 rfl (by decide) rfl ?_
              refine z_goto (tgt := 55) dX9_parting_147 (by decide) ?_
              have hlt : ans A - ans A / 2 ≤ prS A t := by
                rcases Nat.lt_or_ge (prS A t) (ans A - ans A / 2) with z | z
                · exact absurd (nI_lt z (by omega)) hc
                · exact z
              rw [if_pos hlt] at nxt
              rw [nI_1]
              refine z_fg6 ?_
              exact nxt
          refine z_ist6 dX9_parting_99 (by decide) rfl ?_
          refine z_iload dX9_parting_101 rfl ?_
          refine z_iload dX9_parting_103 rfl ?_
          refine z_iload_n dX9_parting_105 rfl ?_
          refine z_icmp_ge (tgt := 113) dX9_parting_106 (by decide) (fun hd => ?_) (fun hd => ?_)
          · refine z_iconst (v := 0) dX9_parting_113 rfl ?_
            refine z_iadd dX9_parting_114 ?_
            refine z_ist4 dX9_parting_115 (by decide) rfl ?_
            have hlt : ¬ prS A t < ans A / 2 := fun z => absurd hd (nI_ge z (by omega))
            exact tail _ (by rw [if_neg hlt])
          · refine z_iconst (v := 1) dX9_parting_109 rfl ?_
            refine z_goto (tgt := 114) dX9_parting_110 (by decide) ?_
            refine z_iadd dX9_parting_114 ?_
            refine z_ist4 dX9_parting_115 (by decide) rfl ?_
            have hlt : prS A t < ans A / 2 := by
              rcases Nat.lt_or_ge (prS A t) (ans A / 2) with z | z
              · exact z
              · exact absurd (nI_le z (by omega)) hd
            exact tail _ (by rw [if_pos hlt])
    refine z_if_ne (tgt := 17) dX9_parting_11 (by decide) (fun _ => ?_) (fun hb => absurd hb (by decide))
    refine z_aload_n dX9_parting_17 rfl ?_
    refine z_getR fRX9_10 dX9_parting_18 (by first | assumption | rfl) (by rfl) ?_
    refine z_getR fRX9_66 dX9_parting_21 (by first | assumption | rfl) (by rfl) ?_
    refine z_getI fRX9_70 dX9_parting_24 (by first | assumption | rfl) (by rfl) ?_
    refine z_iconst (v := 2) dX9_parting_27 rfl ?_
    refine z_idiv dX9_parting_28 (by decide) ?_
    rw [hcnt, nI_half _ (by omega)]
    refine z_ist2 dX9_parting_29 (by decide) rfl ?_
    refine z_iload_n dX9_parting_30 rfl ?_
    by_cases hne : ans A / 2 = 0
    · refine z_if_ne (tgt := 36) dX9_parting_31 (by decide) (fun hb => absurd (by rw [hne]; rfl) hb) (fun _ => ?_)
      refine z_fconst0 dX9_parting_34 ?_
      exact z_fret hE dX9_parting_35 ⟨rfl, ⟨_, rfl, Or.inl ⟨q, hq, rfl, by rw [prF, if_pos hne]⟩⟩, rfl⟩
    · refine z_if_ne (tgt := 36) dX9_parting_31 (by decide) (fun _ => ?_) (fun hb => absurd hb (nI_ne0 (by omega) (by omega)))
      refine z_aload_n dX9_parting_36 rfl ?_
      refine z_getR fRX9_10 dX9_parting_37 (by first | assumption | rfl) (by rfl) ?_
      refine z_getR fRX9_76 dX9_parting_40 (by first | assumption | rfl) (by rfl) ?_
      refine z_iload_n dX9_parting_43 rfl ?_
      refine z_iconst (v := 1) dX9_parting_44 rfl ?_
      refine z_cV2s mX5_number gRX9_95 dX9_parting_45 (s_number at_q h.1.1 hn rfl (show (1 : Int32) = nI 1 from rfl) hq (by decide)) (by decide) (by first | assumption | rfl) (by rfl) (Nat.le_of_ble_eq_true rfl) (Nat.le_refl _) (Nat.le_refl _) ?_
      refine z_ist3 dX9_parting_48 (by decide) rfl ?_
      refine z_iconst (v := 0) dX9_parting_49 rfl ?_
      refine z_ist4 dX9_parting_50 (by decide) rfl ?_
      refine z_iconst (v := 0) dX9_parting_52 rfl ?_
      refine z_ist5 dX9_parting_53 (by decide) rfl ?_
      exact loop (ans A) 0 hne (by omega)
  · rw [if_pos hx]
    refine z_if_ne (tgt := 17) dX9_parting_11 (by decide) (fun hb => absurd (rfl) hb) (fun _ => ?_)
    refine z_ldcf kRX9_206 dX9_parting_14 ?_
    exact z_fret hE dX9_parting_16 ⟨rfl, ⟨_, rfl, Or.inr ⟨hxq, rfl⟩⟩, rfl⟩

