/-! ===== sheets ===== -/
theorem z_twenty (i w : Nat) : nI i * 20 + nI w = nI (20 * i + w) := by
  show nI i * nI 20 + nI w = _
  rw [pk_mul, nI_add, Nat.mul_comm]
def mkI (m : Option Nat) : Int32 := match m with
  | none => -1
  | some m => nI m
def cR (m : Nat → Option Nat) (K : Nat → Nat) : Nat → Nat
  | 0 => 0
  | k + 1 => cR m K k + (if m k = some (K k) then 1 else 0)
def cW (m : Nat → Option Nat) (K : Nat → Nat) : Nat → Nat
  | 0 => 0
  | k + 1 => cW m K k + (if m k ≠ none ∧ m k ≠ some (K k) then 1 else 0)
def rk (P : Nat → Int32) (x : Int32) : Nat → Nat
  | 0 => 0
  | k + 1 => rk P x k + (if x < P k then 1 else 0)
/-- how many of the first k are x -/
def eqc (P : Nat → Int32) (x : Int32) : Nat → Nat
  | 0 => 0
  | k + 1 => eqc P x k + (if P k = x then 1 else 0)
theorem cRW_le (m : Nat → Option Nat) (K : Nat → Nat) : ∀ k, cR m K k + cW m K k ≤ k
  | 0 => Nat.le_refl _
  | k + 1 => by
    have ih := cRW_le m K k
    rw [cR, cW]
    by_cases h : m k = some (K k)
    · rw [if_pos h, if_neg (fun q => q.2 h)]; omega
    · rw [if_neg h]
      by_cases h2 : m k ≠ none ∧ m k ≠ some (K k)
      · rw [if_pos h2]; omega
      · rw [if_neg h2]; omega
theorem rk_le (P : Nat → Int32) (x : Int32) : ∀ k, rk P x k ≤ k
  | 0 => Nat.le_refl _
  | k + 1 => by
    have ih := rk_le P x k
    rw [rk]
    by_cases h : x < P k
    · rw [if_pos h]; omega
    · rw [if_neg h]; omega
theorem eqc_le (P : Nat → Int32) (x : Int32) : ∀ k, eqc P x k ≤ k
  | 0 => Nat.le_refl _
  | k + 1 => by
    have ih := eqc_le P x k
    rw [eqc]
    by_cases h : P k = x
    · rw [if_pos h]; omega
    · rw [if_neg h]; omega
theorem rk_congr {P Q : Nat → Int32} {x : Int32} : ∀ {k : Nat}, (∀ j, j < k → P j = Q j) → rk P x k = rk Q x k
  | 0, _ => rfl
  | k + 1, h => by rw [rk, rk, rk_congr (fun j hj => h j (by omega)), h k (Nat.lt_succ_self k)]
theorem eqc_congr {P Q : Nat → Int32} {x : Int32} : ∀ {k : Nat}, (∀ j, j < k → P j = Q j) → eqc P x k = eqc Q x k
  | 0, _ => rfl
  | k + 1, h => by rw [eqc, eqc, eqc_congr (fun j hj => h j (by omega)), h k (Nat.lt_succ_self k)]
theorem s_shHas {I : ZI} {h : Nat} {x : Int32} (hh : ShAt h) : ZE yX7_has cX7_has 2 (some FieldType.boolean) 0 [.ref h, .int x] Sg I (some (.int (if x < 0 ∨ I h 5 ≤ x then 0 else 1))) I := by
  have h0 := hh.1
  refine ZSp.of (own := RX7) (L := [.ref h, .int x]) mX7_has rfl (List.all_eq_true.mp rfl) (Nat.le_of_ble_eq_true rfl) rfl (fun X hE hN => ?_)
  refine z_iload_n dX7_has_0 rfl ?_
  refine z_if_lt (tgt := 16) dX7_has_1 (by decide) (fun hb => ?_) (fun hb => ?_)
  · refine z_iconst (v := 0) dX7_has_16 rfl ?_
    exact z_ezreturn hE dX7_has_17 (by decide) (by rw [if_pos (Or.inl hb)]) rfl
  · refine z_iload_n dX7_has_4 rfl ?_
    refine z_aload_n dX7_has_5 rfl ?_
    refine z_getI fRX7_32 dX7_has_6 (by first | assumption | rfl) (by rfl) ?_
    refine z_icmp_ge (tgt := 16) dX7_has_9 (by decide) (fun hc => ?_) (fun hc => ?_)
    · refine z_iconst (v := 0) dX7_has_16 rfl ?_
      exact z_ezreturn hE dX7_has_17 (by decide) (by rw [if_pos (Or.inr hc)]) rfl
    · refine z_iconst (v := 1) dX7_has_12 rfl ?_
      refine z_goto (tgt := 17) dX7_has_13 (by decide) ?_
      exact z_ezreturn hE dX7_has_17 (by decide) (by rw [if_neg (fun h => h.elim hb hc)]) rfl
theorem s_mark {I : ZI} {h t p : Nat} {x y : Int32} (hh : ShAt h) (hx : x = nI t) (hy : y = nI p) (ht : t < 20) (hp : p < 20) : ZE yX7_mark cX7_mark 3 (some FieldType.int) 1 [.ref h, .int x, .int y] Sg I (some (.int (I (h + 7 + 1) (20 * t + p)))) I := by
  obtain ⟨h0, h1, h2, h3, h4, h5⟩ := hh
  have g4 := h4.1
  refine ZSp.of (own := RX7) (L := [.ref h, .int x, .int y]) mX7_mark rfl (List.all_eq_true.mp rfl) (Nat.le_of_ble_eq_true rfl) rfl (fun X hE hN => ?_)
  refine z_aload_n dX7_mark_0 rfl ?_
  refine z_getR fRX7_26 dX7_mark_1 (by first | assumption | rfl) (by rfl) ?_
  refine z_iload_n dX7_mark_4 rfl ?_
  refine z_bipush (v := 20) dX7_mark_5 rfl ?_
  refine z_imul dX7_mark_7 ?_
  refine z_iload_n dX7_mark_8 rfl ?_
  refine z_iadd dX7_mark_9 ?_
  refine z_cV1s mX6_get gRX7_36 dX7_mark_10 (s_getN h4 (show x * 20 + y = nI (20 * t + p) by rw [hx, hy, z_twenty]) (by omega)) (by decide) (by first | assumption | rfl) (by rfl) (Nat.le_of_ble_eq_true rfl) (Nat.le_refl _) (Nat.le_refl _) ?_
  exact z_eireturn hE dX7_mark_13 rfl rfl
theorem s_pick {I : ZI} {h t p : Nat} {x y : Int32} (hh : ShAt h) (hx : x = nI t) (hy : y = nI p) (ht : t < 20) (hp : p < 20) : ZE yX7_pick cX7_pick 3 (some FieldType.int) 1 [.ref h, .int x, .int y] Sg I (some (.int (I (h + 9 + 1) (20 * t + p)))) I := by
  obtain ⟨h0, h1, h2, h3, h4, h5⟩ := hh
  have g5 := h5.1
  refine ZSp.of (own := RX7) (L := [.ref h, .int x, .int y]) mX7_pick rfl (List.all_eq_true.mp rfl) (Nat.le_of_ble_eq_true rfl) rfl (fun X hE hN => ?_)
  refine z_aload_n dX7_pick_0 rfl ?_
  refine z_getR fRX7_29 dX7_pick_1 (by first | assumption | rfl) (by rfl) ?_
  refine z_iload_n dX7_pick_4 rfl ?_
  refine z_bipush (v := 20) dX7_pick_5 rfl ?_
  refine z_imul dX7_pick_7 ?_
  refine z_iload_n dX7_pick_8 rfl ?_
  refine z_iadd dX7_pick_9 ?_
  refine z_cV1s mX6_get gRX7_36 dX7_pick_10 (s_getN h5 (show x * 20 + y = nI (20 * t + p) by rw [hx, hy, z_twenty]) (by omega)) (by decide) (by first | assumption | rfl) (by rfl) (Nat.le_of_ble_eq_true rfl) (Nat.le_refl _) (Nat.le_refl _) ?_
  exact z_eireturn hE dX7_pick_13 rfl rfl
def ptc (I : ZI) (h t : Nat) : Int32 := 4 * I (h + 3 + 1) t - I (h + 5 + 1) t
theorem s_points {I : ZI} {h t : Nat} {x : Int32} (hh : ShAt h) (hx : x = nI t) (ht : t < 20) : ZE yX7_points cX7_points 2 (some FieldType.int) 1 [.ref h, .int x] Sg I (some (.int (ptc I h t))) I := by
  obtain ⟨h0, h1, h2, h3, h4, h5⟩ := hh
  have g2 := h2.1
  have g3 := h3.1
  refine ZSp.of (own := RX7) (L := [.ref h, .int x]) mX7_points rfl (List.all_eq_true.mp rfl) (Nat.le_of_ble_eq_true rfl) rfl (fun X hE hN => ?_)
  refine z_iconst (v := 4) dX7_points_0 rfl ?_
  refine z_aload_n dX7_points_1 rfl ?_
  refine z_getR fRX7_20 dX7_points_2 (by first | assumption | rfl) (by rfl) ?_
  refine z_iload_n dX7_points_5 rfl ?_
  refine z_cV1s mX6_get gRX7_36 dX7_points_6 (s_getN h2 hx ht) (by decide) (by first | assumption | rfl) (by rfl) (Nat.le_of_ble_eq_true rfl) (Nat.le_refl _) (Nat.le_refl _) ?_
  refine z_imul dX7_points_9 ?_
  refine z_aload_n dX7_points_10 rfl ?_
  refine z_getR fRX7_23 dX7_points_11 (by first | assumption | rfl) (by rfl) ?_
  refine z_iload_n dX7_points_14 rfl ?_
  refine z_cV1s mX6_get gRX7_36 dX7_points_15 (s_getN h3 hx ht) (by decide) (by first | assumption | rfl) (by rfl) (Nat.le_of_ble_eq_true rfl) (Nat.le_refl _) (Nat.le_refl _) ?_
  refine z_isub dX7_points_18 ?_
  exact z_eireturn hE dX7_points_19 rfl rfl
theorem s_betterThan {I : ZI} {h t n : Nat} {x : Int32} (hh : ShAt h) (hn : I h 5 = nI n) (hn20 : n ≤ 20) (hx : x = nI t) (ht : t < 20) : ZE yX7_betterThan cX7_betterThan 5 (some FieldType.int) 2 [.ref h, .int x] Sg I (some (.int (nI (rk (ptc I h) (ptc I h t) n)))) I := by
  have h0 := hh.1
  subst hx
  refine ZSp.of (own := RX7) (L := [.ref h, .int (nI t), zj, zj, zj]) mX7_betterThan rfl (List.all_eq_true.mp rfl) (Nat.le_of_ble_eq_true rfl) rfl (fun X hE hN => ?_)
  have loop : ∀ (m k : Nat), k + m = n → (ZG X RX7 cX7_betterThan 5 2 0 0 0 0 11 [.ref h, .int (nI t), .int (ptc I h t), .int (nI (rk (ptc I h) (ptc I h t) k)), .int (nI k)] [] Sg I) := by
    intro m
    induction m with
    | zero =>
      intro k hk
      have e : k = n := by omega
      subst e
      refine z_iload dX7_betterThan_11 rfl ?_
      refine z_aload_n dX7_betterThan_13 rfl ?_
      refine z_getI fRX7_32 dX7_betterThan_14 (by first | assumption | rfl) (by rfl) ?_
      refine z_icmp_ge (tgt := 39) dX7_betterThan_17 (by decide) (fun _ => ?_) (fun hb => absurd (by rw [hn]; exact nI_le (Nat.le_refl _) (by omega)) hb)
      refine z_iload_n dX7_betterThan_39 rfl ?_
      exact z_eireturn hE dX7_betterThan_40 rfl rfl
    | succ m ih =>
      intro k hk
      have e1 : rk (ptc I h) (ptc I h t) (k + 1) = rk (ptc I h) (ptc I h t) k + (if ptc I h t < ptc I h k then 1 else 0) := rfl
      refine z_iload dX7_betterThan_11 rfl ?_
      refine z_aload_n dX7_betterThan_13 rfl ?_
      refine z_getI fRX7_32 dX7_betterThan_14 (by first | assumption | rfl) (by rfl) ?_
      refine z_icmp_ge (tgt := 39) dX7_betterThan_17 (by decide) (fun hb => absurd hb (by rw [hn]; exact nI_ge (by omega) (by omega))) (fun _ => ?_)
      refine z_aload_n dX7_betterThan_20 rfl ?_
      refine z_iload dX7_betterThan_21 rfl ?_
      refine z_cV1s mX7_points gRX7_57 dX7_betterThan_23 (s_points hh rfl (show k < 20 by omega)) (by decide) (by first | assumption | rfl) (by rfl) (Nat.le_of_ble_eq_true rfl) (Nat.le_refl _) (Nat.le_refl _) ?_
      refine z_iload_n dX7_betterThan_26 rfl ?_
      refine z_icmp_le (tgt := 33) dX7_betterThan_27 (by decide) (fun hb => ?_) (fun hb => ?_)
      · refine z_inc4 (w := 1) dX7_betterThan_33 rfl (by decide) rfl ?_
        refine z_goto (tgt := 11) dX7_betterThan_36 (by decide) ?_
        have := ih (k + 1) (by omega)
        rw [e1, if_neg (Int32.not_lt.mpr hb), Nat.add_zero] at this
        rw [nI_1]
        exact this
      · refine z_inc3 (w := 1) dX7_betterThan_30 rfl (by decide) rfl ?_
        refine z_inc4 (w := 1) dX7_betterThan_33 rfl (by decide) rfl ?_
        refine z_goto (tgt := 11) dX7_betterThan_36 (by decide) ?_
        have := ih (k + 1) (by omega)
        rw [e1, if_pos (Int32.not_le.mp hb)] at this
        rw [nI_1, nI_1]
        exact this
  refine z_aload_n dX7_betterThan_0 rfl ?_
  refine z_iload_n dX7_betterThan_1 rfl ?_
  refine z_cV1s mX7_points gRX7_57 dX7_betterThan_2 (s_points hh rfl ht) (by decide) (by first | assumption | rfl) (by rfl) (Nat.le_of_ble_eq_true rfl) (Nat.le_refl _) (Nat.le_refl _) ?_
  refine z_ist2 dX7_betterThan_5 (by decide) rfl ?_
  refine z_iconst (v := 0) dX7_betterThan_6 rfl ?_
  refine z_ist3 dX7_betterThan_7 (by decide) rfl ?_
  refine z_iconst (v := 0) dX7_betterThan_8 rfl ?_
  refine z_ist4 dX7_betterThan_9 (by decide) rfl ?_
  exact loop n 0 (by omega)
theorem s_standing {I : ZI} {h t n : Nat} {x : Int32} (hh : ShAt h) (hn : I h 5 = nI n) (hn20 : n ≤ 20) (hx : x = nI t) (ht : t < 20) : ZE yX7_standing cX7_standing 5 (some FieldType.int) 3 [.ref h, .int x] Sg I (some (.int (nI (rk (ptc I h) (ptc I h t) n + eqc (ptc I h) (ptc I h t) t)))) I := by
  have h0 := hh.1
  subst hx
  refine ZSp.of (own := RX7) (L := [.ref h, .int (nI t), zj, zj, zj]) mX7_standing rfl (List.all_eq_true.mp rfl) (Nat.le_of_ble_eq_true rfl) rfl (fun X hE hN => ?_)
  have loop : ∀ (m k : Nat), k + m = t → (ZG X RX7 cX7_standing 5 3 0 0 0 0 15 [.ref h, .int (nI t), .int (ptc I h t), .int (nI (rk (ptc I h) (ptc I h t) n + eqc (ptc I h) (ptc I h t) k)), .int (nI k)] [] Sg I) := by
    intro m
    induction m with
    | zero =>
      intro k hk
      have e : k = t := by omega
      subst e
      refine z_iload dX7_standing_15 rfl ?_
      refine z_iload_n dX7_standing_17 rfl ?_
      refine z_icmp_ge (tgt := 40) dX7_standing_18 (by decide) (fun _ => ?_) (fun hb => absurd (nI_le (Nat.le_refl _) (by omega)) hb)
      refine z_iload_n dX7_standing_40 rfl ?_
      exact z_eireturn hE dX7_standing_41 rfl rfl
    | succ m ih =>
      intro k hk
      have e1 : eqc (ptc I h) (ptc I h t) (k + 1) = eqc (ptc I h) (ptc I h t) k + (if ptc I h k = ptc I h t then 1 else 0) := rfl
      refine z_iload dX7_standing_15 rfl ?_
      refine z_iload_n dX7_standing_17 rfl ?_
      refine z_icmp_ge (tgt := 40) dX7_standing_18 (by decide) (fun hb => absurd hb (nI_ge (by omega) (by omega))) (fun _ => ?_)
      refine z_aload_n dX7_standing_21 rfl ?_
      refine z_iload dX7_standing_22 rfl ?_
      refine z_cV1s mX7_points gRX7_57 dX7_standing_24 (s_points hh rfl (show k < 20 by omega)) (by decide) (by first | assumption | rfl) (by rfl) (Nat.le_of_ble_eq_true rfl) (Nat.le_refl _) (Nat.le_refl _) ?_
      refine z_iload_n dX7_standing_27 rfl ?_
      refine z_icmp_ne (tgt := 34) dX7_standing_28 (by decide) (fun hb => ?_) (fun hb => ?_)
      · refine z_inc4 (w := 1) dX7_standing_34 rfl (by decide) rfl ?_
        refine z_goto (tgt := 15) dX7_standing_37 (by decide) ?_
        have := ih (k + 1) (by omega)
        rw [e1, if_neg hb, Nat.add_zero] at this
        rw [nI_1]
        exact this
      · refine z_inc3 (w := 1) dX7_standing_31 rfl (by decide) rfl ?_
        refine z_inc4 (w := 1) dX7_standing_34 rfl (by decide) rfl ?_
        refine z_goto (tgt := 15) dX7_standing_37 (by decide) ?_
        have := ih (k + 1) (by omega)
        rw [e1, if_pos hb, ← Nat.add_assoc] at this
        rw [nI_1, nI_1]
        exact this
  refine z_aload_n dX7_standing_0 rfl ?_
  refine z_iload_n dX7_standing_1 rfl ?_
  refine z_cV1s mX7_points gRX7_57 dX7_standing_2 (s_points hh rfl ht) (by decide) (by first | assumption | rfl) (by rfl) (Nat.le_of_ble_eq_true rfl) (Nat.le_refl _) (Nat.le_refl _) ?_
  refine z_ist2 dX7_standing_5 (by decide) rfl ?_
  refine z_aload_n dX7_standing_6 rfl ?_
  refine z_iload_n dX7_standing_7 rfl ?_
  refine z_cV1s mX7_betterThan gRX7_60 dX7_standing_8 (s_betterThan hh hn hn20 rfl ht) (by decide) (by first | assumption | rfl) (by rfl) (Nat.le_of_ble_eq_true rfl) (Nat.le_refl _) (Nat.le_refl _) ?_
  refine z_ist3 dX7_standing_11 (by decide) rfl ?_
  refine z_iconst (v := 0) dX7_standing_12 rfl ?_
  refine z_ist4 dX7_standing_13 (by decide) rfl ?_
  exact loop t 0 (by omega)
theorem s_pickers {I : ZI} {h q n : Nat} {x y : Int32} (hh : ShAt h) (hn : I h 5 = nI n) (hn20 : n ≤ 20) (hx : x = nI q) (hq : q < 20) : ZE yX7_pickers cX7_pickers 5 (some FieldType.int) 2 [.ref h, .int x, .int y] Sg I (some (.int (nI (eqc (fun s => I (h + 9 + 1) (20 * s + q)) y n)))) I := by
  have h0 := hh.1
  subst hx
  refine ZSp.of (own := RX7) (L := [.ref h, .int (nI q), .int y, zj, zj]) mX7_pickers rfl (List.all_eq_true.mp rfl) (Nat.le_of_ble_eq_true rfl) rfl (fun X hE hN => ?_)
  have loop : ∀ (m k : Nat), k + m = n → (ZG X RX7 cX7_pickers 5 2 0 0 0 0 5 [.ref h, .int (nI q), .int y, .int (nI (eqc (fun s => I (h + 9 + 1) (20 * s + q)) y k)), .int (nI k)] [] Sg I) := by
    intro m
    induction m with
    | zero =>
      intro k hk
      have e : k = n := by omega
      subst e
      refine z_iload dX7_pickers_5 rfl ?_
      refine z_aload_n dX7_pickers_7 rfl ?_
      refine z_getI fRX7_32 dX7_pickers_8 (by first | assumption | rfl) (by rfl) ?_
      refine z_icmp_ge (tgt := 34) dX7_pickers_11 (by decide) (fun _ => ?_) (fun hb => absurd (by rw [hn]; exact nI_le (Nat.le_refl _) (by omega)) hb)
      refine z_iload_n dX7_pickers_34 rfl ?_
      exact z_eireturn hE dX7_pickers_35 rfl rfl
    | succ m ih =>
      intro k hk
      have e1 : eqc (fun s => I (h + 9 + 1) (20 * s + q)) y (k + 1) = eqc (fun s => I (h + 9 + 1) (20 * s + q)) y k + (if I (h + 9 + 1) (20 * k + q) = y then 1 else 0) := rfl
      refine z_iload dX7_pickers_5 rfl ?_
      refine z_aload_n dX7_pickers_7 rfl ?_
      refine z_getI fRX7_32 dX7_pickers_8 (by first | assumption | rfl) (by rfl) ?_
      refine z_icmp_ge (tgt := 34) dX7_pickers_11 (by decide) (fun hb => absurd hb (by rw [hn]; exact nI_ge (by omega) (by omega))) (fun _ => ?_)
      refine z_aload_n dX7_pickers_14 rfl ?_
      refine z_iload dX7_pickers_15 rfl ?_
      refine z_iload_n dX7_pickers_17 rfl ?_
      refine z_cV2s mX7_pick gRX7_63 dX7_pickers_18 (s_pick hh rfl rfl (show k < 20 by omega) hq) (by decide) (by first | assumption | rfl) (by rfl) (Nat.le_of_ble_eq_true rfl) (Nat.le_refl _) (Nat.le_refl _) ?_
      refine z_iload_n dX7_pickers_21 rfl ?_
      refine z_icmp_ne (tgt := 28) dX7_pickers_22 (by decide) (fun hb => ?_) (fun hb => ?_)
      · refine z_inc4 (w := 1) dX7_pickers_28 rfl (by decide) rfl ?_
        refine z_goto (tgt := 5) dX7_pickers_31 (by decide) ?_
        have := ih (k + 1) (by omega)
        rw [e1, if_neg hb, Nat.add_zero] at this
        rw [nI_1]
        exact this
      · refine z_inc3 (w := 1) dX7_pickers_25 rfl (by decide) rfl ?_
        refine z_inc4 (w := 1) dX7_pickers_28 rfl (by decide) rfl ?_
        refine z_goto (tgt := 5) dX7_pickers_31 (by decide) ?_
        have := ih (k + 1) (by omega)
        rw [e1, if_pos hb] at this
        rw [nI_1, nI_1]
        exact this
  refine z_iconst (v := 0) dX7_pickers_0 rfl ?_
  refine z_ist3 dX7_pickers_1 (by decide) rfl ?_
  refine z_iconst (v := 0) dX7_pickers_2 rfl ?_
  refine z_ist4 dX7_pickers_3 (by decide) rfl ?_
  exact loop n 0 (by omega)
/-- a sheet's number by its kind -/
def shn (I : ZI) (h n t : Nat) (w : Int32) : Int32 := if w = 0 then I (h + 1 + 1) t else if w = 1 then ptc I h t else if w = 2 then I (h + 3 + 1) t else if w = 3 then I (h + 5 + 1) t else nI (1 + rk (ptc I h) (ptc I h t) n)
theorem s_shNumber {I : ZI} {h t n : Nat} {x w : Int32} (hh : ShAt h) (hn : I h 5 = nI n) (hn20 : n ≤ 20) (hx : x = nI t) (ht : t < 20) : ZE yX7_number cX7_number 3 (some FieldType.int) 3 [.ref h, .int x, .int w] Sg I (some (.int (shn I h n t w))) I := by
  have h0 := hh.1
  have g1 := hh.2.1.1
  have g2 := hh.2.2.1.1
  have g3 := hh.2.2.2.1.1
  subst hx
  refine ZSp.of (own := RX7) (L := [.ref h, .int (nI t), .int w]) mX7_number rfl (List.all_eq_true.mp rfl) (Nat.le_of_ble_eq_true rfl) rfl (fun X hE hN => ?_)
  refine z_iload_n dX7_number_0 rfl ?_
  rcases z_sw4 w with rfl | rfl | rfl | rfl | hw
  · refine z_tableIn (off := 31) (tgt := 32) dX7_number_1 (by decide) (by decide) (by decide) (by decide) ?_
    refine z_aload_n dX7_number_32 rfl ?_
    refine z_getR fRX7_14 dX7_number_33 (by first | assumption | rfl) (by rfl) ?_
    refine z_iload_n dX7_number_36 rfl ?_
    refine z_cV1s mX6_get gRX7_36 dX7_number_37 (s_getN hh.2.1 rfl ht) (by decide) (by first | assumption | rfl) (by rfl) (Nat.le_of_ble_eq_true rfl) (Nat.le_refl _) (Nat.le_refl _) ?_
    exact z_eireturn hE dX7_number_40 rfl rfl
  · refine z_tableIn (off := 40) (tgt := 41) dX7_number_1 (by decide) (by decide) (by decide) (by decide) ?_
    refine z_aload_n dX7_number_41 rfl ?_
    refine z_iload_n dX7_number_42 rfl ?_
    refine z_cV1s mX7_points gRX7_57 dX7_number_43 (s_points hh rfl ht) (by decide) (by first | assumption | rfl) (by rfl) (Nat.le_of_ble_eq_true rfl) (Nat.le_refl _) (Nat.le_refl _) ?_
    exact z_eireturn hE dX7_number_46 rfl rfl
  · refine z_tableIn (off := 46) (tgt := 47) dX7_number_1 (by decide) (by decide) (by decide) (by decide) ?_
    refine z_aload_n dX7_number_47 rfl ?_
    refine z_getR fRX7_20 dX7_number_48 (by first | assumption | rfl) (by rfl) ?_
    refine z_iload_n dX7_number_51 rfl ?_
    refine z_cV1s mX6_get gRX7_36 dX7_number_52 (s_getN hh.2.2.1 rfl ht) (by decide) (by first | assumption | rfl) (by rfl) (Nat.le_of_ble_eq_true rfl) (Nat.le_refl _) (Nat.le_refl _) ?_
    exact z_eireturn hE dX7_number_55 rfl rfl
  · refine z_tableIn (off := 55) (tgt := 56) dX7_number_1 (by decide) (by decide) (by decide) (by decide) ?_
    refine z_aload_n dX7_number_56 rfl ?_
    refine z_getR fRX7_23 dX7_number_57 (by first | assumption | rfl) (by rfl) ?_
    refine z_iload_n dX7_number_60 rfl ?_
    refine z_cV1s mX6_get gRX7_36 dX7_number_61 (s_getN hh.2.2.2.1 rfl ht) (by decide) (by first | assumption | rfl) (by rfl) (Nat.le_of_ble_eq_true rfl) (Nat.le_refl _) (Nat.le_refl _) ?_
    exact z_eireturn hE dX7_number_64 rfl rfl
  · refine z_tableOut (tgt := 65) dX7_number_1 (hw) (by decide) ?_
    refine z_iconst (v := 1) dX7_number_65 rfl ?_
    refine z_aload_n dX7_number_66 rfl ?_
    refine z_iload_n dX7_number_67 rfl ?_
    refine z_cV1s mX7_betterThan gRX7_60 dX7_number_68 (s_betterThan hh hn hn20 rfl ht) (by decide) (by first | assumption | rfl) (by rfl) (Nat.le_of_ble_eq_true rfl) (Nat.le_refl _) (Nat.le_refl _) ?_
    refine z_iadd dX7_number_71 ?_
    exact z_eireturn hE dX7_number_72 (by
      have n0 : w ≠ 0 := by rintro rfl; exact absurd hw (by decide)
      have n1 : w ≠ 1 := by rintro rfl; exact absurd hw (by decide)
      have n2 : w ≠ 2 := by rintro rfl; exact absurd hw (by decide)
      have n3 : w ≠ 3 := by rintro rfl; exact absurd hw (by decide)
      rw [shn, if_neg n0, if_neg n1, if_neg n2, if_neg n3]
      exact nI_add 1 _) rfl
/-- the choice that a mark is -/
def pkI (c : Nat → Nat) (m : Option Nat) : Int32 := match m with
  | none => -1
  | some m => nI (c m)
theorem mk_m1 (n : Nat) (hn : n < 1000) : nI n ≠ -1 := by
  intro h
  have h1 := congrArg Int32.toInt h
  rw [nI_toInt (by omega)] at h1
  have h2 : (-1 : Int32).toInt = -1 := rfl
  omega
theorem s_shAppend {I : ZI} {h p d nq t v : Nat} {qd : Qd} {seed x : Int32} {m : Nat → Option Nat} (hh : ShAt h) (ht : I h 5 = nI t) (ht20 : t < 20) (hV : QV nq qd) (hp : PpAt p) (hP : Pm I p nq qd seed) (hd : RowAt d 20) (hx : x = nI v)
    (hm : ∀ i, i < nq → I (d + 1) i = mkI (m i) ∧ ∀ k, m i = some k → k < qd (Od nq qd seed i) 4) (hfar : h + 11 ≤ d ∧ d + 1 < p ∨ h + 11 ≤ p ∧ p + 20 ≤ d) :
    ZP yX7_append cX7_append 10 (some FieldType.int) 2 [.ref h, .int x, .ref p, .ref d] Sg I (fun r J => r = some (.int (nI t)) ∧ (∀ a, a ≠ h → a ≠ h + 1 + 1 → a ≠ h + 3 + 1 → a ≠ h + 5 + 1 → a ≠ h + 7 + 1 → a ≠ h + 9 + 1 → J a = I a) ∧ J h = upd (I h) 5 (nI (t + 1)) ∧ J (h + 1 + 1) = upd (I (h + 1 + 1)) t (nI v)
      ∧ J (h + 3 + 1) = upd (I (h + 3 + 1)) t (nI (cR m (Ky nq qd seed) nq)) ∧ J (h + 5 + 1) = upd (I (h + 5 + 1)) t (nI (cW m (Ky nq qd seed) nq))
      ∧ (∀ i, i < nq → J (h + 7 + 1) (20 * t + i) = mkI (m i)) ∧ (∀ j, (j < 20 * t ∨ 20 * t + 20 ≤ j) → J (h + 7 + 1) j = I (h + 7 + 1) j)
      ∧ (∀ i, i < nq → J (h + 9 + 1) (20 * t + Od nq qd seed i) = pkI (Ch nq qd seed i) (m i)) ∧ ∀ j, (j < 20 * t ∨ 20 * t + 20 ≤ j) → J (h + 9 + 1) j = I (h + 9 + 1) j) := by
  have hn := hV.1
  have h0 := hh.1
  have g1 := hh.2.1.1
  have g2 := hh.2.2.1.1
  have g3 := hh.2.2.2.1.1
  have g4 := hh.2.2.2.2.1.1
  have g5 := hh.2.2.2.2.2.1
  have hp0 := hp.1
  have hp1 := hp.2.1.1
  have hp3 := hp.2.2.2.1.1
  have hd0 := hd.1
  have hoe := Od_en nq qd seed
  subst hx
  refine ZSp.of (own := RX7) (L := [.ref h, .int (nI v), .ref p, .ref d, zj, zj, zj, zj, zj, zj]) mX7_append rfl (List.all_eq_true.mp rfl) (Nat.le_of_ble_eq_true rfl) rfl (fun X hE hN => ?_)
  have loop : ∀ (n i : Nat) (J : ZI), i + n = nq → (∀ a, a ≠ h + 7 + 1 → a ≠ h + 9 + 1 → J a = I a) → (∀ j, j < i → J (h + 7 + 1) (20 * t + j) = mkI (m j)) → (∀ j, (j < 20 * t ∨ 20 * t + 20 ≤ j) → J (h + 7 + 1) j = I (h + 7 + 1) j)
      → (∀ j, j < i → J (h + 9 + 1) (20 * t + Od nq qd seed j) = pkI (Ch nq qd seed j) (m j)) → (∀ j, (j < 20 * t ∨ 20 * t + 20 ≤ j) → J (h + 9 + 1) j = I (h + 9 + 1) j)
      → (ZG X RX7 cX7_append 10 2 0 0 0 0 15 [.ref h, .int (nI v), .ref p, .ref d, .int (nI t), .int (nI (cR m (Ky nq qd seed) i)), .int (nI (cW m (Ky nq qd seed) i)), .int (nI i), zj, zj] [] Sg J) := by
    intro n
    induction n with
    | zero =>
      intro i J hi a1 a2 a3 a4 a5
      have e : i = nq := by omega
      subst e
      have hr := cRW_le m (Ky i qd seed) i
      have n1 : h ≠ h + 1 + 1 := by omega
      have n3 : h ≠ h + 3 + 1 := by omega
      have n5 : h ≠ h + 5 + 1 := by omega
      have n13 : h + 1 + 1 ≠ h + 3 + 1 := by omega
      have n15 : h + 1 + 1 ≠ h + 5 + 1 := by omega
      have n35 : h + 3 + 1 ≠ h + 5 + 1 := by omega
      refine z_iload dX7_append_15 rfl ?_
      refine z_aload_n dX7_append_17 rfl ?_
      refine z_getI fRX7_40 dX7_append_18 (by first | assumption | rfl) (by rfl) ?_
      refine z_icmp_ge (tgt := 128) dX7_append_21 (by decide) (fun _ => ?_) (fun hb => absurd (by rw [a1 p (by omega) (by omega), hP.1]; exact nI_le (Nat.le_refl _) (by omega)) hb)
      refine z_aload_n dX7_append_128 rfl ?_
      refine z_getR fRX7_14 dX7_append_129 (by first | assumption | rfl) (by rfl) ?_
      refine z_iload dX7_append_132 rfl ?_
      refine z_iload_n dX7_append_134 rfl ?_
      refine z_cV2n mX6_set gRX7_47 dX7_append_135 (s_setN hh.2.1 rfl ht20) (by decide) (by first | assumption | rfl) (by rfl) (Nat.le_of_ble_eq_true rfl) (Nat.le_refl _) (Nat.le_refl _) ?_
      refine z_aload_n dX7_append_138 rfl ?_
      refine z_getR fRX7_20 dX7_append_139 (by first | assumption | rfl) (by rfl) ?_
      refine z_iload dX7_append_142 rfl ?_
      refine z_iload dX7_append_144 rfl ?_
      refine z_cV2n mX6_set gRX7_47 dX7_append_146 (s_setN hh.2.2.1 rfl ht20) (by decide) (by first | assumption | rfl) (by rfl) (Nat.le_of_ble_eq_true rfl) (Nat.le_refl _) (Nat.le_refl _) ?_
      refine z_aload_n dX7_append_149 rfl ?_
      refine z_getR fRX7_23 dX7_append_150 (by first | assumption | rfl) (by rfl) ?_
      refine z_iload dX7_append_153 rfl ?_
      refine z_iload dX7_append_155 rfl ?_
      refine z_cV2n mX6_set gRX7_47 dX7_append_157 (s_setN hh.2.2.2.1 rfl ht20) (by decide) (by first | assumption | rfl) (by rfl) (Nat.le_of_ble_eq_true rfl) (Nat.le_refl _) (Nat.le_refl _) ?_
      refine z_aload_n dX7_append_160 rfl ?_
      refine z_dup dX7_append_161 rfl ?_
      refine z_getI fRX7_32 dX7_append_162 (by first | assumption | rfl) (by rfl) ?_
      refine z_iconst (v := 1) dX7_append_165 rfl ?_
      refine z_iadd dX7_append_166 ?_
      refine z_putI fRX7_32 dX7_append_167 (by first | assumption | rfl) (by rfl) ?_
      refine z_iload dX7_append_170 rfl ?_
      rw [zup_ne _ _ _ n5, zup_ne _ _ _ n3, zup_ne _ _ _ n1, a1 h (by omega) (by omega), ht, nI_1]
      exact z_iret hE dX7_append_172 ⟨rfl, rfl, fun a b0 b1 b2 b3 b4 b5 => by rw [zup_ne _ _ _ b0, zup_ne _ _ _ b3, zup_ne _ _ _ b2, zup_ne _ _ _ b1, a1 a b4 b5], by rw [zup_at, zup_ne _ _ _ n5, zup_ne _ _ _ n3, zup_ne _ _ _ n1, a1 h (by omega) (by omega)], by rw [zup_ne _ _ _ n1.symm, zup_ne _ _ _ n15, zup_ne _ _ _ n13, zup_at, a1 _ (by omega) (by omega)], by rw [zup_ne _ _ _ n3.symm, zup_ne _ _ _ n35, zup_at, zup_ne _ _ _ n13.symm, a1 _ (by omega) (by omega)], by rw [zup_ne _ _ _ n5.symm, zup_at, zup_ne _ _ _ n35.symm, zup_ne _ _ _ n15.symm, a1 _ (by omega) (by omega)], fun j hj => by rw [zup_ne _ _ _ (by omega), zup_ne _ _ _ (by omega), zup_ne _ _ _ (by omega), zup_ne _ _ _ (by omega), a2 j hj], fun j hj => by rw [zup_ne _ _ _ (by omega), zup_ne _ _ _ (by omega), zup_ne _ _ _ (by omega), zup_ne _ _ _ (by omega), a3 j hj], fun j hj => by rw [zup_ne _ _ _ (by omega), zup_ne _ _ _ (by omega), zup_ne _ _ _ (by omega), zup_ne _ _ _ (by omega), a4 j hj], fun j hj => by rw [zup_ne _ _ _ (by omega), zup_ne _ _ _ (by omega), zup_ne _ _ _ (by omega), zup_ne _ _ _ (by omega), a5 j hj]⟩
    | succ n ih =>
      intro i J hi a1 a2 a3 a4 a5
      have hO := hoe.1 i (by omega)
      have hO5 := (hV.2 _ hO).2.2.2.1
      have hKy := Ky_lt (seed := seed) hV (show i < nq by omega)
      have n79 : h + 7 + 1 ≠ h + 9 + 1 := by omega
      have r1 : cR m (Ky nq qd seed) (i + 1) = cR m (Ky nq qd seed) i + (if m i = some (Ky nq qd seed i) then 1 else 0) := rfl
      have r2 : cW m (Ky nq qd seed) (i + 1) = cW m (Ky nq qd seed) i + (if m i ≠ none ∧ m i ≠ some (Ky nq qd seed i) then 1 else 0) := rfl
      -- behind the marks: the sheet's two rows are written
      have tail : (ZG X RX7 cX7_append 10 2 0 0 0 0 93 [.ref h, .int (nI v), .ref p, .ref d, .int (nI t), .int (nI (cR m (Ky nq qd seed) i)), .int (nI (cW m (Ky nq qd seed) i)), .int (nI i), .int (mkI (m i)), .int (pkI (Ch nq qd seed i) (m i))] [] Sg (zup (zup J (h + 7 + 1) (20 * t + i) (mkI (m i))) (h + 9 + 1) (20 * t + Od nq qd seed i) (pkI (Ch nq qd seed i) (m i)))) := by
        have nxt : ∀ (c1 c2 : Nat), c1 = cR m (Ky nq qd seed) (i + 1) → c2 = cW m (Ky nq qd seed) (i + 1) → (ZG X RX7 cX7_append 10 2 0 0 0 0 122 [.ref h, .int (nI v), .ref p, .ref d, .int (nI t), .int (nI c1), .int (nI c2), .int (nI i), .int (mkI (m i)), .int (pkI (Ch nq qd seed i) (m i))] [] Sg (zup (zup J (h + 7 + 1) (20 * t + i) (mkI (m i))) (h + 9 + 1) (20 * t + Od nq qd seed i) (pkI (Ch nq qd seed i) (m i)))) := by
          intro c1 c2 e1 e2
          subst e1
          subst e2
          refine z_inc7 (w := 1) dX7_append_122 rfl (by decide) rfl ?_
          refine z_goto (tgt := 15) dX7_append_125 (by decide) ?_
          refine z_fg9 ?_
          refine z_fg8 ?_
          rw [nI_1]
          refine ih (i + 1) _ (by omega) (fun a b1 b2 => ?_) (fun j hj => ?_) (fun j hj => ?_) (fun j hj => ?_) (fun j hj => ?_)
          · rw [zup_ne _ _ _ b2, zup_ne _ _ _ b1, a1 a b1 b2]
          · rw [zup_ne _ _ _ n79, zup_at]
            by_cases hji : j = i
            · rw [hji, upd_at]
            · rw [upd_ne _ _ (by omega), a2 j (by omega)]
          · rw [zup_ne _ _ _ n79, zup_at, upd_ne _ _ (by omega), a3 j hj]
          · rw [zup_at]
            by_cases hji : j = i
            · rw [hji, upd_at]
            · rw [upd_ne _ _ (fun e => hji (hoe.inj (by omega) (by omega) (by omega))), zup_ne _ _ _ n79.symm, a4 j (by omega)]
          · rw [zup_at, upd_ne _ _ (by omega), zup_ne _ _ _ n79.symm, a5 j hj]
        refine z_iload dX7_append_93 rfl ?_
        refine z_aload_n dX7_append_95 rfl ?_
        refine z_getR fRX7_54 dX7_append_96 (by first | assumption | rfl) (by rfl) ?_
        refine z_iload dX7_append_99 rfl ?_
        refine z_cV1s mX6_get gRX7_36 dX7_append_101 (s_getN hp.2.2.2.1 rfl (show i < 20 by omega)) (by decide) (by first | assumption | rfl) (by rfl) (Nat.le_of_ble_eq_true rfl) (Nat.le_refl _) (Nat.le_refl _) ?_
        rw [zup_ne _ _ _ (show p + 5 + 1 ≠ h + 9 + 1 by omega), zup_ne _ _ _ (show p + 5 + 1 ≠ h + 7 + 1 by omega), a1 (p + 5 + 1) (by omega) (by omega), hP.2.2.2.2 i (by omega)]
        cases hmi : m i with
        | none =>
          rw [hmi] at nxt r1 r2
          refine z_icmp_ne (tgt := 113) dX7_append_104 (by decide) (fun hb => ?_) (fun hb => ?_)
          · refine z_iload dX7_append_113 rfl ?_
            refine z_iconst (v := -1) dX7_append_115 rfl ?_
            refine z_icmp_eq (tgt := 122) dX7_append_116 (by decide) (fun _ => ?_) (fun hb => absurd (rfl) hb)
            exact nxt _ _ (by rw [r1]; simp) (by rw [r2]; simp)
          · exact absurd hb.symm (mk_m1 _ (by omega))
        | some k =>
          have hk := (hm i (by omega)).2 k hmi
          rw [hmi] at nxt r1 r2
          refine z_icmp_ne (tgt := 113) dX7_append_104 (by decide) (fun hb => ?_) (fun hb => ?_)
          · refine z_iload dX7_append_113 rfl ?_
            refine z_iconst (v := -1) dX7_append_115 rfl ?_
            have hne : k ≠ Ky nq qd seed i := fun e => hb (by rw [e]; rfl)
            refine z_icmp_eq (tgt := 122) dX7_append_116 (by decide) (fun hb => absurd hb (mk_m1 k (by omega))) (fun _ => ?_)
            refine z_inc6 (w := 1) dX7_append_119 rfl (by decide) rfl ?_
            rw [nI_1]
            exact nxt _ _ (by rw [r1]; simp [hne]) (by rw [r2]; simp [hne])
          · refine z_inc5 (w := 1) dX7_append_107 rfl (by decide) rfl ?_
            refine z_goto (tgt := 122) dX7_append_110 (by decide) ?_
            have heq : k = Ky nq qd seed i := (nI_eq (by omega) (by omega)).mp hb
            rw [nI_1]
            exact nxt _ _ (by rw [r1]; simp [heq]) (by rw [r2]; simp [heq])
      have mid : (ZG X RX7 cX7_append 10 2 0 0 0 0 52 [.ref h, .int (nI v), .ref p, .ref d, .int (nI t), .int (nI (cR m (Ky nq qd seed) i)), .int (nI (cW m (Ky nq qd seed) i)), .int (nI i), .int (mkI (m i)), .int (pkI (Ch nq qd seed i) (m i))] [] Sg J) := by
        refine z_aload_n dX7_append_52 rfl ?_
        refine z_getR fRX7_26 dX7_append_53 (by first | assumption | rfl) (by rfl) ?_
        refine z_iload dX7_append_56 rfl ?_
        refine z_bipush (v := 20) dX7_append_58 rfl ?_
        refine z_imul dX7_append_60 ?_
        refine z_iload dX7_append_61 rfl ?_
        refine z_iadd dX7_append_63 ?_
        refine z_iload dX7_append_64 rfl ?_
        refine z_cV2n mX6_set gRX7_47 dX7_append_66 (s_set hh.2.2.2.2.1) (by decide) (by first | assumption | rfl) (by rfl) (Nat.le_of_ble_eq_true rfl) (Nat.le_refl _) (Nat.le_refl _) ?_
        rw [z_twenty, rset_in (show 20 * t + i < 400 by omega) (by decide), ← zup_zcp]
        refine z_aload_n dX7_append_69 rfl ?_
        refine z_getR fRX7_29 dX7_append_70 (by first | assumption | rfl) (by rfl) ?_
        refine z_iload dX7_append_73 rfl ?_
        refine z_bipush (v := 20) dX7_append_75 rfl ?_
        refine z_imul dX7_append_77 ?_
        refine z_aload_n dX7_append_78 rfl ?_
        refine z_getR fRX7_51 dX7_append_79 (by first | assumption | rfl) (by rfl) ?_
        refine z_iload dX7_append_82 rfl ?_
        refine z_cV1s mX6_get gRX7_36 dX7_append_84 (s_getN hp.2.1 rfl (show i < 20 by omega)) (by decide) (by first | assumption | rfl) (by rfl) (Nat.le_of_ble_eq_true rfl) (Nat.le_refl _) (Nat.le_refl _) ?_
        rw [zup_ne _ _ _ (show p + 1 + 1 ≠ h + 7 + 1 by omega), a1 (p + 1 + 1) (by omega) (by omega), hP.2.1 i (by omega)]
        refine z_iadd dX7_append_87 ?_
        refine z_iload dX7_append_88 rfl ?_
        refine z_cV2n mX6_set gRX7_47 dX7_append_90 (s_set hh.2.2.2.2.2) (by decide) (by first | assumption | rfl) (by rfl) (Nat.le_of_ble_eq_true rfl) (Nat.le_refl _) (Nat.le_refl _) ?_
        rw [z_twenty, rset_in (show 20 * t + Od nq qd seed i < 400 by omega) (by decide), ← zup_zcp]
        exact tail
      refine z_iload dX7_append_15 rfl ?_
      refine z_aload_n dX7_append_17 rfl ?_
      refine z_getI fRX7_40 dX7_append_18 (by first | assumption | rfl) (by rfl) ?_
      refine z_icmp_ge (tgt := 128) dX7_append_21 (by decide) (fun hb => absurd hb (by rw [a1 p (by omega) (by omega), hP.1]; exact nI_ge (by omega) (by omega))) (fun _ => ?_)
      refine z_aload_n dX7_append_24 rfl ?_
      refine z_iload dX7_append_25 rfl ?_
      refine z_cV1s mX6_get gRX7_36 dX7_append_27 (s_getN hd rfl (show i < 20 by omega)) (by decide) (by first | assumption | rfl) (by rfl) (Nat.le_of_ble_eq_true rfl) (Nat.le_refl _) (Nat.le_refl _) ?_
      rw [a1 (d + 1) (by omega) (by omega), (hm i (by omega)).1]
      cases hmi : m i with
      | none =>
        rw [hmi] at mid
        refine z_ist8 dX7_append_30 (by decide) rfl ?_
        refine z_iload dX7_append_32 rfl ?_
        refine z_iconst (v := -1) dX7_append_34 rfl ?_
        refine z_icmp_ne (tgt := 42) dX7_append_35 (by decide) (fun hb => absurd (rfl) hb) (fun _ => ?_)
        refine z_iconst (v := -1) dX7_append_38 rfl ?_
        refine z_goto (tgt := 50) dX7_append_39 (by decide) ?_
        refine z_ist9 dX7_append_50 (by decide) rfl ?_
        exact mid
      | some k =>
        have hk := (hm i (by omega)).2 k hmi
        rw [hmi] at mid
        refine z_ist8 dX7_append_30 (by decide) rfl ?_
        refine z_iload dX7_append_32 rfl ?_
        refine z_iconst (v := -1) dX7_append_34 rfl ?_
        refine z_icmp_ne (tgt := 42) dX7_append_35 (by decide) (fun _ => ?_) (fun hb => absurd hb (mk_m1 k (by omega)))
        refine z_aload_n dX7_append_42 rfl ?_
        refine z_iload dX7_append_43 rfl ?_
        refine z_iload dX7_append_45 rfl ?_
        refine z_cV2s mX4_choiceAt gRX7_43 dX7_append_47 (s_choiceAt hp rfl (show mkI (some k) = nI k from rfl) (show i < 20 by omega) (show k < 5 by omega)) (by decide) (by first | assumption | rfl) (by rfl) (Nat.le_of_ble_eq_true rfl) (Nat.le_refl _) (Nat.le_refl _) ?_
        rw [a1 (p + 7 + 1) (by omega) (by omega), hP.2.2.2.1 i (by omega) k hk]
        refine z_ist9 dX7_append_50 (by decide) rfl ?_
        exact mid
  refine z_aload_n dX7_append_0 rfl ?_
  refine z_getI fRX7_32 dX7_append_1 (by first | assumption | rfl) (by rfl) ?_
  refine z_ist4 dX7_append_4 (by decide) rfl ?_
  refine z_iconst (v := 0) dX7_append_6 rfl ?_
  refine z_ist5 dX7_append_7 (by decide) rfl ?_
  refine z_iconst (v := 0) dX7_append_9 rfl ?_
  refine z_ist6 dX7_append_10 (by decide) rfl ?_
  refine z_iconst (v := 0) dX7_append_12 rfl ?_
  refine z_ist7 dX7_append_13 (by decide) rfl ?_
  rw [ht]
  exact loop nq 0 I (by omega) (fun _ _ _ => rfl) (fun j hj => absurd hj (Nat.not_lt_zero j)) (fun _ _ => rfl) (fun j hj => absurd hj (Nat.not_lt_zero j)) (fun _ _ => rfl)

