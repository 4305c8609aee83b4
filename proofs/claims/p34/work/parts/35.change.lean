/-! ===== change, remove, forget, undo ===== -/
def chA (A : AS) (q j n : Nat) : AS := (anq A, fun i w => if i = q ∧ w = j then n else aqd A i w, anv A, asd A, aln A, 0, asv A, amk A)
/-- what a change may ask -/
def vC2 (A : AS) (x w v : Int32) (q j n : Nat) : Prop := q < anq A ∧ x = nI q ∧ j < 4 ∧ w = nI j ∧ v = nI n ∧ okN j n (aqd A q 4)
theorem okN_lt {j n k : Nat} (h : okN j n k) : j < 4 := by rcases h with ⟨q, _⟩ | ⟨q, _⟩ | ⟨q, _⟩ | ⟨q, _⟩ <;> omega
theorem chA_QV {A : AS} {q j n : Nat} (h : QV (anq A) (aqd A)) (hq : q < anq A) (hk : okN j n (aqd A q 4)) : QV (anq A) (fun i w => if i = q ∧ w = j then n else aqd A i w) := by
  refine ⟨h.1, fun i hi => ?_⟩
  have hv := h.2 i hi
  by_cases e : i = q
  · subst e
    have r : ∀ w, (if i = i ∧ w = j then n else aqd A i w) = if w = j then n else aqd A i w := fun w => by
      by_cases e2 : w = j
      · rw [if_pos ⟨rfl, e2⟩, if_pos e2]
      · rw [if_neg (fun z => e2 z.2), if_neg e2]
    show 1 ≤ (if i = i ∧ 0 = j then n else aqd A i 0) ∧ (if i = i ∧ 0 = j then n else aqd A i 0) ≤ 9 ∧ 2 ≤ (if i = i ∧ 4 = j then n else aqd A i 4) ∧ (if i = i ∧ 4 = j then n else aqd A i 4) ≤ 5 ∧ (if i = i ∧ 1 = j then n else aqd A i 1) < (if i = i ∧ 4 = j then n else aqd A i 4) ∧ (if i = i ∧ 2 = j then n else aqd A i 2) < 2 ^ (if i = i ∧ 4 = j then n else aqd A i 4) ∧ (if i = i ∧ 3 = j then n else aqd A i 3) ≤ 5
    rw [r 0, r 1, r 2, r 3, r 4]
    rcases hk with ⟨rfl, k1, k2⟩ | ⟨rfl, k1⟩ | ⟨rfl, k1⟩ | ⟨rfl, k1⟩
    · exact ⟨k1, k2, hv.2.2⟩
    · exact ⟨hv.1, hv.2.1, hv.2.2.1, hv.2.2.2.1, k1, hv.2.2.2.2.2⟩
    · exact ⟨hv.1, hv.2.1, hv.2.2.1, hv.2.2.2.1, hv.2.2.2.2.1, k1, hv.2.2.2.2.2.2⟩
    · exact ⟨hv.1, hv.2.1, hv.2.2.1, hv.2.2.2.1, hv.2.2.2.2.1, hv.2.2.2.2.2.1, k1⟩
  · simp only [e, false_and, if_false]
    exact hv
def aChange (A : AS) (x w v r : Int32) : Prop := ((¬ ∃ q j n, vC2 A x w v q j n) ∧ r = -1001) ∨ ((∃ q j n, vC2 A x w v q j n) ∧ ans A ≠ 0 ∧ r = -1002)
theorem s_change {I : ZI} {A : AS} {hc : Nat} {Hh : Nat → AS} {tc : Nat} {bf : Nat → Nat} {x w v : Int32} (h : CI I A hc Hh tc bf) : ZP yX9_change cX9_change 5 (some FieldType.int) 6 [.ref 0, .int x, .int w, .int v] Sg I (fun r J => (∀ a, 259 ≤ a → J a = I a) ∧ ((∃ a, r = some (.int a) ∧ aChange A x w v a ∧ CI J A hc Hh tc bf) ∨ (∃ q j n, vC2 A x w v q j n ∧ ans A = 0 ∧ r = some (.int (nI (aqd A q j))) ∧ CI J (chA A q j n) (phc hc) (pHh hc Hh A) tc bf))) := by
  have h0 := at_tv
  have hn1 := at_now.1
  have hs0 := at_sheets.1
  have hq0 := at_q.1
  have hns := h.2.1.2.2.2.2.1
  have hn := h.2.1.1.1
  have hcnt : I 7 5 = nI (ans A) := h.1.2.2.2.2.1
  have hq1 : I 2 1 = nI (anq A) := h.1.1.1
  refine ZSp.of (own := RX9) (L := [.ref 0, .int x, .int w, .int v, zj]) mX9_change rfl (List.all_eq_true.mp rfl) (Nat.le_of_ble_eq_true rfl) rfl (fun X hE hN => ?_)
  refine z_aload_n dX9_change_0 rfl ?_
  refine z_getR fRX9_10 dX9_change_1 (by first | assumption | rfl) (by rfl) ?_
  refine z_getR fRX9_76 dX9_change_4 (by first | assumption | rfl) (by rfl) ?_
  refine z_iload_n dX9_change_7 rfl ?_
  refine z_cV1s mX5_has gRX9_88 dX9_change_8 (s_has at_q) (by decide) (by first | assumption | rfl) (by rfl) (Nat.le_of_ble_eq_true rfl) (Nat.le_refl _) (Nat.le_refl _) ?_
  rw [hq1]
  have bad : (¬ ∃ q j n, vC2 A x w v q j n) → (ZG X RX9 cX9_change 5 6 0 0 0 0 34 [.ref 0, .int x, .int w, .int v, zj] [] Sg I) := by
    intro hw
    refine z_sipush (v := -1001) dX9_change_34 rfl ?_
    exact z_iret hE dX9_change_37 ⟨rfl, fun _ _ => rfl, Or.inl ⟨_, rfl, Or.inl ⟨hw, rfl⟩, h⟩⟩
  rcases z_dom x (anq A) (by omega) with ⟨q, hq, rfl, hx⟩ | ⟨hx, hxq⟩
  · rw [if_neg hx]
    refine z_if_eq (tgt := 34) dX9_change_11 (by decide) (fun hb => absurd hb (by decide)) (fun _ => ?_)
    refine z_iload_n dX9_change_14 rfl ?_
    refine z_iload_n dX9_change_15 rfl ?_
    refine z_aload_n dX9_change_16 rfl ?_
    refine z_getR fRX9_10 dX9_change_17 (by first | assumption | rfl) (by rfl) ?_
    refine z_getR fRX9_76 dX9_change_20 (by first | assumption | rfl) (by rfl) ?_
    refine z_iload_n dX9_change_23 rfl ?_
    refine z_iconst (v := 4) dX9_change_24 rfl ?_
    refine z_cV2s mX5_number gRX9_95 dX9_change_25 (s_number at_q h.1.1 hn rfl (show (4 : Int32) = nI 4 from rfl) hq (by decide)) (by decide) (by first | assumption | rfl) (by rfl) (Nat.le_of_ble_eq_true rfl) (Nat.le_refl _) (Nat.le_refl _) ?_
    have hq4 := (h.2.1.1.2 q hq).2.2.2.1
    have hk6 : aqd A q 4 < 6 := by omega
    by_cases ha : alw w v (nI (aqd A q 4))
    · refine z_cS3s mX5_allows gRX9_60 dX9_change_28 (s_allows (r := 1) (fun _ => rfl) (fun z => absurd ha z)) (by decide) (Nat.le_of_ble_eq_true rfl) (Nat.le_refl _) (Nat.le_refl _) ?_
      refine z_if_ne (tgt := 38) dX9_change_31 (by decide) (fun _ => ?_) (fun hb => absurd hb (by decide))
      refine z_aload_n dX9_change_38 rfl ?_
      refine z_getR fRX9_10 dX9_change_39 (by first | assumption | rfl) (by rfl) ?_
      refine z_getR fRX9_66 dX9_change_42 (by first | assumption | rfl) (by rfl) ?_
      refine z_getI fRX9_70 dX9_change_45 (by first | assumption | rfl) (by rfl) ?_
      obtain ⟨j, n, rfl, rfl, hn64, hok⟩ := (alw_iff hk6).mp ha
      have hj4 := okN_lt hok
      have hv : vC2 A (nI q) (nI j) (nI n) q j n := ⟨hq, rfl, hj4, rfl, rfl, hok⟩
      by_cases hz : ans A = 0
      · refine z_if_le (tgt := 55) dX9_change_48 (by decide) (fun _ => ?_) (fun hb => absurd (by rw [hcnt, hz]; decide) hb)
        refine z_aload_n dX9_change_55 rfl ?_
        refine z_cV0p mX9_beginChange gRX9_81 dX9_change_56 (s_beginChange h) (by decide) (by first | assumption | rfl) (by rfl) (Nat.le_of_ble_eq_true rfl) (Nat.le_refl _) (Nat.le_refl _) (fun r J hq => ?_)
        obtain ⟨rfl, b1, b2⟩ := hq
        refine z_aload_n dX9_change_59 rfl ?_
        refine z_getR fRX9_10 dX9_change_60 (by first | assumption | rfl) (by rfl) ?_
        refine z_getR fRX9_76 dX9_change_63 (by first | assumption | rfl) (by rfl) ?_
        refine z_iload_n dX9_change_66 rfl ?_
        refine z_iload_n dX9_change_67 rfl ?_
        refine z_cV2s mX5_number gRX9_95 dX9_change_68 (s_number at_q b2.1.1 hn rfl rfl hq (show j < 5 by omega)) (by decide) (by first | assumption | rfl) (by rfl) (Nat.le_of_ble_eq_true rfl) (Nat.le_refl _) (Nat.le_refl _) ?_
        refine z_ist4 dX9_change_71 (by decide) rfl ?_
        refine z_aload_n dX9_change_73 rfl ?_
        refine z_getR fRX9_10 dX9_change_74 (by first | assumption | rfl) (by rfl) ?_
        refine z_getR fRX9_76 dX9_change_77 (by first | assumption | rfl) (by rfl) ?_
        refine z_iload_n dX9_change_80 rfl ?_
        refine z_iload_n dX9_change_81 rfl ?_
        refine z_iload_n dX9_change_82 rfl ?_
        refine z_cV3n mX5_put gRX9_99 dX9_change_83 (s_put at_q rfl rfl (show q < 20 by omega) (show j < 5 by omega)) (by decide) (by first | assumption | rfl) (by rfl) (Nat.le_of_ble_eq_true rfl) (Nat.le_refl _) (Nat.le_refl _) ?_
        refine z_iload dX9_change_86 rfl ?_
        have hk : ∀ a, a ≠ 4 → zup J (2 + 1 + 1) (5 * q + j) (nI n) a = J a := fun a q1 => zup_ne _ _ _ q1
        refine z_iret hE dX9_change_88 ⟨rfl, fun a ha => by rw [hk _ (by omega), b1 a (by omega)], Or.inr ⟨q, j, n, hv, hz, rfl, z_toCI b2 ?_ ?_ (fun a ha => hk a (by omega))⟩⟩
        · obtain ⟨s1, s2, s3, s4, s5, s6⟩ := b2.1
          refine z_sc0 rfl ⟨by rw [hk _ (by decide)]; exact s1.1, fun i hi k hk5 => ?_⟩ (by rw [hk _ (by decide)]; exact s2) (fun v hv => by rw [hk _ (by decide)]; exact s3 v hv) (by rw [hk _ (by decide)]; exact s4) (by rw [hk _ (by decide), ← nI_0, ← hz]; exact s5)
          show _ = nI (if i = q ∧ k = j then n else aqd A i k)
          by_cases e : i = q ∧ k = j
          · obtain ⟨rfl, rfl⟩ := e
            rw [zup_at, upd_at, if_pos ⟨rfl, rfl⟩]
          · rw [if_neg e, zup_at, upd_ne _ _ (by omega)]
            exact s1.2 i hi k hk5
        · obtain ⟨v1, v2, v3, v4, v5, v6⟩ := h.2.1
          exact z_av0 rfl (chA_QV v1 hq hok) v2 v3 v4
      · refine z_if_le (tgt := 55) dX9_change_48 (by decide) (fun hb => absurd hb (by rw [hcnt]; exact nI_nle (by omega) (by omega))) (fun _ => ?_)
        refine z_sipush (v := -1002) dX9_change_51 rfl ?_
        exact z_iret hE dX9_change_54 ⟨rfl, fun _ _ => rfl, Or.inl ⟨_, rfl, Or.inr ⟨⟨q, j, n, hv⟩, hz, rfl⟩, h⟩⟩
    · refine z_cS3s mX5_allows gRX9_60 dX9_change_28 (s_allows (r := 0) (fun z => absurd z ha) (fun _ => rfl)) (by decide) (Nat.le_of_ble_eq_true rfl) (Nat.le_refl _) (Nat.le_refl _) ?_
      refine z_if_ne (tgt := 38) dX9_change_31 (by decide) (fun hb => absurd (rfl) hb) (fun _ => ?_)
      refine bad ?_
      rintro ⟨q', j, n, hq', e, hj4, rfl, rfl, hok⟩
      have e2 := (nI_eq (by omega) (by omega)).mp e
      subst e2
      have h2k : 2 ^ aqd A q 4 ≤ 2 ^ 5 := Nat.pow_le_pow_right (by decide) hq4
      exact ha ((alw_iff hk6).mpr ⟨j, n, rfl, rfl, by rcases hok with ⟨_, p, q⟩ | ⟨_, q⟩ | ⟨_, q⟩ | ⟨_, q⟩ <;> omega, hok⟩)
  · rw [if_pos hx]
    refine z_if_eq (tgt := 34) dX9_change_11 (by decide) (fun _ => ?_) (fun hb => absurd (rfl) hb)
    refine bad ?_
    rintro ⟨q, j, n, hq, e, -⟩
    exact hxq ⟨q, hq, e⟩
def rmA (A : AS) (q : Nat) : AS := (anq A - 1, fun i w => if i < q then aqd A i w else aqd A (i + 1) w, anv A, asd A, aln A, 0, asv A, amk A)
theorem s_remove {I : ZI} {A : AS} {hc : Nat} {Hh : Nat → AS} {tc : Nat} {bf : Nat → Nat} {x : Int32} (h : CI I A hc Hh tc bf) : ZP yX9_remove cX9_remove 2 (some FieldType.int) 6 [.ref 0, .int x] Sg I (fun r J => (∀ a, 259 ≤ a → J a = I a) ∧ ((¬ isQ A x ∧ r = some (.int (-1001)) ∧ CI J A hc Hh tc bf) ∨ (isQ A x ∧ ans A ≠ 0 ∧ r = some (.int (-1002)) ∧ CI J A hc Hh tc bf) ∨ (∃ q, q < anq A ∧ x = nI q ∧ ans A = 0 ∧ r = some (.int (nI (anq A - 1))) ∧ CI J (rmA A q) (phc hc) (pHh hc Hh A) tc bf))) := by
  have h0 := at_tv
  have hn1 := at_now.1
  have hs0 := at_sheets.1
  have hq0 := at_q.1
  have hns := h.2.1.2.2.2.2.1
  have hn := h.2.1.1.1
  have hcnt : I 7 5 = nI (ans A) := h.1.2.2.2.2.1
  have hq1 : I 2 1 = nI (anq A) := h.1.1.1
  refine ZSp.of (own := RX9) (L := [.ref 0, .int x]) mX9_remove rfl (List.all_eq_true.mp rfl) (Nat.le_of_ble_eq_true rfl) rfl (fun X hE hN => ?_)
  refine z_aload_n dX9_remove_0 rfl ?_
  refine z_getR fRX9_10 dX9_remove_1 (by first | assumption | rfl) (by rfl) ?_
  refine z_getR fRX9_76 dX9_remove_4 (by first | assumption | rfl) (by rfl) ?_
  refine z_iload_n dX9_remove_7 rfl ?_
  refine z_cV1s mX5_has gRX9_88 dX9_remove_8 (s_has at_q) (by decide) (by first | assumption | rfl) (by rfl) (Nat.le_of_ble_eq_true rfl) (Nat.le_refl _) (Nat.le_refl _) ?_
  rw [hq1]
  rcases z_dom x (anq A) (by omega) with ⟨q, hq, rfl, hx⟩ | ⟨hx, hxq⟩
  · rw [if_neg hx]
    refine z_if_ne (tgt := 18) dX9_remove_11 (by decide) (fun _ => ?_) (fun hb => absurd hb (by decide))
    refine z_aload_n dX9_remove_18 rfl ?_
    refine z_getR fRX9_10 dX9_remove_19 (by first | assumption | rfl) (by rfl) ?_
    refine z_getR fRX9_66 dX9_remove_22 (by first | assumption | rfl) (by rfl) ?_
    refine z_getI fRX9_70 dX9_remove_25 (by first | assumption | rfl) (by rfl) ?_
    by_cases hz : ans A = 0
    · refine z_if_le (tgt := 35) dX9_remove_28 (by decide) (fun _ => ?_) (fun hb => absurd (by rw [hcnt, hz]; decide) hb)
      refine z_aload_n dX9_remove_35 rfl ?_
      refine z_cV0p mX9_beginChange gRX9_81 dX9_remove_36 (s_beginChange h) (by decide) (by first | assumption | rfl) (by rfl) (Nat.le_of_ble_eq_true rfl) (Nat.le_refl _) (Nat.le_refl _) (fun r J hq => ?_)
      obtain ⟨rfl, b1, b2⟩ := hq
      have b2' := b2
      have hb1 := b1
      have hc1 : J 2 1 = nI (anq A - 1 + 1) := by rw [Nat.sub_add_cancel (by omega)]; exact b2.1.1.1
      refine z_aload_n dX9_remove_39 rfl ?_
      refine z_getR fRX9_10 dX9_remove_40 (by first | assumption | rfl) (by rfl) ?_
      refine z_getR fRX9_76 dX9_remove_43 (by first | assumption | rfl) (by rfl) ?_
      refine z_iload_n dX9_remove_46 rfl ?_
      refine z_cV1p mX5_delete gRX9_92 dX9_remove_47 (s_qDelete at_q hc1 (by omega) rfl (show q ≤ anq A - 1 by omega)) (by decide) (by first | assumption | rfl) (by rfl) (Nat.le_of_ble_eq_true rfl) (Nat.le_refl _) (Nat.le_refl _) (fun r J hq => ?_)
      obtain ⟨rfl, c1, c2, c3, c4⟩ := hq
      rename_i K
      have hk : ∀ a, a ≠ 2 → a ≠ 4 → J a = K a := fun a q1 q2 => c1 a q1 q2
      refine z_aload_n dX9_remove_50 rfl ?_
      refine z_getR fRX9_10 dX9_remove_51 (by first | assumption | rfl) (by rfl) ?_
      refine z_getR fRX9_76 dX9_remove_54 (by first | assumption | rfl) (by rfl) ?_
      refine z_getI fRX9_80 dX9_remove_57 (by first | assumption | rfl) (by rfl) ?_
      have e1 : J 2 1 = nI (anq A - 1) := by rw [c2, upd_at]
      rw [e1]
      refine z_iret hE dX9_remove_60 ⟨rfl, fun a ha => by rw [hk _ (by omega) (by omega), hb1 a (by omega)], Or.inr (Or.inr ⟨q, hq, rfl, hz, rfl, z_toCI b2' ?_ ?_ (fun a ha => hk a (by omega) (by omega))⟩)⟩
      · obtain ⟨s1, s2, s3, s4, s5, s6⟩ := b2'.1
        refine z_sc0 rfl ⟨e1, fun i hi k hk5 => ?_⟩ (by rw [hk _ (by decide) (by decide)]; exact s2) (fun v hv => by rw [hk _ (by decide) (by decide)]; exact s3 v hv) (by rw [hk _ (by decide) (by decide)]; exact s4) (by rw [hk _ (by decide) (by decide), ← nI_0, ← hz]; exact s5)
        have hi2 : i < anq A - 1 := hi
        show _ = nI (if i < q then aqd A i k else aqd A (i + 1) k)
        by_cases e : i < q
        · rw [if_pos e, c3 _ (by omega)]
          exact s1.2 i (by omega) k hk5
        · rw [if_neg e, c4 _ (by omega) (by omega), show 5 * i + k + 5 = 5 * (i + 1) + k by omega]
          exact s1.2 (i + 1) (by omega) k hk5
      · obtain ⟨v1, v2, v3, v4, v5, v6⟩ := h.2.1
        refine z_av0 rfl ⟨show anq A - 1 ≤ 20 by omega, fun i hi => ?_⟩ v2 v3 v4
        have hi2 : i < anq A - 1 := hi
        show 1 ≤ aqd (rmA A q) i 0 ∧ aqd (rmA A q) i 0 ≤ 9 ∧ 2 ≤ aqd (rmA A q) i 4 ∧ aqd (rmA A q) i 4 ≤ 5 ∧ aqd (rmA A q) i 1 < aqd (rmA A q) i 4 ∧ aqd (rmA A q) i 2 < 2 ^ aqd (rmA A q) i 4 ∧ aqd (rmA A q) i 3 ≤ 5
        by_cases e : i < q
        · have r : ∀ w, aqd (rmA A q) i w = aqd A i w := fun w => if_pos e
          rw [r 0, r 1, r 2, r 3, r 4]
          exact v1.2 i (by omega)
        · have r : ∀ w, aqd (rmA A q) i w = aqd A (i + 1) w := fun w => if_neg e
          rw [r 0, r 1, r 2, r 3, r 4]
          exact v1.2 (i + 1) (by omega)
    · refine z_if_le (tgt := 35) dX9_remove_28 (by decide) (fun hb => absurd hb (by rw [hcnt]; exact nI_nle (by omega) (by omega))) (fun _ => ?_)
      refine z_sipush (v := -1002) dX9_remove_31 rfl ?_
      exact z_iret hE dX9_remove_34 ⟨rfl, fun _ _ => rfl, Or.inr (Or.inl ⟨⟨q, hq, rfl⟩, hz, rfl, h⟩)⟩
  · rw [if_pos hx]
    refine z_if_ne (tgt := 18) dX9_remove_11 (by decide) (fun hb => absurd (rfl) hb) (fun _ => ?_)
    refine z_sipush (v := -1001) dX9_remove_14 rfl ?_
    exact z_iret hE dX9_remove_17 ⟨rfl, fun _ _ => rfl, Or.inl ⟨hxq, rfl, h⟩⟩
def fgA (A : AS) : AS := (anq A, aqd A, anv A, asd A, aln A, 0, asv A, amk A)
theorem s_forget {I : ZI} {A : AS} {hc : Nat} {Hh : Nat → AS} {tc : Nat} {bf : Nat → Nat} (h : CI I A hc Hh tc bf) : ZP yX9_forget cX9_forget 2 (some FieldType.int) 5 [.ref 0] Sg I (fun r J => (∀ a, 259 ≤ a → J a = I a) ∧ r = some (.int (nI (ans A))) ∧ CI J (fgA A) (phc hc) (pHh hc Hh A) tc bf) := by
  have h0 := at_tv
  have hn1 := at_now.1
  have hs0 := at_sheets.1
  refine ZSp.of (own := RX9) (L := [.ref 0, zj]) mX9_forget rfl (List.all_eq_true.mp rfl) (Nat.le_of_ble_eq_true rfl) rfl (fun X hE hN => ?_)
  refine z_aload_n dX9_forget_0 rfl ?_
  refine z_getR fRX9_19 dX9_forget_1 (by first | assumption | rfl) (by rfl) ?_
  refine z_aload_n dX9_forget_4 rfl ?_
  refine z_getR fRX9_10 dX9_forget_5 (by first | assumption | rfl) (by rfl) ?_
  refine z_cV1p mX0_keep gRX9_191 dX9_forget_8 (s_keep h.1 h.2.1 h.2.2.1) (by decide) (by first | assumption | rfl) (by rfl) (Nat.le_of_ble_eq_true rfl) (Nat.le_refl _) (Nat.le_refl _) (fun r J hq => ?_)
  obtain ⟨rfl, b1, b2⟩ := hq
  have hcnt : J 7 5 = nI (ans A) := by rw [b1 7 (by decide)]; exact h.1.2.2.2.2.1
  refine z_aload_n dX9_forget_11 rfl ?_
  refine z_getR fRX9_10 dX9_forget_12 (by first | assumption | rfl) (by rfl) ?_
  refine z_getR fRX9_66 dX9_forget_15 (by first | assumption | rfl) (by rfl) ?_
  refine z_getI fRX9_70 dX9_forget_18 (by first | assumption | rfl) (by rfl) ?_
  refine z_ist1 dX9_forget_21 (by decide) rfl ?_
  refine z_aload_n dX9_forget_22 rfl ?_
  refine z_getR fRX9_10 dX9_forget_23 (by first | assumption | rfl) (by rfl) ?_
  refine z_getR fRX9_66 dX9_forget_26 (by first | assumption | rfl) (by rfl) ?_
  refine z_iconst (v := 0) dX9_forget_29 rfl ?_
  refine z_putI fRX9_70 dX9_forget_30 (by first | assumption | rfl) (by rfl) ?_
  refine z_iload_n dX9_forget_33 rfl ?_
  rw [hcnt]
  have hk : ∀ a, a ≠ 7 → zup J 7 5 0 a = J a := fun a q => zup_ne _ _ _ q
  have hl : ∀ a, a ≠ 7 → (a < 18 ∨ 105 ≤ a) → zup J 7 5 0 a = I a := fun a q1 q2 => by rw [hk a q1, b1 a q2]
  refine z_iret hE dX9_forget_34 ⟨rfl, fun a ha => hl a (by omega) (by omega), rfl, ?_, ?_, b2.keep (fun a q1 q2 => hk a (by omega)), ?_, h.2.2.2.2.keep (hl 0 (by decide) (by decide)) (hl 138 (by decide) (by decide))⟩
  · obtain ⟨s1, s2, s3, s4, s5, s6⟩ := h.1
    exact z_sc0 rfl (s1.keep (hl _ (by decide) (by decide)) (hl _ (by decide) (by decide))) (by rw [hl _ (by decide) (by decide)]; exact s2) (fun v hv => by rw [hl _ (by decide) (by decide)]; exact s3 v hv) (by rw [hl _ (by decide) (by decide)]; exact s4) (by rw [zup_at, upd_at])
  · obtain ⟨v1, v2, v3, v4, v5, v6⟩ := h.2.1
    exact z_av0 rfl v1 v2 v3 v4
  · intro w hw
    rcases h.2.2.2.1 w hw with g | ⟨g1, g2, g3, g4⟩
    · exact Or.inl (by rw [hl _ (by omega) (by omega)]; exact g)
    · exact Or.inr ⟨by rw [hl _ (by omega) (by omega)]; exact g1, g2, g3.keep (fun a q1 q2 => hl a (by omega) (by omega)), g4.keep (fun a q1 q2 => hl a (by omega) (by omega))⟩
theorem s_undo {I : ZI} {A : AS} {hc : Nat} {Hh : Nat → AS} {tc : Nat} {bf : Nat → Nat} (h : CI I A hc Hh tc bf) : ZP yX9_undo cX9_undo 1 (some FieldType.int) 5 [.ref 0] Sg I (fun r J => (∀ a, 259 ≤ a → J a = I a) ∧ ((hc = 0 ∧ r = some (.int (-1009)) ∧ CI J A hc Hh tc bf) ∨ (∃ c, hc = c + 1 ∧ r = some (.int (nI c)) ∧ CI J (Hh c) c Hh tc bf))) := by
  have h0 := at_tv
  have hn1 := at_now.1
  have h18 : Sg[18]? = some (0, 0, [21, 0, 0]) := rfl
  obtain ⟨old, o1, o2, o3, o4, o5⟩ := h.2.2.1
  refine ZSp.of (own := RX9) (L := [.ref 0]) mX9_undo rfl (List.all_eq_true.mp rfl) (Nat.le_of_ble_eq_true rfl) rfl (fun X hE hN => ?_)
  refine z_aload_n dX9_undo_0 rfl ?_
  refine z_getR fRX9_19 dX9_undo_1 (by first | assumption | rfl) (by rfl) ?_
  refine z_getI fRX9_219 dX9_undo_4 (by first | assumption | rfl) (by rfl) ?_
  rw [o3]
  by_cases hz : hc = 0
  · refine z_if_gt (tgt := 14) dX9_undo_7 (by decide) (fun hb => absurd hb (by rw [hz]; decide)) (fun _ => ?_)
    refine z_sipush (v := -1009) dX9_undo_10 rfl ?_
    exact z_iret hE dX9_undo_13 ⟨rfl, fun _ _ => rfl, Or.inl ⟨hz, rfl, h⟩⟩
  · obtain ⟨c, rfl⟩ : ∃ c, hc = c + 1 := ⟨hc - 1, by omega⟩
    have hAV : AV (Hh c) := (o5 c (Nat.lt_succ_self c)).2
    refine z_if_gt (tgt := 14) dX9_undo_7 (by decide) (fun _ => ?_) (fun hb => absurd (by rw [← nI_0]; exact nI_lt (by omega) (by omega)) hb)
    refine z_aload_n dX9_undo_14 rfl ?_
    refine z_getR fRX9_19 dX9_undo_15 (by first | assumption | rfl) (by rfl) ?_
    refine z_aload_n dX9_undo_18 rfl ?_
    refine z_getR fRX9_10 dX9_undo_19 (by first | assumption | rfl) (by rfl) ?_
    refine z_cV1p mX0_restore gRX9_220 dX9_undo_22 (s_restore h.2.2.1) (by decide) (by first | assumption | rfl) (by rfl) (Nat.le_of_ble_eq_true rfl) (Nat.le_refl _) (Nat.le_refl _) (fun r J hq => ?_)
    obtain ⟨rfl, b1, b2, b3⟩ := hq
    have b1' := b1
    refine z_aload_n dX9_undo_25 rfl ?_
    refine z_cV0p mX9_outdatePapers gRX9_223 dX9_undo_26 (s_outdate) (by decide) (by first | assumption | rfl) (by rfl) (Nat.le_of_ble_eq_true rfl) (Nat.le_refl _) (Nat.le_refl _) (fun r J hq => ?_)
    obtain ⟨rfl, c1, c2, c3⟩ := hq
    have hH := b3.keep (fun a q1 q2 => c1 a (fun v hv => by omega))
    have hH' := hH
    obtain ⟨old2, p1, p2, p3, p4, p5⟩ := hH'
    refine z_aload_n dX9_undo_29 rfl ?_
    refine z_getR fRX9_19 dX9_undo_30 (by first | assumption | rfl) (by rfl) ?_
    refine z_getI fRX9_219 dX9_undo_33 (by first | assumption | rfl) (by rfl) ?_
    rw [p3]
    have fr : ∀ a, (a = 0 ∨ (105 ≤ a ∧ a < 139) ∨ 259 ≤ a) → J a = I a := fun a ha => by rw [c1 a (fun v hv => by omega), b1' a (by omega)]
    refine z_iret hE dX9_undo_36 ⟨rfl, fun a ha => fr a (by omega), Or.inr ⟨c, rfl, rfl, b2.keep (fun a q1 q2 => c1 a (fun v hv => by omega)), hAV, hH, fun v hv => Or.inl (c2 v hv), h.2.2.2.2.keep (fr 0 (by decide)) (fr 138 (by decide))⟩⟩

