/-! ===== the acts that change the questions, the versions, the lines ===== -/
theorem z_toCI {J K : ZI} {A A' : AS} {hc : Nat} {Hh : Nat → AS} {tc : Nat} {bf : Nat → Nat} (hB : CB J A hc Hh tc bf) (hS : Sc K 1 A') (hV : AV A') (hk : ∀ a, a = 0 ∨ 18 ≤ a → K a = J a) : CI K A' hc Hh tc bf :=
  ⟨hS, hV, hB.2.2.1.keep (fun a q1 q2 => hk a (Or.inr q1)), fun v hv => Or.inl (by rw [hk _ (Or.inr (by omega))]; exact hB.2.2.2.1 v hv), hB.2.2.2.2.keep (hk 0 (Or.inl rfl)) (hk 138 (Or.inr (by decide)))⟩
theorem z_sc0 {K : ZI} {A' : AS} (h0 : ans A' = 0) (hq : Qs K 2 (anq A') (aqd A')) (h1 : K 1 3 = nI (anv A')) (h2 : ∀ v, v < anv A' → K 6 v = asd A' v) (h3 : K 1 4 = nI (aln A')) (h4 : K 7 5 = 0) : Sc K 1 A' :=
  ⟨hq, h1, h2, h3, by rw [h0]; exact h4, fun t ht => absurd ht (by rw [h0]; exact Nat.not_lt_zero t)⟩
theorem z_av0 {A' : AS} (h0 : ans A' = 0) (hq : QV (anq A') (aqd A')) (h1 : anv A' ≤ 6) (h2 : 9 ≤ aln A') (h3 : aln A' ≤ 60) : AV A' :=
  ⟨hq, h1, h2, h3, by omega, fun t ht => absurd ht (by rw [h0]; exact Nat.not_lt_zero t)⟩
def isL (x : Int32) : Prop := ∃ n, 9 ≤ n ∧ n ≤ 60 ∧ x = nI n
def lnA (A : AS) (n : Nat) : AS := (anq A, aqd A, anv A, asd A, n, ans A, asv A, amk A)
theorem s_setLines {I : ZI} {A : AS} {hc : Nat} {Hh : Nat → AS} {tc : Nat} {bf : Nat → Nat} {x : Int32} (h : CI I A hc Hh tc bf) : ZP yX9_setLines cX9_setLines 3 (some FieldType.int) 6 [.ref 0, .int x] Sg I (fun r J => (∀ a, 259 ≤ a → J a = I a) ∧ ((¬ isL x ∧ r = some (.int (-1001)) ∧ CI J A hc Hh tc bf) ∨ (∃ n, 9 ≤ n ∧ n ≤ 60 ∧ x = nI n ∧ r = some (.int (nI (aln A))) ∧ CI J (lnA A n) (phc hc) (pHh hc Hh A) tc bf))) := by
  have h0 := at_tv
  have hn1 := at_now.1
  refine ZSp.of (own := RX9) (L := [.ref 0, .int x, zj]) mX9_setLines rfl (List.all_eq_true.mp rfl) (Nat.le_of_ble_eq_true rfl) rfl (fun X hE hN => ?_)
  have bad : ¬ isL x → (ZG X RX9 cX9_setLines 3 6 0 0 0 0 12 [.ref 0, .int x, zj] [] Sg I) := by
    intro hw
    refine z_sipush (v := -1001) dX9_setLines_12 rfl ?_
    exact z_iret hE dX9_setLines_15 ⟨rfl, fun _ _ => rfl, Or.inl ⟨hw, rfl, h⟩⟩
  refine z_iload_n dX9_setLines_0 rfl ?_
  refine z_bipush (v := 9) dX9_setLines_1 rfl ?_
  refine z_icmp_lt (tgt := 12) dX9_setLines_3 (by decide) (fun ha => ?_) (fun ha => ?_)
  · refine bad ?_
    rintro ⟨n, n1, n2, rfl⟩
    exact absurd ha (nI_nlt (b := 9) n1 (by omega))
  · refine z_iload_n dX9_setLines_6 rfl ?_
    refine z_bipush (v := 60) dX9_setLines_7 rfl ?_
    refine z_icmp_le (tgt := 16) dX9_setLines_9 (by decide) (fun hd => ?_) (fun hd => ?_)
    · refine z_aload_n dX9_setLines_16 rfl ?_
      have hl : isL x := by
        obtain ⟨n, hn, rfl⟩ := nI_of2 (M := 60) (n := 60) rfl (fun z => ha (Int32.lt_trans z (by decide))) hd
        refine ⟨n, ?_, hn, rfl⟩
        rcases Nat.lt_or_ge n 9 with z | z
        · exact absurd (nI_lt (b := 9) z (by decide)) ha
        · exact z
      obtain ⟨n, n1, n2, rfl⟩ := hl
      refine z_cV0p mX9_beginChange gRX9_81 dX9_setLines_17 (s_beginChange h) (by decide) (by first | assumption | rfl) (by rfl) (Nat.le_of_ble_eq_true rfl) (Nat.le_refl _) (Nat.le_refl _) (fun r J hq => ?_)
      obtain ⟨rfl, b1, b2⟩ := hq
      refine z_aload_n dX9_setLines_20 rfl ?_
      refine z_getR fRX9_10 dX9_setLines_21 (by first | assumption | rfl) (by rfl) ?_
      refine z_getI fRX9_157 dX9_setLines_24 (by first | assumption | rfl) (by rfl) ?_
      refine z_ist2 dX9_setLines_27 (by decide) rfl ?_
      refine z_aload_n dX9_setLines_28 rfl ?_
      refine z_getR fRX9_10 dX9_setLines_29 (by first | assumption | rfl) (by rfl) ?_
      refine z_iload_n dX9_setLines_32 rfl ?_
      refine z_putI fRX9_157 dX9_setLines_33 (by first | assumption | rfl) (by rfl) ?_
      refine z_iload_n dX9_setLines_36 rfl ?_
      have hk : ∀ a, a ≠ 1 → zup J 1 4 (nI n) a = J a := fun a q => zup_ne _ _ _ q
      rw [b2.1.2.2.2.1]
      refine z_iret hE dX9_setLines_37 ⟨rfl, fun a ha => by rw [hk _ (by omega), b1 a (by omega)], Or.inr ⟨n, n1, n2, rfl, rfl, z_toCI b2 ?_ ?_ (fun a ha => hk a (by omega))⟩⟩
      · obtain ⟨s1, s2, s3, s4, s5, s6⟩ := b2.1
        refine ⟨s1.keep (hk _ (by decide)) (hk _ (by decide)), by rw [zup_at, upd_ne _ _ (by decide)]; exact s2, fun v hv => by rw [hk _ (by decide)]; exact s3 v hv, by rw [zup_at, upd_at]; rfl, by rw [hk _ (by decide)]; exact s5, fun t ht => ?_⟩
        obtain ⟨r1, r2, r3, r4⟩ := s6 t ht
        exact ⟨by rw [hk _ (by decide)]; exact r1, by rw [hk _ (by decide)]; exact r2, by rw [hk _ (by decide)]; exact r3, fun p hp => ⟨by rw [hk _ (by decide)]; exact (r4 p hp).1, by rw [hk _ (by decide)]; exact (r4 p hp).2⟩⟩
      · obtain ⟨v1, v2, v3, v4, v5, v6⟩ := h.2.1
        exact ⟨v1, v2, n1, n2, v5, v6⟩
    · refine bad ?_
      rintro ⟨n, n1, n2, rfl⟩
      exact absurd (nI_le (b := 60) n2 (by decide)) hd
def vrA (A : AS) (x : Int32) : AS := (anq A, aqd A, anv A + 1, fun v => if v = anv A then x else asd A v, aln A, 0, asv A, amk A)
def aVersion (A : AS) (r : Int32) : Prop := (ans A ≠ 0 ∧ r = -1002) ∨ (ans A = 0 ∧ anv A = 6 ∧ r = -1003)
theorem s_version {I : ZI} {A : AS} {hc : Nat} {Hh : Nat → AS} {tc : Nat} {bf : Nat → Nat} {x : Int32} (h : CI I A hc Hh tc bf) : ZP yX9_version cX9_version 3 (some FieldType.int) 6 [.ref 0, .int x] Sg I (fun r J => (∀ a, 259 ≤ a → J a = I a) ∧ ((∃ a, r = some (.int a) ∧ aVersion A a ∧ CI J A hc Hh tc bf) ∨ (ans A = 0 ∧ anv A < 6 ∧ r = some (.int (nI (anv A))) ∧ CI J (vrA A x) (phc hc) (pHh hc Hh A) tc bf))) := by
  have h0 := at_tv
  have hn1 := at_now.1
  have hs0 := at_sheets.1
  have hns := h.2.1.2.2.2.2.1
  have hnv := h.2.1.2.1
  have hcnt : I 7 5 = nI (ans A) := h.1.2.2.2.2.1
  have hsr := at_seeds.1
  refine ZSp.of (own := RX9) (L := [.ref 0, .int x, zj]) mX9_version rfl (List.all_eq_true.mp rfl) (Nat.le_of_ble_eq_true rfl) rfl (fun X hE hN => ?_)
  refine z_aload_n dX9_version_0 rfl ?_
  refine z_getR fRX9_10 dX9_version_1 (by first | assumption | rfl) (by rfl) ?_
  refine z_getR fRX9_66 dX9_version_4 (by first | assumption | rfl) (by rfl) ?_
  refine z_getI fRX9_70 dX9_version_7 (by first | assumption | rfl) (by rfl) ?_
  by_cases hz : ans A = 0
  · refine z_if_le (tgt := 17) dX9_version_10 (by decide) (fun _ => ?_) (fun hb => absurd (by rw [hcnt, hz]; decide) hb)
    refine z_aload_n dX9_version_17 rfl ?_
    refine z_getR fRX9_10 dX9_version_18 (by first | assumption | rfl) (by rfl) ?_
    refine z_getI fRX9_103 dX9_version_21 (by first | assumption | rfl) (by rfl) ?_
    refine z_bipush (v := 6) dX9_version_24 rfl ?_
    rw [h.1.2.1]
    by_cases hv : anv A = 6
    · refine z_icmp_lt (tgt := 33) dX9_version_26 (by decide) (fun hb => absurd hb (by rw [hv]; decide)) (fun _ => ?_)
      refine z_sipush (v := -1003) dX9_version_29 rfl ?_
      exact z_iret hE dX9_version_32 ⟨rfl, fun _ _ => rfl, Or.inl ⟨_, rfl, Or.inr ⟨hz, hv, rfl⟩, h⟩⟩
    · have hv6 : anv A < 6 := by omega
      refine z_icmp_lt (tgt := 33) dX9_version_26 (by decide) (fun _ => ?_) (fun hb => absurd (nI_lt (b := 6) hv6 (by decide)) hb)
      refine z_aload_n dX9_version_33 rfl ?_
      refine z_cV0p mX9_beginChange gRX9_81 dX9_version_34 (s_beginChange h) (by decide) (by first | assumption | rfl) (by rfl) (Nat.le_of_ble_eq_true rfl) (Nat.le_refl _) (Nat.le_refl _) (fun r J hq => ?_)
      obtain ⟨rfl, b1, b2⟩ := hq
      refine z_aload_n dX9_version_37 rfl ?_
      refine z_getR fRX9_10 dX9_version_38 (by first | assumption | rfl) (by rfl) ?_
      refine z_getI fRX9_103 dX9_version_41 (by first | assumption | rfl) (by rfl) ?_
      refine z_ist2 dX9_version_44 (by decide) rfl ?_
      refine z_aload_n dX9_version_45 rfl ?_
      refine z_getR fRX9_10 dX9_version_46 (by first | assumption | rfl) (by rfl) ?_
      refine z_getR fRX9_106 dX9_version_49 (by first | assumption | rfl) (by rfl) ?_
      refine z_iload_n dX9_version_52 rfl ?_
      refine z_iload_n dX9_version_53 rfl ?_
      rw [b2.1.2.1]
      refine z_cV2n mX6_set gRX9_109 dX9_version_54 (s_setN at_seeds rfl hv6) (by decide) (by first | assumption | rfl) (by rfl) (Nat.le_of_ble_eq_true rfl) (Nat.le_refl _) (Nat.le_refl _) ?_
      refine z_aload_n dX9_version_57 rfl ?_
      refine z_getR fRX9_10 dX9_version_58 (by first | assumption | rfl) (by rfl) ?_
      refine z_dup dX9_version_61 rfl ?_
      refine z_getI fRX9_103 dX9_version_62 (by first | assumption | rfl) (by rfl) ?_
      refine z_iconst (v := 1) dX9_version_65 rfl ?_
      refine z_iadd dX9_version_66 ?_
      refine z_putI fRX9_103 dX9_version_67 (by first | assumption | rfl) (by rfl) ?_
      refine z_iload_n dX9_version_70 rfl ?_
      have e0 : zup J (1 + 4 + 1) (anv A) x 1 = J 1 := zup_ne _ _ _ (by decide)
      have e1 : J 1 3 = nI (anv A) := b2.1.2.1
      have hk : ∀ a, a ≠ 1 → a ≠ 6 → zup (zup J (1 + 4 + 1) (anv A) x) 1 3 (nI (anv A + 1)) a = J a := fun a q1 q2 => by rw [zup_ne _ _ _ q1, zup_ne _ _ _ q2]
      rw [e0, e1, nI_1]
      refine z_iret hE dX9_version_71 ⟨rfl, fun a ha => by rw [hk _ (by omega) (by omega), b1 a (by omega)], Or.inr ⟨hz, hv6, rfl, z_toCI b2 ?_ ?_ (fun a ha => hk a (by omega) (by omega))⟩⟩
      · obtain ⟨s1, s2, s3, s4, s5, s6⟩ := b2.1
        refine z_sc0 rfl (s1.keep (hk _ (by decide) (by decide)) (hk _ (by decide) (by decide))) (by rw [zup_at, upd_at]; rfl) (fun v hv => ?_) (by rw [zup_at, upd_ne _ _ (by decide), e0]; exact s4) (by rw [hk _ (by decide) (by decide), ← nI_0, ← hz]; exact s5)
        rw [zup_ne _ _ _ (by decide), zup_at]
        show _ = (if v = anv A then x else asd A v)
        by_cases e : v = anv A
        · subst e
          rw [upd_at, if_pos rfl]
        · rw [upd_ne _ _ e, if_neg e]
          exact s3 v (by have : v < anv A + 1 := hv; omega)
      · obtain ⟨v1, v2, v3, v4, v5, v6⟩ := h.2.1
        exact z_av0 rfl v1 hv6 v3 v4
  · refine z_if_le (tgt := 17) dX9_version_10 (by decide) (fun hb => absurd hb (by rw [hcnt]; exact nI_nle (by omega) (by omega))) (fun _ => ?_)
    refine z_sipush (v := -1002) dX9_version_13 rfl ?_
    exact z_iret hE dX9_version_16 ⟨rfl, fun _ _ => rfl, Or.inl ⟨_, rfl, Or.inl ⟨hz, rfl⟩, h⟩⟩
def drA (A : AS) : AS := (anq A, aqd A, anv A - 1, asd A, aln A, 0, asv A, amk A)
theorem s_drop {I : ZI} {A : AS} {hc : Nat} {Hh : Nat → AS} {tc : Nat} {bf : Nat → Nat} (h : CI I A hc Hh tc bf) : ZP yX9_drop cX9_drop 1 (some FieldType.long) 6 [.ref 0] Sg I (fun r J => (∀ a, 259 ≤ a → J a = I a) ∧ (((ans A ≠ 0 ∨ anv A = 0) ∧ r = some (.long (-1002)) ∧ CI J A hc Hh tc bf) ∨ (ans A = 0 ∧ 0 < anv A ∧ r = some (.long (asd A (anv A - 1)).toInt64) ∧ CI J (drA A) (phc hc) (pHh hc Hh A) tc bf))) := by
  have h0 := at_tv
  have hn1 := at_now.1
  have hs0 := at_sheets.1
  have hns := h.2.1.2.2.2.2.1
  have hnv := h.2.1.2.1
  have hcnt : I 7 5 = nI (ans A) := h.1.2.2.2.2.1
  have hsr := at_seeds.1
  refine ZSp.of (own := RX9) (L := [.ref 0]) mX9_drop rfl (List.all_eq_true.mp rfl) (Nat.le_of_ble_eq_true rfl) rfl (fun X hE hN => ?_)
  have bad : (ans A ≠ 0 ∨ anv A = 0) → (ZG X RX9 cX9_drop 1 6 0 0 0 0 23 [.ref 0] [] Sg I) := by
    intro hw
    refine z_ldc2 kRX9_113 dX9_drop_23 ?_
    exact z_lret hE dX9_drop_26 ⟨rfl, fun _ _ => rfl, Or.inl ⟨hw, rfl, h⟩⟩
  refine z_aload_n dX9_drop_0 rfl ?_
  refine z_getR fRX9_10 dX9_drop_1 (by first | assumption | rfl) (by rfl) ?_
  refine z_getR fRX9_66 dX9_drop_4 (by first | assumption | rfl) (by rfl) ?_
  refine z_getI fRX9_70 dX9_drop_7 (by first | assumption | rfl) (by rfl) ?_
  by_cases hz : ans A = 0
  · refine z_if_gt (tgt := 23) dX9_drop_10 (by decide) (fun hb => absurd hb (by rw [hcnt, hz]; decide)) (fun _ => ?_)
    refine z_aload_n dX9_drop_13 rfl ?_
    refine z_getR fRX9_10 dX9_drop_14 (by first | assumption | rfl) (by rfl) ?_
    refine z_getI fRX9_103 dX9_drop_17 (by first | assumption | rfl) (by rfl) ?_
    rw [h.1.2.1]
    by_cases hv : anv A = 0
    · refine z_if_ne (tgt := 27) dX9_drop_20 (by decide) (fun hb => absurd (by rw [hv]; rfl) hb) (fun _ => ?_)
      exact bad (Or.inr hv)
    · refine z_if_ne (tgt := 27) dX9_drop_20 (by decide) (fun _ => ?_) (fun hb => absurd hb (nI_ne0 (by omega) (by omega)))
      refine z_aload_n dX9_drop_27 rfl ?_
      refine z_cV0p mX9_beginChange gRX9_81 dX9_drop_28 (s_beginChange h) (by decide) (by first | assumption | rfl) (by rfl) (Nat.le_of_ble_eq_true rfl) (Nat.le_refl _) (Nat.le_refl _) (fun r J hq => ?_)
      obtain ⟨rfl, b1, b2⟩ := hq
      refine z_aload_n dX9_drop_31 rfl ?_
      refine z_getR fRX9_10 dX9_drop_32 (by first | assumption | rfl) (by rfl) ?_
      refine z_dup dX9_drop_35 rfl ?_
      refine z_getI fRX9_103 dX9_drop_36 (by first | assumption | rfl) (by rfl) ?_
      refine z_iconst (v := 1) dX9_drop_39 rfl ?_
      refine z_isub dX9_drop_40 ?_
      refine z_putI fRX9_103 dX9_drop_41 (by first | assumption | rfl) (by rfl) ?_
      refine z_aload_n dX9_drop_44 rfl ?_
      refine z_getR fRX9_10 dX9_drop_45 (by first | assumption | rfl) (by rfl) ?_
      refine z_getR fRX9_106 dX9_drop_48 (by first | assumption | rfl) (by rfl) ?_
      refine z_aload_n dX9_drop_51 rfl ?_
      refine z_getR fRX9_10 dX9_drop_52 (by first | assumption | rfl) (by rfl) ?_
      refine z_getI fRX9_103 dX9_drop_55 (by first | assumption | rfl) (by rfl) ?_
      have e1 : J 1 3 = nI (anv A) := b2.1.2.1
      have e2 : nI (anv A) - 1 = nI (anv A - 1) := xI_sub (b := 1) (by omega)
      rw [e1, e2, zup_at, upd_at]
      refine z_cV1s mX6_get gRX9_115 dX9_drop_58 (s_getN at_seeds rfl (show anv A - 1 < 6 by omega)) (by decide) (by first | assumption | rfl) (by rfl) (Nat.le_of_ble_eq_true rfl) (Nat.le_refl _) (Nat.le_refl _) ?_
      have hk : ∀ a, a ≠ 1 → zup J 1 3 (nI (anv A - 1)) a = J a := fun a q1 => zup_ne _ _ _ q1
      rw [hk _ (by decide), b2.1.2.2.1 _ (show anv A - 1 < anv A by omega)]
      refine z_i2l dX9_drop_61 ?_
      refine z_lret hE dX9_drop_62 ⟨rfl, fun a ha => by rw [hk _ (by omega), b1 a (by omega)], Or.inr ⟨hz, by omega, rfl, z_toCI b2 ?_ ?_ (fun a ha => hk a (by omega))⟩⟩
      · obtain ⟨s1, s2, s3, s4, s5, s6⟩ := b2.1
        exact z_sc0 rfl (s1.keep (hk _ (by decide)) (hk _ (by decide))) (by rw [zup_at, upd_at]; rfl) (fun v hv => by rw [hk _ (by decide)]; exact s3 v (by have : v < anv A - 1 := hv; omega)) (by rw [zup_at, upd_ne _ _ (by decide)]; exact s4) (by rw [hk _ (by decide), ← nI_0, ← hz]; exact s5)
      · obtain ⟨v1, v2, v3, v4, v5, v6⟩ := h.2.1
        exact z_av0 rfl v1 (show anv A - 1 ≤ 6 by omega) v3 v4
  · refine z_if_gt (tgt := 23) dX9_drop_10 (by decide) (fun _ => ?_) (fun hb => absurd (by rw [hcnt, ← nI_0]; exact nI_lt (by omega) (by omega)) hb)
    exact bad (Or.inl hz)

