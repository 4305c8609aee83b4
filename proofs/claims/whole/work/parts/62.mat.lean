/-! ===== the model: at, pages, page ===== -/
theorem q_told {I : ZI} {p : Nat} {x w : Int32} (hx : x = nI p) (hp : p < 20) (hw : is03 w) : ZE yX10_told cX10_told 3 (some FieldType.int) 0 [.ref 259, .int x, .int w] Sg I (some (.int (if w = 0 then I 262 p else if w = 1 then I 263 p else if w = 2 then I 267 p else I 268 p))) I := by
  have g0 := m_obj
  subst hx
  refine ZSp.of (own := RX10) (L := [.ref 259, .int (nI p), .int w]) mX10_told rfl (List.all_eq_true.mp rfl) (Nat.le_of_ble_eq_true rfl) rfl (fun X hE hN => ?_)
  refine z_iload_n dX10_told_0 rfl ?_
  rcases hw with rfl | rfl | rfl | rfl
  · refine z_if_ne (tgt := 13) dX10_told_1 (by decide) (fun hb => absurd (rfl) hb) (fun _ => ?_)
    refine z_aload_n dX10_told_4 rfl ?_
    refine z_getR fRX10_16 dX10_told_5 (by first | assumption | rfl) (by rfl) ?_
    refine z_iload_n dX10_told_8 rfl ?_
    refine z_ialdN dX10_told_9 m_order (rfl) (hp) (by decide) ?_
    refine z_goto (tgt := 47) dX10_told_10 (by decide) ?_
    exact z_eireturn hE dX10_told_47 rfl rfl
  · refine z_if_ne (tgt := 13) dX10_told_1 (by decide) (fun _ => ?_) (fun hb => absurd hb (by decide))
    refine z_iload_n dX10_told_13 rfl ?_
    refine z_iconst (v := 1) dX10_told_14 rfl ?_
    refine z_icmp_ne (tgt := 27) dX10_told_15 (by decide) (fun hb => absurd (rfl) hb) (fun _ => ?_)
    refine z_aload_n dX10_told_18 rfl ?_
    refine z_getR fRX10_19 dX10_told_19 (by first | assumption | rfl) (by rfl) ?_
    refine z_iload_n dX10_told_22 rfl ?_
    refine z_ialdN dX10_told_23 m_key (rfl) (hp) (by decide) ?_
    refine z_goto (tgt := 47) dX10_told_24 (by decide) ?_
    exact z_eireturn hE dX10_told_47 rfl rfl
  · refine z_if_ne (tgt := 13) dX10_told_1 (by decide) (fun _ => ?_) (fun hb => absurd hb (by decide))
    refine z_iload_n dX10_told_13 rfl ?_
    refine z_iconst (v := 1) dX10_told_14 rfl ?_
    refine z_icmp_ne (tgt := 27) dX10_told_15 (by decide) (fun _ => ?_) (fun hb => absurd hb (by decide))
    refine z_iload_n dX10_told_27 rfl ?_
    refine z_iconst (v := 2) dX10_told_28 rfl ?_
    refine z_icmp_ne (tgt := 41) dX10_told_29 (by decide) (fun hb => absurd (rfl) hb) (fun _ => ?_)
    refine z_aload_n dX10_told_32 rfl ?_
    refine z_getR fRX10_31 dX10_told_33 (by first | assumption | rfl) (by rfl) ?_
    refine z_iload_n dX10_told_36 rfl ?_
    refine z_ialdN dX10_told_37 m_pageOf (rfl) (hp) (by decide) ?_
    refine z_goto (tgt := 47) dX10_told_38 (by decide) ?_
    exact z_eireturn hE dX10_told_47 rfl rfl
  · refine z_if_ne (tgt := 13) dX10_told_1 (by decide) (fun _ => ?_) (fun hb => absurd hb (by decide))
    refine z_iload_n dX10_told_13 rfl ?_
    refine z_iconst (v := 1) dX10_told_14 rfl ?_
    refine z_icmp_ne (tgt := 27) dX10_told_15 (by decide) (fun _ => ?_) (fun hb => absurd hb (by decide))
    refine z_iload_n dX10_told_27 rfl ?_
    refine z_iconst (v := 2) dX10_told_28 rfl ?_
    refine z_icmp_ne (tgt := 41) dX10_told_29 (by decide) (fun _ => ?_) (fun hb => absurd hb (by decide))
    refine z_aload_n dX10_told_41 rfl ?_
    refine z_getR fRX10_34 dX10_told_42 (by first | assumption | rfl) (by rfl) ?_
    refine z_iload_n dX10_told_45 rfl ?_
    refine z_ialdN dX10_told_46 m_lineOf (rfl) (hp) (by decide) ?_
    exact z_eireturn hE dX10_told_47 rfl rfl
theorem mp_told {J : ZI} {A : AS} {v p : Nat} {w : Int32} (hV : AV A) (b3 : MPf J A (asd A v)) (b4 : LPf J A (asd A v)) (hp : p < anq A) : (if w = 0 then J 262 p else if w = 1 then J 263 p else if w = 2 then J 267 p else J 268 p) = atF A v p w := by
  obtain ⟨i, k, hi, hk, hpk⟩ := Ps_page (seed := asd A v) hV.1 hV.2.2.1 hp
  have hpg : pgo (vP A v) p (vN A v) = i := by rw [hpk]; exact pgo_eq (fun j hj => ((Ps_spec hV.1 hV.2.2.1).1 j hj).1) hi hk
  obtain ⟨c4, c5⟩ := b4.2 i hi k hk
  rw [← hpk] at c4 c5
  rw [atF, hpg, b3.1 p hp, b3.2.1 p hp, c4, c5, show p - vP A v i = k from by rw [hpk]; exact Nat.add_sub_cancel_left _ _]
  rfl
theorem q_at {I : ZI} {A : AS} {hc : Nat} {Hh : Nat → AS} {tc : Nat} {bf : Nat → Nat} {x y w a : Int32} (h : RI I A hc Hh tc bf) (hD : aAt A x y w a) : ZP yX10_at cX10_at 4 (some FieldType.int) 5 [.ref 259, .int x, .int y, .int w] Sg I (fun r J => r = some (.int a) ∧ (∀ a, a < 259 → J a = I a) ∧ RI J A hc Hh tc bf) := by
  have g0 := m_obj
  have hn := h.2.1.1.1
  have hnv := h.2.1.2.1
  refine ZSp.of (own := RX10) (L := [.ref 259, .int x, .int y, .int w]) mX10_at rfl (List.all_eq_true.mp rfl) (Nat.le_of_ble_eq_true rfl) rfl (fun X hE hN => ?_)
  refine z_aload_n dX10_at_0 rfl ?_
  refine z_iload_n dX10_at_1 rfl ?_
  have bad : a = -1001 → (ZG X RX10 cX10_at 4 5 0 0 0 0 25 [.ref 259, .int x, .int y, .int w] [] Sg I) := by
    rintro rfl
    refine z_sipush (v := -1001) dX10_at_25 rfl ?_
    exact z_iret hE dX10_at_28 ⟨rfl, rfl, fun _ _ => rfl, h⟩
  rcases hD with ⟨v, p, hv, rfl, hp, rfl, hw, rfl⟩ | ⟨hb, he⟩
  · have hkk : ¬ (w < 0 ∨ 3 < w) := by
      rcases hw with rfl | rfl | rfl | rfl <;> decide
    refine z_cV1s mX10_isVersion gRX10_103 dX10_at_2 (q_isV (r := 1) h.1 hnv (fun _ => rfl) (fun z => absurd ⟨v, hv, rfl⟩ z)) (by decide) (by first | assumption | rfl) (by rfl) (Nat.le_of_ble_eq_true rfl) (Nat.le_refl _) (Nat.le_refl _) ?_
    refine z_if_eq (tgt := 25) dX10_at_5 (by decide) (fun hb => absurd hb (by decide)) (fun _ => ?_)
    refine z_aload_n dX10_at_8 rfl ?_
    refine z_iload_n dX10_at_9 rfl ?_
    refine z_cV1s mX10_isQuestion gRX10_57 dX10_at_10 (q_isQ (r := 1) h.1 hn (fun _ => rfl) (fun z => absurd ⟨p, hp, rfl⟩ z)) (by decide) (by first | assumption | rfl) (by rfl) (Nat.le_of_ble_eq_true rfl) (Nat.le_refl _) (Nat.le_refl _) ?_
    refine z_if_eq (tgt := 25) dX10_at_13 (by decide) (fun hb => absurd hb (by decide)) (fun _ => ?_)
    refine z_iload_n dX10_at_16 rfl ?_
    refine z_iconst (v := 0) dX10_at_17 rfl ?_
    refine z_iconst (v := 3) dX10_at_18 rfl ?_
    refine z_cS3s mX10_in gRX10_50 dX10_at_19 (q_in (r := 1) (fun _ _ => rfl) (fun z => absurd z hkk)) (by decide) (Nat.le_of_ble_eq_true rfl) (Nat.le_refl _) (Nat.le_refl _) ?_
    refine z_if_ne (tgt := 29) dX10_at_22 (by decide) (fun _ => ?_) (fun hb => absurd hb (by decide))
    refine z_aload_n dX10_at_29 rfl ?_
    refine z_iload_n dX10_at_30 rfl ?_
    refine z_cV1p mX10_opens gRX10_106 dX10_at_31 (q_opens h.1 h.2.1 rfl hv) (by decide) (by first | assumption | rfl) (by rfl) (Nat.le_of_ble_eq_true rfl) (Nat.le_refl _) (Nat.le_refl _) (fun r J hq => ?_)
    obtain ⟨rfl, b1, b2⟩ := hq
    have hR1 := b1.ri h
    refine z_aload_n dX10_at_34 rfl ?_
    refine z_cV0p mX10_lays gRX10_109 dX10_at_35 (q_lays hR1.1 h.2.1 b2) (by decide) (by first | assumption | rfl) (by rfl) (Nat.le_of_ble_eq_true rfl) (Nat.le_refl _) (Nat.le_refl _) (fun r J hq => ?_)
    obtain ⟨rfl, c1, c2⟩ := hq
    have hR2 := c1.ri hR1
    refine z_aload_n dX10_at_38 rfl ?_
    refine z_iload_n dX10_at_39 rfl ?_
    refine z_iload_n dX10_at_40 rfl ?_
    refine z_cV2s mX10_told gRX10_112 dX10_at_41 (q_told rfl (show p < 20 by omega) hw) (by decide) (by first | assumption | rfl) (by rfl) (Nat.le_of_ble_eq_true rfl) (Nat.le_refl _) (Nat.le_refl _) ?_
    rw [mp_told h.2.1 (c1.mp b2) c2 hp]
    exact z_iret hE dX10_at_44 ⟨rfl, rfl, fun a ha => by rw [c1.1 a (by omega) (by omega) (by omega), b1.1 a (Or.inl ha)], hR2⟩
  · have hkk : ¬ is03 w → (w < 0 ∨ 3 < w) := by
      intro hk
      by_cases q1 : w < 0
      · exact Or.inl q1
      · refine Or.inr (Int32.not_le.mp (fun q2 => hk ?_))
        obtain ⟨j, hj, rfl⟩ := nI_of2 (M := 3) (n := 3) rfl q1 q2
        match j, hj with
        | 0, _ => exact Or.inl rfl
        | 1, _ => exact Or.inr (Or.inl rfl)
        | 2, _ => exact Or.inr (Or.inr (Or.inl rfl))
        | 3, _ => exact Or.inr (Or.inr (Or.inr rfl))
    by_cases hx : isV A x
    · refine z_cV1s mX10_isVersion gRX10_103 dX10_at_2 (q_isV (r := 1) h.1 hnv (fun _ => rfl) (fun z => absurd hx z)) (by decide) (by first | assumption | rfl) (by rfl) (Nat.le_of_ble_eq_true rfl) (Nat.le_refl _) (Nat.le_refl _) ?_
      refine z_if_eq (tgt := 25) dX10_at_5 (by decide) (fun hb => absurd hb (by decide)) (fun _ => ?_)
      refine z_aload_n dX10_at_8 rfl ?_
      refine z_iload_n dX10_at_9 rfl ?_
      by_cases hy : isQ A y
      · have hk : ¬ is03 w := hb.elim (fun z => absurd hx z) (fun z => z.elim (fun z => absurd hy z) id)
        refine z_cV1s mX10_isQuestion gRX10_57 dX10_at_10 (q_isQ (r := 1) h.1 hn (fun _ => rfl) (fun z => absurd hy z)) (by decide) (by first | assumption | rfl) (by rfl) (Nat.le_of_ble_eq_true rfl) (Nat.le_refl _) (Nat.le_refl _) ?_
        refine z_if_eq (tgt := 25) dX10_at_13 (by decide) (fun hb => absurd hb (by decide)) (fun _ => ?_)
        refine z_iload_n dX10_at_16 rfl ?_
        refine z_iconst (v := 0) dX10_at_17 rfl ?_
        refine z_iconst (v := 3) dX10_at_18 rfl ?_
        refine z_cS3s mX10_in gRX10_50 dX10_at_19 (q_in (r := 0) (fun q1 q2 => absurd (hkk hk) (fun z => z.elim q1 (fun z => absurd q2 (Int32.not_le.mpr z)))) (fun _ => rfl)) (by decide) (Nat.le_of_ble_eq_true rfl) (Nat.le_refl _) (Nat.le_refl _) ?_
        refine z_if_ne (tgt := 29) dX10_at_22 (by decide) (fun hb => absurd (rfl) hb) (fun _ => ?_)
        exact bad he
      · refine z_cV1s mX10_isQuestion gRX10_57 dX10_at_10 (q_isQ (r := 0) h.1 hn (fun z => absurd z hy) (fun _ => rfl)) (by decide) (by first | assumption | rfl) (by rfl) (Nat.le_of_ble_eq_true rfl) (Nat.le_refl _) (Nat.le_refl _) ?_
        refine z_if_eq (tgt := 25) dX10_at_13 (by decide) (fun _ => ?_) (fun hb => absurd (rfl) hb)
        exact bad he
    · refine z_cV1s mX10_isVersion gRX10_103 dX10_at_2 (q_isV (r := 0) h.1 hnv (fun z => absurd z hx) (fun _ => rfl)) (by decide) (by first | assumption | rfl) (by rfl) (Nat.le_of_ble_eq_true rfl) (Nat.le_refl _) (Nat.le_refl _) ?_
      refine z_if_eq (tgt := 25) dX10_at_5 (by decide) (fun _ => ?_) (fun hb => absurd (rfl) hb)
      exact bad he
theorem q_pages {I : ZI} {A : AS} {hc : Nat} {Hh : Nat → AS} {tc : Nat} {bf : Nat → Nat} {x a : Int32} (h : RI I A hc Hh tc bf) (hD : aPages A x a) : ZP yX10_pages cX10_pages 2 (some FieldType.int) 5 [.ref 259, .int x] Sg I (fun r J => r = some (.int a) ∧ (∀ a, a < 259 → J a = I a) ∧ RI J A hc Hh tc bf) := by
  have g0 := m_obj
  have hnv := h.2.1.2.1
  refine ZSp.of (own := RX10) (L := [.ref 259, .int x]) mX10_pages rfl (List.all_eq_true.mp rfl) (Nat.le_of_ble_eq_true rfl) rfl (fun X hE hN => ?_)
  refine z_aload_n dX10_pages_0 rfl ?_
  refine z_iload_n dX10_pages_1 rfl ?_
  rcases hD with ⟨v, hv, rfl, rfl⟩ | ⟨hb, rfl⟩
  · refine z_cV1s mX10_isVersion gRX10_103 dX10_pages_2 (q_isV (r := 1) h.1 hnv (fun _ => rfl) (fun z => absurd ⟨v, hv, rfl⟩ z)) (by decide) (by first | assumption | rfl) (by rfl) (Nat.le_of_ble_eq_true rfl) (Nat.le_refl _) (Nat.le_refl _) ?_
    refine z_if_ne (tgt := 12) dX10_pages_5 (by decide) (fun _ => ?_) (fun hb => absurd hb (by decide))
    refine z_aload_n dX10_pages_12 rfl ?_
    refine z_iload_n dX10_pages_13 rfl ?_
    refine z_cV1p mX10_opens gRX10_106 dX10_pages_14 (q_opens h.1 h.2.1 rfl hv) (by decide) (by first | assumption | rfl) (by rfl) (Nat.le_of_ble_eq_true rfl) (Nat.le_refl _) (Nat.le_refl _) (fun r J hq => ?_)
    obtain ⟨rfl, b1, b2⟩ := hq
    have hR1 := b1.ri h
    refine z_aload_n dX10_pages_17 rfl ?_
    refine z_cV0p mX10_lays gRX10_109 dX10_pages_18 (q_lays hR1.1 h.2.1 b2) (by decide) (by first | assumption | rfl) (by rfl) (Nat.le_of_ble_eq_true rfl) (Nat.le_refl _) (Nat.le_refl _) (fun r J hq => ?_)
    obtain ⟨rfl, c1, c2⟩ := hq
    have hR2 := c1.ri hR1
    refine z_aload_n dX10_pages_21 rfl ?_
    refine z_getI fRX10_98 dX10_pages_22 (by first | assumption | rfl) (by rfl) ?_
    rw [c2.1]
    exact z_iret hE dX10_pages_25 ⟨rfl, rfl, fun a ha => by rw [c1.1 a (by omega) (by omega) (by omega), b1.1 a (Or.inl ha)], hR2⟩
  · refine z_cV1s mX10_isVersion gRX10_103 dX10_pages_2 (q_isV (r := 0) h.1 hnv (fun z => absurd z hb) (fun _ => rfl)) (by decide) (by first | assumption | rfl) (by rfl) (Nat.le_of_ble_eq_true rfl) (Nat.le_refl _) (Nat.le_refl _) ?_
    refine z_if_ne (tgt := 12) dX10_pages_5 (by decide) (fun hb => absurd (rfl) hb) (fun _ => ?_)
    refine z_sipush (v := -1001) dX10_pages_8 rfl ?_
    exact z_iret hE dX10_pages_11 ⟨rfl, rfl, fun _ _ => rfl, h⟩
theorem smh_s (h : Nat → Nat) (s k : Nat) : smh h s (k + 1) = smh h s k + h (s + k) := rfl
theorem q_page {I : ZI} {A : AS} {hc : Nat} {Hh : Nat → AS} {tc : Nat} {bf : Nat → Nat} {x y w a : Int32} (h : RI I A hc Hh tc bf) (hD : aPage A x y w a) : ZP yX10_page cX10_page 7 (some FieldType.int) 5 [.ref 259, .int x, .int y, .int w] Sg I (fun r J => r = some (.int a) ∧ (∀ a, a < 259 → J a = I a) ∧ RI J A hc Hh tc bf) := by
  have g0 := m_obj
  have hn := h.2.1.1.1
  have hnv := h.2.1.2.1
  refine ZSp.of (own := RX10) (L := [.ref 259, .int x, .int y, .int w, zj, zj, zj]) mX10_page rfl (List.all_eq_true.mp rfl) (Nat.le_of_ble_eq_true rfl) rfl (fun X hE hN => ?_)
  refine z_aload_n dX10_page_0 rfl ?_
  refine z_iload_n dX10_page_1 rfl ?_
  have bad : a = -1001 → (ZG X RX10 cX10_page 7 5 0 0 0 0 17 [.ref 259, .int x, .int y, .int w, zj, zj, zj] [] Sg I) := by
    rintro rfl
    refine z_sipush (v := -1001) dX10_page_17 rfl ?_
    exact z_iret hE dX10_page_20 ⟨rfl, rfl, fun _ _ => rfl, h⟩
  have yes : ∀ v, v < anv A → x = nI v → is01 w → (∀ J, (∀ a, a < 259 → J a = I a) → RI J A hc Hh tc bf → MPf J A (asd A v) → LPf J A (asd A v) → (ZG X RX10 cX10_page 7 5 0 0 0 0 39 [.ref 259, .int x, .int y, .int w, .int (nI 0), .int (nI 0), .int (nI 0)] [] Sg J)) → (ZG X RX10 cX10_page 7 5 0 0 0 0 2 [.ref 259, .int x, .int y, .int w, zj, zj, zj] [.int x, .ref 259] Sg I) := by
    intro v hv hxv hw nxt
    have hkk : ¬ (w < 0 ∨ 1 < w) := by
      rcases hw with rfl | rfl <;> decide
    refine z_cV1s mX10_isVersion gRX10_103 dX10_page_2 (q_isV (r := 1) h.1 hnv (fun _ => rfl) (fun z => absurd ⟨v, hv, hxv⟩ z)) (by decide) (by first | assumption | rfl) (by rfl) (Nat.le_of_ble_eq_true rfl) (Nat.le_refl _) (Nat.le_refl _) ?_
    refine z_if_eq (tgt := 17) dX10_page_5 (by decide) (fun hb => absurd hb (by decide)) (fun _ => ?_)
    refine z_iload_n dX10_page_8 rfl ?_
    refine z_iconst (v := 0) dX10_page_9 rfl ?_
    refine z_iconst (v := 1) dX10_page_10 rfl ?_
    refine z_cS3s mX10_in gRX10_50 dX10_page_11 (q_in (r := 1) (fun _ _ => rfl) (fun z => absurd z hkk)) (by decide) (Nat.le_of_ble_eq_true rfl) (Nat.le_refl _) (Nat.le_refl _) ?_
    refine z_if_ne (tgt := 21) dX10_page_14 (by decide) (fun _ => ?_) (fun hb => absurd hb (by decide))
    refine z_aload_n dX10_page_21 rfl ?_
    refine z_iload_n dX10_page_22 rfl ?_
    refine z_cV1p mX10_opens gRX10_106 dX10_page_23 (q_opens h.1 h.2.1 hxv hv) (by decide) (by first | assumption | rfl) (by rfl) (Nat.le_of_ble_eq_true rfl) (Nat.le_refl _) (Nat.le_refl _) (fun r J hq => ?_)
    obtain ⟨rfl, b1, b2⟩ := hq
    have hR1 := b1.ri h
    refine z_aload_n dX10_page_26 rfl ?_
    refine z_cV0p mX10_lays gRX10_109 dX10_page_27 (q_lays hR1.1 h.2.1 b2) (by decide) (by first | assumption | rfl) (by rfl) (Nat.le_of_ble_eq_true rfl) (Nat.le_refl _) (Nat.le_refl _) (fun r J hq => ?_)
    obtain ⟨rfl, c1, c2⟩ := hq
    have hR2 := c1.ri hR1
    refine z_iconst (v := 0) dX10_page_30 rfl ?_
    refine z_ist4 dX10_page_31 (by decide) rfl ?_
    refine z_iconst (v := 0) dX10_page_33 rfl ?_
    refine z_ist5 dX10_page_34 (by decide) rfl ?_
    refine z_iconst (v := 0) dX10_page_36 rfl ?_
    refine z_ist6 dX10_page_37 (by decide) rfl ?_
    exact nxt J (fun a ha => by rw [c1.1 a (by omega) (by omega) (by omega), b1.1 a (Or.inl ha)]) hR2 (c1.mp b2) c2
  rcases hD with ⟨v, i, hv, hxv, hi, rfl, hw, ha⟩ | ⟨hb, he⟩
  · refine yes v hv hxv hw (fun K f1 f2 f3 f4 => ?_)
    have hPs := (Ps_spec (seed := asd A v) h.2.1.1 h.2.1.2.2.1).1
    have hPi : vP A v i < vP A v (i + 1) ∧ vP A v (i + 1) ≤ anq A := hPs i hi
    have hM : vN A v ≤ anq A := Pn_le
    have loop : ∀ (m p : Nat), p + m = anq A → (ZG X RX10 cX10_page 7 5 0 0 0 0 39 [.ref 259, .int x, .int (nI i), .int w, .int (nI (min p (vP A v (i + 1)) - vP A v i)), .int (nI (smh (vH A v) (vP A v i) (min p (vP A v (i + 1)) - vP A v i))), .int (nI p)] [] Sg K) := by
      intro m
      induction m with
      | zero =>
        intro p hp
        have e : p = anq A := by omega
        subst e
        have e2 : min (anq A) (vP A v (i + 1)) = vP A v (i + 1) := Nat.min_eq_right hPi.2
        have e3 : nI (vN A v) - 1 = nI (vN A v - 1) := pk_sub (b := 1) (by omega)
        have e4 : K 259 12 = nI (vN A v) := f4.1
        rw [e2]
        refine z_iload dX10_page_39 rfl ?_
        refine z_aload_n dX10_page_41 rfl ?_
        refine z_getR fRX10_7 dX10_page_42 (by first | assumption | rfl) (by rfl) ?_
        refine z_iconst (v := 0) dX10_page_45 rfl ?_
        refine z_ialdN (j := 0) dX10_page_46 m_v (rfl) (by decide) (by decide) ?_
        rw [f2.1.1]
        refine z_icmp_ge (tgt := 87) dX10_page_47 (by decide) (fun _ => ?_) (fun hb => absurd (nI_le (Nat.le_refl _) (by omega)) hb)
        refine z_iload_n dX10_page_87 rfl ?_
        refine z_iconst (v := 0) dX10_page_88 rfl ?_
        refine z_aload_n dX10_page_89 rfl ?_
        refine z_getI fRX10_98 dX10_page_90 (by first | assumption | rfl) (by rfl) ?_
        refine z_iconst (v := 1) dX10_page_93 rfl ?_
        refine z_isub dX10_page_94 ?_
        rw [e4]
        refine z_cS3s mX10_in gRX10_50 dX10_page_95 (q_dom (r := 1) (show vN A v ≤ 20 by omega) (fun _ => rfl) (fun z => absurd ⟨i, hi, rfl⟩ z)) (by decide) (Nat.le_of_ble_eq_true rfl) (Nat.le_refl _) (Nat.le_refl _) ?_
        refine z_if_ne (tgt := 107) dX10_page_98 (by decide) (fun _ => ?_) (fun hb => absurd hb (by decide))
        refine z_iload_n dX10_page_107 rfl ?_
        rcases hw with rfl | rfl
        · refine z_if_ne (tgt := 116) dX10_page_108 (by decide) (fun hb => absurd (rfl) hb) (fun _ => ?_)
          refine z_iload dX10_page_111 rfl ?_
          refine z_goto (tgt := 118) dX10_page_113 (by decide) ?_
          exact z_iret hE dX10_page_118 ⟨rfl, by rw [ha]; rfl, f1, f2⟩
        · refine z_if_ne (tgt := 116) dX10_page_108 (by decide) (fun _ => ?_) (fun hb => absurd hb (by decide))
          refine z_iload dX10_page_116 rfl ?_
          exact z_iret hE dX10_page_118 ⟨rfl, by rw [ha]; rfl, f1, f2⟩
      | succ m ih =>
        intro p hp
        have hp1 : p < anq A := by omega
        have nxt := ih (p + 1) (by omega)
        obtain ⟨j, k, hj, hk, hpk⟩ := Ps_page (seed := asd A v) h.2.1.1 h.2.1.2.2.1 hp1
        have hK := (f4.2 j hj k hk).1
        rw [← hpk] at hK
        have hk' : k < vP A v (j + 1) - vP A v j := hk
        have hpk' : p = vP A v j + k := hpk
        have hg : pgo (vP A v) p (vN A v) = j := by rw [hpk']; exact pgo_eq (fun j hj => (hPs j hj).1) hj hk'
        have hjN : j < vN A v := hj
        refine z_iload dX10_page_39 rfl ?_
        refine z_aload_n dX10_page_41 rfl ?_
        refine z_getR fRX10_7 dX10_page_42 (by first | assumption | rfl) (by rfl) ?_
        refine z_iconst (v := 0) dX10_page_45 rfl ?_
        refine z_ialdN (j := 0) dX10_page_46 m_v (rfl) (by decide) (by decide) ?_
        rw [f2.1.1]
        refine z_icmp_ge (tgt := 87) dX10_page_47 (by decide) (fun hb => absurd hb (nI_ge (by omega) (by omega))) (fun _ => ?_)
        refine z_aload_n dX10_page_50 rfl ?_
        refine z_getR fRX10_31 dX10_page_51 (by first | assumption | rfl) (by rfl) ?_
        refine z_iload dX10_page_54 rfl ?_
        refine z_ialdN dX10_page_56 m_pageOf (rfl) (by omega) (by decide) ?_
        rw [hK]
        refine z_iload_n dX10_page_57 rfl ?_
        by_cases e : j = i
        · rw [e] at hk' hpk'
          have e1 : min (p + 1) (vP A v (i + 1)) - vP A v i = min p (vP A v (i + 1)) - vP A v i + 1 := by
            rw [Nat.min_eq_left (by omega), Nat.min_eq_left (by omega)]
            omega
          have e2 : vP A v i + (min p (vP A v (i + 1)) - vP A v i) = p := by
            rw [Nat.min_eq_left (by omega)]
            omega
          rw [e1, smh_s, e2] at nxt
          have eH : aqd A (Od (anq A) (aqd A) (asd A v) p) 0 = vH A v p := rfl
          refine z_icmp_ne (tgt := 81) dX10_page_58 (by decide) (fun hb => absurd (by rw [e]) hb) (fun _ => ?_)
          refine z_inc4 (w := 1) dX10_page_61 rfl (by decide) rfl ?_
          refine z_iload dX10_page_64 rfl ?_
          refine z_aload_n dX10_page_66 rfl ?_
          refine z_aload_n dX10_page_67 rfl ?_
          refine z_getR fRX10_16 dX10_page_68 (by first | assumption | rfl) (by rfl) ?_
          refine z_iload dX10_page_71 rfl ?_
          refine z_ialdN dX10_page_73 m_order (rfl) (by omega) (by decide) ?_
          rw [f3.1 p hp1]
          refine z_iconst (v := 0) dX10_page_74 rfl ?_
          refine z_cV2s mX10_of gRX10_61 dX10_page_75 (q_of f2.1 hn rfl (show (0 : Int32) = nI 0 from rfl) ((Od_en (anq A) (aqd A) (asd A v)).1 p hp1) (by decide)) (by decide) (by first | assumption | rfl) (by rfl) (Nat.le_of_ble_eq_true rfl) (Nat.le_refl _) (Nat.le_refl _) ?_
          rw [eH]
          refine z_iadd dX10_page_78 ?_
          refine z_ist5 dX10_page_79 (by decide) rfl ?_
          refine z_inc6 (w := 1) dX10_page_81 rfl (by decide) rfl ?_
          refine z_goto (tgt := 39) dX10_page_84 (by decide) ?_
          rw [nI_add, nI_1, nI_1]
          exact nxt
        · have hne : ¬ (vP A v i ≤ p ∧ p < vP A v (i + 1)) := by
            rintro ⟨q1, q2⟩
            have q3 : pgo (vP A v) (vP A v i + (p - vP A v i)) (vN A v) = i := pgo_eq (fun j hj => (hPs j hj).1) hi (by omega)
            rw [show vP A v i + (p - vP A v i) = p by omega, hg] at q3
            exact e q3
          have e1 : min (p + 1) (vP A v (i + 1)) - vP A v i = min p (vP A v (i + 1)) - vP A v i := by
            rcases Nat.lt_or_ge p (vP A v (i + 1)) with q | q
            · rw [Nat.min_eq_left (by omega), Nat.min_eq_left (by omega)]
              omega
            · rw [Nat.min_eq_right (by omega), Nat.min_eq_right (by omega)]
          rw [e1] at nxt
          refine z_icmp_ne (tgt := 81) dX10_page_58 (by decide) (fun _ => ?_) (fun hb => absurd hb (fun z => e ((nI_eq (by omega) (by omega)).mp z)))
          refine z_inc6 (w := 1) dX10_page_81 rfl (by decide) rfl ?_
          refine z_goto (tgt := 39) dX10_page_84 (by decide) ?_
          rw [nI_1]
          exact nxt
    have := loop (anq A) 0 (by omega)
    rw [show min 0 (vP A v (i + 1)) - vP A v i = 0 from by rw [Nat.min_eq_left (Nat.zero_le _), Nat.zero_sub]] at this
    exact this
  · by_cases hx : isV A x
    · obtain ⟨v, hv, hxv⟩ := hx
      by_cases hw : is01 w
      · have hy : ¬ ∃ i, i < vN A v ∧ y = nI i := by
          rcases hb with hb | ⟨v', hv', e1, hb⟩ | hb
          · exact absurd ⟨v, hv, hxv⟩ hb
          · rw [hxv] at e1
            have e1 := (nI_eq (by omega) (by omega)).mp e1
            subst e1
            exact hb
          · exact absurd hw hb
        refine yes v hv hxv hw (fun K f1 f2 f3 f4 => ?_)
        have hM : vN A v ≤ anq A := Pn_le
        have loop : ∀ (m p : Nat), p + m = anq A → (ZG X RX10 cX10_page 7 5 0 0 0 0 39 [.ref 259, .int x, .int y, .int w, .int (nI 0), .int (nI 0), .int (nI p)] [] Sg K) := by
          intro m
          induction m with
          | zero =>
            intro p hp
            have e : p = anq A := by omega
            subst e
            have e4 : K 259 12 = nI (vN A v) := f4.1
            refine z_iload dX10_page_39 rfl ?_
            refine z_aload_n dX10_page_41 rfl ?_
            refine z_getR fRX10_7 dX10_page_42 (by first | assumption | rfl) (by rfl) ?_
            refine z_iconst (v := 0) dX10_page_45 rfl ?_
            refine z_ialdN (j := 0) dX10_page_46 m_v (rfl) (by decide) (by decide) ?_
            rw [f2.1.1]
            refine z_icmp_ge (tgt := 87) dX10_page_47 (by decide) (fun _ => ?_) (fun hb => absurd (nI_le (Nat.le_refl _) (by omega)) hb)
            refine z_iload_n dX10_page_87 rfl ?_
            refine z_iconst (v := 0) dX10_page_88 rfl ?_
            refine z_aload_n dX10_page_89 rfl ?_
            refine z_getI fRX10_98 dX10_page_90 (by first | assumption | rfl) (by rfl) ?_
            refine z_iconst (v := 1) dX10_page_93 rfl ?_
            refine z_isub dX10_page_94 ?_
            rw [e4]
            refine z_cS3s mX10_in gRX10_50 dX10_page_95 (q_dom (r := 0) (show vN A v ≤ 20 by omega) (fun z => absurd z hy) (fun _ => rfl)) (by decide) (Nat.le_of_ble_eq_true rfl) (Nat.le_refl _) (Nat.le_refl _) ?_
            refine z_if_ne (tgt := 107) dX10_page_98 (by decide) (fun hb => absurd (rfl) hb) (fun _ => ?_)
            refine z_sipush (v := -1001) dX10_page_101 rfl ?_
            refine z_goto (tgt := 118) dX10_page_104 (by decide) ?_
            exact z_iret hE dX10_page_118 ⟨rfl, by rw [he], f1, f2⟩
          | succ m ih =>
            intro p hp
            have hp1 : p < anq A := by omega
            have nxt := ih (p + 1) (by omega)
            obtain ⟨j, k, hj, hk, hpk⟩ := Ps_page (seed := asd A v) h.2.1.1 h.2.1.2.2.1 hp1
            have hK := (f4.2 j hj k hk).1
            rw [← hpk] at hK
            refine z_iload dX10_page_39 rfl ?_
            refine z_aload_n dX10_page_41 rfl ?_
            refine z_getR fRX10_7 dX10_page_42 (by first | assumption | rfl) (by rfl) ?_
            refine z_iconst (v := 0) dX10_page_45 rfl ?_
            refine z_ialdN (j := 0) dX10_page_46 m_v (rfl) (by decide) (by decide) ?_
            rw [f2.1.1]
            refine z_icmp_ge (tgt := 87) dX10_page_47 (by decide) (fun hb => absurd hb (nI_ge (by omega) (by omega))) (fun _ => ?_)
            refine z_aload_n dX10_page_50 rfl ?_
            refine z_getR fRX10_31 dX10_page_51 (by first | assumption | rfl) (by rfl) ?_
            refine z_iload dX10_page_54 rfl ?_
            refine z_ialdN dX10_page_56 m_pageOf (rfl) (by omega) (by decide) ?_
            rw [hK]
            refine z_iload_n dX10_page_57 rfl ?_
            refine z_icmp_ne (tgt := 81) dX10_page_58 (by decide) (fun _ => ?_) (fun hb => absurd hb (fun z => hy ⟨j, hj, z.symm⟩))
            refine z_inc6 (w := 1) dX10_page_81 rfl (by decide) rfl ?_
            refine z_goto (tgt := 39) dX10_page_84 (by decide) ?_
            rw [nI_1]
            exact nxt
        exact loop (anq A) 0 (by omega)
      · have hkk : (w < 0 ∨ 1 < w) := by
          by_cases q1 : w < 0
          · exact Or.inl q1
          · refine Or.inr (Int32.not_le.mp (fun q2 => hw ?_))
            obtain ⟨j, hj, rfl⟩ := nI_of2 (M := 1) (n := 1) rfl q1 q2
            match j, hj with
            | 0, _ => exact Or.inl rfl
            | 1, _ => exact Or.inr rfl
        refine z_cV1s mX10_isVersion gRX10_103 dX10_page_2 (q_isV (r := 1) h.1 hnv (fun _ => rfl) (fun z => absurd ⟨v, hv, hxv⟩ z)) (by decide) (by first | assumption | rfl) (by rfl) (Nat.le_of_ble_eq_true rfl) (Nat.le_refl _) (Nat.le_refl _) ?_
        refine z_if_eq (tgt := 17) dX10_page_5 (by decide) (fun hb => absurd hb (by decide)) (fun _ => ?_)
        refine z_iload_n dX10_page_8 rfl ?_
        refine z_iconst (v := 0) dX10_page_9 rfl ?_
        refine z_iconst (v := 1) dX10_page_10 rfl ?_
        refine z_cS3s mX10_in gRX10_50 dX10_page_11 (q_in (r := 0) (fun q1 q2 => absurd hkk (fun z => z.elim q1 (fun z => absurd q2 (Int32.not_le.mpr z)))) (fun _ => rfl)) (by decide) (Nat.le_of_ble_eq_true rfl) (Nat.le_refl _) (Nat.le_refl _) ?_
        refine z_if_ne (tgt := 21) dX10_page_14 (by decide) (fun hb => absurd (rfl) hb) (fun _ => ?_)
        exact bad he
    · refine z_cV1s mX10_isVersion gRX10_103 dX10_page_2 (q_isV (r := 0) h.1 hnv (fun z => absurd z hx) (fun _ => rfl)) (by decide) (by first | assumption | rfl) (by rfl) (Nat.le_of_ble_eq_true rfl) (Nat.le_refl _) (Nat.le_refl _) ?_
      refine z_if_eq (tgt := 17) dX10_page_5 (by decide) (fun _ => ?_) (fun hb => absurd (rfl) hb)
      exact bad he

