/-! ===== the model: sheet ===== -/
theorem q_wrongAt {I : ZI} {A : AS} {hc : Nat} {Hh : Nat → AS} {tc : Nat} {bf : Nat → Nat} {v : Nat} {r : Int32} (h : RI I A hc Hh tc bf) (hM : MPf I A (asd A v)) (hD : (okAll A v tc bf ∧ r = -1) ∨ ∃ i, badAt A v tc bf i ∧ r = nI i) : ZE yX10_wrongAt cX10_wrongAt 2 (some FieldType.int) 1 [.ref 259] Sg I (some (.int r)) I := by
  have g0 := m_obj
  have hn := h.2.1.1.1
  obtain ⟨w1, w2, w3⟩ := h.2.2.2
  refine ZSp.of (own := RX10) (L := [.ref 259, zj]) mX10_wrongAt rfl (List.all_eq_true.mp rfl) (Nat.le_of_ble_eq_true rfl) rfl (fun X hE hN => ?_)
  have toO : ∀ k, k < tc → k < anq A → bf k ≠ 45 → (ZG X RX10 cX10_wrongAt 2 1 0 0 0 0 54 [.ref 259, .int (nI k)] [.int (nI (aqd A (vO A v k) 4) - 1), .int 0, .int (nI (bf k) - 65)] Sg I) → (ZG X RX10 cX10_wrongAt 2 1 0 0 0 0 2 [.ref 259, .int (nI k)] [] Sg I) := by
    intro k hk1 hk2 e nxt
    have hO := (Od_en (anq A) (aqd A) (asd A v)).1 k hk2
    have hb := w3 k hk1
    have eO : aqd A (Od (anq A) (aqd A) (asd A v) k) 4 = aqd A (vO A v k) 4 := rfl
    refine z_iload_n dX10_wrongAt_2 rfl ?_
    refine z_aload_n dX10_wrongAt_3 rfl ?_
    refine z_getI fRX10_126 dX10_wrongAt_4 (by first | assumption | rfl) (by rfl) ?_
    rw [w1]
    refine z_icmp_ge (tgt := 68) dX10_wrongAt_7 (by decide) (fun hb => absurd hb (nI_ge hk1 (by omega))) (fun _ => ?_)
    refine z_iload_n dX10_wrongAt_10 rfl ?_
    refine z_aload_n dX10_wrongAt_11 rfl ?_
    refine z_getR fRX10_7 dX10_wrongAt_12 (by first | assumption | rfl) (by rfl) ?_
    refine z_iconst (v := 0) dX10_wrongAt_15 rfl ?_
    refine z_ialdN (j := 0) dX10_wrongAt_16 m_v (rfl) (by decide) (by decide) ?_
    rw [h.1.1]
    refine z_icmp_ge (tgt := 60) dX10_wrongAt_17 (by decide) (fun hb => absurd hb (nI_ge hk2 (by omega))) (fun _ => ?_)
    refine z_aload_n dX10_wrongAt_20 rfl ?_
    refine z_getR fRX10_43 dX10_wrongAt_21 (by first | assumption | rfl) (by rfl) ?_
    refine z_iload_n dX10_wrongAt_24 rfl ?_
    refine z_ialdN dX10_wrongAt_25 m_text (rfl) (by omega) (by decide) ?_
    rw [hb.1]
    refine z_bipush (v := 45) dX10_wrongAt_26 rfl ?_
    refine z_icmp_eq (tgt := 62) dX10_wrongAt_28 (by decide) (fun hb => absurd hb (fun z => e ((nI_eq (b := 45) (by omega) (by decide)).mp z))) (fun _ => ?_)
    refine z_aload_n dX10_wrongAt_31 rfl ?_
    refine z_getR fRX10_43 dX10_wrongAt_32 (by first | assumption | rfl) (by rfl) ?_
    refine z_iload_n dX10_wrongAt_35 rfl ?_
    refine z_ialdN dX10_wrongAt_36 m_text (rfl) (by omega) (by decide) ?_
    rw [hb.1]
    refine z_bipush (v := 65) dX10_wrongAt_37 rfl ?_
    refine z_isub dX10_wrongAt_39 ?_
    refine z_iconst (v := 0) dX10_wrongAt_40 rfl ?_
    refine z_aload_n dX10_wrongAt_41 rfl ?_
    refine z_aload_n dX10_wrongAt_42 rfl ?_
    refine z_getR fRX10_16 dX10_wrongAt_43 (by first | assumption | rfl) (by rfl) ?_
    refine z_iload_n dX10_wrongAt_46 rfl ?_
    refine z_ialdN dX10_wrongAt_47 m_order (rfl) (by omega) (by decide) ?_
    rw [hM.1 k hk2]
    refine z_iconst (v := 4) dX10_wrongAt_48 rfl ?_
    refine z_cV2s mX10_of gRX10_61 dX10_wrongAt_49 (q_of h.1 hn rfl (show (4 : Int32) = nI 4 from rfl) hO (by decide)) (by decide) (by first | assumption | rfl) (by rfl) (Nat.le_of_ble_eq_true rfl) (Nat.le_refl _) (Nat.le_refl _) ?_
    rw [eO]
    refine z_iconst (v := 1) dX10_wrongAt_52 rfl ?_
    refine z_isub dX10_wrongAt_53 ?_
    exact nxt
  have nxt2 : ∀ k, (ZG X RX10 cX10_wrongAt 2 1 0 0 0 0 2 [.ref 259, .int (nI (k + 1))] [] Sg I) → (ZG X RX10 cX10_wrongAt 2 1 0 0 0 0 62 [.ref 259, .int (nI k)] [] Sg I) := by
    intro k nxt
    refine z_inc1 (w := 1) dX10_wrongAt_62 rfl (by decide) rfl ?_
    refine z_goto (tgt := 2) dX10_wrongAt_65 (by decide) ?_
    rw [nI_1]
    exact nxt
  have step : ∀ k, k < tc → k < anq A → okC (bf k) (aqd A (vO A v k) 4) → (ZG X RX10 cX10_wrongAt 2 1 0 0 0 0 2 [.ref 259, .int (nI (k + 1))] [] Sg I) → (ZG X RX10 cX10_wrongAt 2 1 0 0 0 0 2 [.ref 259, .int (nI k)] [] Sg I) := by
    intro k hk1 hk2 ho nxt
    have hb := w3 k hk1
    have h5 : aqd A (vO A v k) 4 ≤ 5 := (h.2.1.1.2 _ ((Od_en (anq A) (aqd A) (asd A v)).1 k hk2)).2.2.2.1
    by_cases e : bf k = 45
    · refine z_iload_n dX10_wrongAt_2 rfl ?_
      refine z_aload_n dX10_wrongAt_3 rfl ?_
      refine z_getI fRX10_126 dX10_wrongAt_4 (by first | assumption | rfl) (by rfl) ?_
      rw [w1]
      refine z_icmp_ge (tgt := 68) dX10_wrongAt_7 (by decide) (fun hb => absurd hb (nI_ge hk1 (by omega))) (fun _ => ?_)
      refine z_iload_n dX10_wrongAt_10 rfl ?_
      refine z_aload_n dX10_wrongAt_11 rfl ?_
      refine z_getR fRX10_7 dX10_wrongAt_12 (by first | assumption | rfl) (by rfl) ?_
      refine z_iconst (v := 0) dX10_wrongAt_15 rfl ?_
      refine z_ialdN (j := 0) dX10_wrongAt_16 m_v (rfl) (by decide) (by decide) ?_
      rw [h.1.1]
      refine z_icmp_ge (tgt := 60) dX10_wrongAt_17 (by decide) (fun hb => absurd hb (nI_ge hk2 (by omega))) (fun _ => ?_)
      refine z_aload_n dX10_wrongAt_20 rfl ?_
      refine z_getR fRX10_43 dX10_wrongAt_21 (by first | assumption | rfl) (by rfl) ?_
      refine z_iload_n dX10_wrongAt_24 rfl ?_
      refine z_ialdN dX10_wrongAt_25 m_text (rfl) (by omega) (by decide) ?_
      rw [hb.1]
      refine z_bipush (v := 45) dX10_wrongAt_26 rfl ?_
      refine z_icmp_eq (tgt := 62) dX10_wrongAt_28 (by decide) (fun _ => ?_) (fun hb => absurd (by rw [e]; rfl) hb)
      exact nxt2 k nxt
    · refine toO k hk1 hk2 e ?_
      rcases ho with ho | ⟨o1, o2⟩
      · exact absurd ho e
      · rw [show nI (bf k) - 65 = nI (bf k - 65) from pk_sub (b := 65) o1]
        refine z_cS3s mX10_in gRX10_50 dX10_wrongAt_54 (q_dom (r := 1) (show aqd A (vO A v k) 4 ≤ 20 by omega) (fun _ => rfl) (fun z => absurd ⟨bf k - 65, by omega, rfl⟩ z)) (by decide) (Nat.le_of_ble_eq_true rfl) (Nat.le_refl _) (Nat.le_refl _) ?_
        refine z_if_ne (tgt := 62) dX10_wrongAt_57 (by decide) (fun _ => ?_) (fun hb => absurd hb (by decide))
        exact nxt2 k nxt
  have walk : ∀ (m k e : Nat), k + m = e → e ≤ tc → e ≤ anq A → (∀ j, j < e → okC (bf j) (aqd A (vO A v j) 4)) → (ZG X RX10 cX10_wrongAt 2 1 0 0 0 0 2 [.ref 259, .int (nI e)] [] Sg I) → (ZG X RX10 cX10_wrongAt 2 1 0 0 0 0 2 [.ref 259, .int (nI k)] [] Sg I) := by
    intro m
    induction m with
    | zero =>
      intro k e hk _ _ _ nxt
      have e2 : k = e := by omega
      rw [e2]
      exact nxt
    | succ m ih =>
      intro k e hk h1 h2 h3 nxt
      exact step k (by omega) (by omega) (h3 k (by omega)) (ih (k + 1) e (by omega) h1 h2 h3 nxt)
  refine z_iconst (v := 0) dX10_wrongAt_0 rfl ?_
  refine z_ist1 dX10_wrongAt_1 (by decide) rfl ?_
  rcases hD with ⟨⟨e1, e2⟩, rfl⟩ | ⟨i, ⟨b1, b2, b3, b4⟩, rfl⟩
  · refine walk tc 0 tc (by omega) (Nat.le_refl _) (by omega) (fun j hj => e2 j (by omega)) ?_
    refine z_iload_n dX10_wrongAt_2 rfl ?_
    refine z_aload_n dX10_wrongAt_3 rfl ?_
    refine z_getI fRX10_126 dX10_wrongAt_4 (by first | assumption | rfl) (by rfl) ?_
    rw [w1]
    refine z_icmp_ge (tgt := 68) dX10_wrongAt_7 (by decide) (fun _ => ?_) (fun hb => absurd (nI_le (Nat.le_refl _) (by omega)) hb)
    refine z_aload_n dX10_wrongAt_68 rfl ?_
    refine z_getI fRX10_126 dX10_wrongAt_69 (by first | assumption | rfl) (by rfl) ?_
    refine z_aload_n dX10_wrongAt_72 rfl ?_
    refine z_getR fRX10_7 dX10_wrongAt_73 (by first | assumption | rfl) (by rfl) ?_
    refine z_iconst (v := 0) dX10_wrongAt_76 rfl ?_
    refine z_ialdN (j := 0) dX10_wrongAt_77 m_v (rfl) (by decide) (by decide) ?_
    rw [w1, h.1.1]
    refine z_icmp_ge (tgt := 88) dX10_wrongAt_78 (by decide) (fun _ => ?_) (fun hb => absurd (nI_le (by omega) (by omega)) hb)
    refine z_iconst (v := -1) dX10_wrongAt_88 rfl ?_
    exact z_eireturn hE dX10_wrongAt_89 rfl rfl
  · refine walk i 0 i (by omega) b1 b2 b3 ?_
    rcases b4 with ⟨c1, c2⟩ | ⟨c1, c2⟩ | ⟨c1, c2, c3⟩
    · refine z_iload_n dX10_wrongAt_2 rfl ?_
      refine z_aload_n dX10_wrongAt_3 rfl ?_
      refine z_getI fRX10_126 dX10_wrongAt_4 (by first | assumption | rfl) (by rfl) ?_
      rw [w1]
      refine z_icmp_ge (tgt := 68) dX10_wrongAt_7 (by decide) (fun _ => ?_) (fun hb => absurd (nI_le (by omega) (by omega)) hb)
      refine z_aload_n dX10_wrongAt_68 rfl ?_
      refine z_getI fRX10_126 dX10_wrongAt_69 (by first | assumption | rfl) (by rfl) ?_
      refine z_aload_n dX10_wrongAt_72 rfl ?_
      refine z_getR fRX10_7 dX10_wrongAt_73 (by first | assumption | rfl) (by rfl) ?_
      refine z_iconst (v := 0) dX10_wrongAt_76 rfl ?_
      refine z_ialdN (j := 0) dX10_wrongAt_77 m_v (rfl) (by decide) (by decide) ?_
      rw [w1, h.1.1]
      refine z_icmp_ge (tgt := 88) dX10_wrongAt_78 (by decide) (fun hb => absurd hb (nI_ge (by omega) (by omega))) (fun _ => ?_)
      refine z_aload_n dX10_wrongAt_81 rfl ?_
      refine z_getI fRX10_126 dX10_wrongAt_82 (by first | assumption | rfl) (by rfl) ?_
      refine z_goto (tgt := 89) dX10_wrongAt_85 (by decide) ?_
      exact z_eireturn hE dX10_wrongAt_89 (by rw [w1, c1]) rfl
    · refine z_iload_n dX10_wrongAt_2 rfl ?_
      refine z_aload_n dX10_wrongAt_3 rfl ?_
      refine z_getI fRX10_126 dX10_wrongAt_4 (by first | assumption | rfl) (by rfl) ?_
      rw [w1]
      refine z_icmp_ge (tgt := 68) dX10_wrongAt_7 (by decide) (fun hb => absurd hb (nI_ge c2 (by omega))) (fun _ => ?_)
      refine z_iload_n dX10_wrongAt_10 rfl ?_
      refine z_aload_n dX10_wrongAt_11 rfl ?_
      refine z_getR fRX10_7 dX10_wrongAt_12 (by first | assumption | rfl) (by rfl) ?_
      refine z_iconst (v := 0) dX10_wrongAt_15 rfl ?_
      refine z_ialdN (j := 0) dX10_wrongAt_16 m_v (rfl) (by decide) (by decide) ?_
      rw [h.1.1]
      refine z_icmp_ge (tgt := 60) dX10_wrongAt_17 (by decide) (fun _ => ?_) (fun hb => absurd (nI_le (by omega) (by omega)) hb)
      refine z_iload_n dX10_wrongAt_60 rfl ?_
      exact z_eireturn hE dX10_wrongAt_61 rfl rfl
    · have e : bf i ≠ 45 := fun z => c3 (Or.inl z)
      have h5 : aqd A (vO A v i) 4 ≤ 5 := (h.2.1.1.2 _ ((Od_en (anq A) (aqd A) (asd A v)).1 i c2)).2.2.2.1
      have hb := w3 i c1
      refine toO i c1 c2 e ?_
      have hno : ¬ ∃ j, j < aqd A (vO A v i) 4 ∧ nI (bf i) - 65 = nI j := by
        rintro ⟨j, j1, j2⟩
        have j3 : nI (bf i) = nI (bf i) - 65 + 65 := (Int32.sub_add_cancel _ _).symm
        rw [j2] at j3
        have j4 : nI (bf i) = nI (j + 65) := j3.trans (nI_add j 65)
        have j5 := (nI_eq (by omega) (by omega)).mp j4
        exact c3 (Or.inr ⟨by omega, by omega⟩)
      refine z_cS3s mX10_in gRX10_50 dX10_wrongAt_54 (q_dom (r := 0) (show aqd A (vO A v i) 4 ≤ 20 by omega) (fun z => absurd z hno) (fun _ => rfl)) (by decide) (Nat.le_of_ble_eq_true rfl) (Nat.le_refl _) (Nat.le_refl _) ?_
      refine z_if_ne (tgt := 62) dX10_wrongAt_57 (by decide) (fun hb => absurd (rfl) hb) (fun _ => ?_)
      refine z_iload_n dX10_wrongAt_60 rfl ?_
      exact z_eireturn hE dX10_wrongAt_61 rfl rfl
theorem z_avS {A : AS} {v : Nat} {mm : Nat → Option Nat} (h : AV A) (hv : v < anv A) (hs : ans A < 20) (hm : ∀ p, p < anq A → ∀ k, mm p = some k → k < aqd A (vO A v p) 4) : AV (shA A v mm) := by
  obtain ⟨v1, v2, v3, v4, v5, v6⟩ := h
  refine ⟨v1, v2, v3, v4, hs, fun t ht => ?_⟩
  have ht1 : t < ans A + 1 := ht
  by_cases e : t = ans A
  · subst e
    have e1 : asv (shA A v mm) (ans A) = v := if_pos rfl
    have e2 : amk (shA A v mm) (ans A) = mm := if_pos rfl
    rw [e1, e2]
    exact ⟨hv, hm⟩
  · have e1 : asv (shA A v mm) t = asv A t := if_neg e
    have e2 : amk (shA A v mm) t = amk A t := if_neg e
    rw [e1, e2]
    exact v6 t (by omega)
theorem z_rvS {f g : Nat → Int32} {A : AS} {v : Nat} {mm : Nat → Option Nat} (h : RV f A) (hV : AV A) (hs : ans A < 20) (e3 : g 3 = nI (ans A + 1)) (ev : g (116 + 21 * ans A) = nI v) (em : ∀ p, p < anq A → g (116 + 21 * ans A + 1 + p) = mrk (mm p)) (eo : ∀ k, k ≠ 3 → k < 116 + 21 * ans A → g k = f k) : RV g (shA A v mm) := by
  obtain ⟨r1, r2, r3, r4, r5, r6, r7⟩ := h
  have hn := hV.1.1
  have hnv := hV.2.1
  refine ⟨?_, ?_, ?_, ?_, fun i hi w hw => ?_, fun u hu => ?_, fun t ht => ?_⟩
  · exact (eo 0 (by decide) (by omega)).trans r1
  · exact (eo 1 (by decide) (by omega)).trans r2
  · exact (eo 2 (by decide) (by omega)).trans r3
  · exact e3
  · have hi2 : i < anq A := hi
    exact (eo _ (by omega) (by omega)).trans (r5 i hi w hw)
  · have hu2 : u < anv A := hu
    exact (eo _ (by omega) (by omega)).trans (r6 u hu)
  · have ht1 : t < ans A + 1 := ht
    by_cases e : t = ans A
    · subst e
      have e1 : asv (shA A v mm) (ans A) = v := if_pos rfl
      have e2 : amk (shA A v mm) (ans A) = mm := if_pos rfl
      rw [e1, e2]
      exact ⟨ev, em⟩
    · have e1 : asv (shA A v mm) t = asv A t := if_neg e
      have e2 : amk (shA A v mm) t = amk A t := if_neg e
      rw [e1, e2]
      refine ⟨(eo _ (by omega) (by omega)).trans (r7 t (by omega)).1, fun p hp => ?_⟩
      have hp2 : p < anq A := hp
      exact (eo _ (by omega) (by omega)).trans ((r7 t (by omega)).2 p hp)
theorem q_sheet {I : ZI} {A : AS} {hc : Nat} {Hh : Nat → AS} {tc : Nat} {bf : Nat → Nat} {x : Int32} {r0 : Option Value} {P : AS → Nat → (Nat → AS) → Nat → (Nat → Nat) → Prop} (h : RI I A hc Hh tc bf) (hD : (¬ isV A x ∧ r0 = some (.int (-1001)) ∧ P A hc Hh tc bf) ∨ (isV A x ∧ ans A = 20 ∧ r0 = some (.int (-1003)) ∧ P A hc Hh tc bf) ∨ (∃ v i, v < anv A ∧ x = nI v ∧ ans A < 20 ∧ badAt A v tc bf i ∧ r0 = some (.int (-100 - nI i)) ∧ P A hc Hh tc bf) ∨ (∃ v, v < anv A ∧ x = nI v ∧ ans A < 20 ∧ okAll A v tc bf ∧ r0 = some (.int (nI (ans A))) ∧ P (shA A v (fun p => tmk (bf p))) (phc hc) (pHh hc Hh A) 0 bf)) : ZP yX10_sheet cX10_sheet 5 (some FieldType.int) 5 [.ref 259, .int x] Sg I (fun r J => r = r0 ∧ (∀ a, a < 259 → J a = I a) ∧ ∃ A' hc' Hh' tc' bf', P A' hc' Hh' tc' bf' ∧ RI J A' hc' Hh' tc' bf') := by
  have g0 := m_obj
  have hn := h.2.1.1.1
  have hnv := h.2.1.2.1
  have hns := h.2.1.2.2.2.2.1
  refine ZSp.of (own := RX10) (L := [.ref 259, .int x, zj, zj, zj]) mX10_sheet rfl (List.all_eq_true.mp rfl) (Nat.le_of_ble_eq_true rfl) rfl (fun X hE hN => ?_)
  refine z_aload_n dX10_sheet_0 rfl ?_
  refine z_iload_n dX10_sheet_1 rfl ?_
  have up : ∀ v, v < anv A → x = nI v → (ZG X RX10 cX10_sheet 5 5 0 0 0 0 12 [.ref 259, .int x, zj, zj, zj] [] Sg I) → (ZG X RX10 cX10_sheet 5 5 0 0 0 0 2 [.ref 259, .int x, zj, zj, zj] [.int x, .ref 259] Sg I) := by
    intro v hv hx nxt
    refine z_cV1s mX10_isVersion gRX10_103 dX10_sheet_2 (q_isV (r := 1) h.1 hnv (fun _ => rfl) (fun z => absurd ⟨v, hv, hx⟩ z)) (by decide) (by first | assumption | rfl) (by rfl) (Nat.le_of_ble_eq_true rfl) (Nat.le_refl _) (Nat.le_refl _) ?_
    refine z_if_ne (tgt := 12) dX10_sheet_5 (by decide) (fun _ => ?_) (fun hb => absurd hb (by decide))
    exact nxt
  have up2 : ∀ (v : Nat) (r : Int32), v < anv A → x = nI v → ans A < 20 → ((okAll A v tc bf ∧ r = -1) ∨ ∃ i, badAt A v tc bf i ∧ r = nI i) → (∀ J, MFr I J → MPf J A (asd A v) → (ZG X RX10 cX10_sheet 5 5 0 0 0 0 36 [.ref 259, .int x, zj, zj, zj] [.int r] Sg J)) → (ZG X RX10 cX10_sheet 5 5 0 0 0 0 2 [.ref 259, .int x, zj, zj, zj] [.int x, .ref 259] Sg I) := by
    intro v r hv hx hs hD2 nxt
    refine up v hv hx ?_
    refine z_aload_n dX10_sheet_12 rfl ?_
    refine z_getR fRX10_7 dX10_sheet_13 (by first | assumption | rfl) (by rfl) ?_
    refine z_iconst (v := 3) dX10_sheet_16 rfl ?_
    refine z_ialdN (j := 3) dX10_sheet_17 m_v (rfl) (by decide) (by decide) ?_
    rw [h.1.2.2.2.1]
    refine z_bipush (v := 20) dX10_sheet_18 rfl ?_
    refine z_icmp_ne (tgt := 27) dX10_sheet_20 (by decide) (fun _ => ?_) (fun hb => absurd hb (fun q => by have := (nI_eq (b := 20) (by omega) (by decide)).mp q; omega))
    refine z_aload_n dX10_sheet_27 rfl ?_
    refine z_iload_n dX10_sheet_28 rfl ?_
    refine z_cV1p mX10_opens gRX10_106 dX10_sheet_29 (q_opens h.1 h.2.1 hx hv) (by decide) (by first | assumption | rfl) (by rfl) (Nat.le_of_ble_eq_true rfl) (Nat.le_refl _) (Nat.le_refl _) (fun r J hq => ?_)
    obtain ⟨rfl, b1, b2⟩ := hq
    have hRJ := b1.ri h
    refine z_aload_n dX10_sheet_32 rfl ?_
    refine z_cV0s mX10_wrongAt gRX10_129 dX10_sheet_33 (q_wrongAt hRJ b2 hD2) (by decide) (by first | assumption | rfl) (by rfl) (Nat.le_of_ble_eq_true rfl) (Nat.le_refl _) (Nat.le_refl _) ?_
    exact nxt J b1 b2
  rcases hD with ⟨hb, rfl, hP⟩ | ⟨⟨v, hv, hx⟩, hz, rfl, hP⟩ | ⟨v, i, hv, hx, hs, hbad, rfl, hP⟩ | ⟨v, hv, hx, hs, hok, rfl, hP⟩
  · refine z_cV1s mX10_isVersion gRX10_103 dX10_sheet_2 (q_isV (r := 0) h.1 hnv (fun z => absurd z hb) (fun _ => rfl)) (by decide) (by first | assumption | rfl) (by rfl) (Nat.le_of_ble_eq_true rfl) (Nat.le_refl _) (Nat.le_refl _) ?_
    refine z_if_ne (tgt := 12) dX10_sheet_5 (by decide) (fun hb => absurd (rfl) hb) (fun _ => ?_)
    refine z_sipush (v := -1001) dX10_sheet_8 rfl ?_
    exact z_iret hE dX10_sheet_11 ⟨rfl, rfl, fun _ _ => rfl, _, _, _, _, _, hP, h⟩
  · refine up v hv hx ?_
    refine z_aload_n dX10_sheet_12 rfl ?_
    refine z_getR fRX10_7 dX10_sheet_13 (by first | assumption | rfl) (by rfl) ?_
    refine z_iconst (v := 3) dX10_sheet_16 rfl ?_
    refine z_ialdN (j := 3) dX10_sheet_17 m_v (rfl) (by decide) (by decide) ?_
    rw [h.1.2.2.2.1]
    refine z_bipush (v := 20) dX10_sheet_18 rfl ?_
    refine z_icmp_ne (tgt := 27) dX10_sheet_20 (by decide) (fun hb => absurd (by rw [hz]; rfl) hb) (fun _ => ?_)
    refine z_sipush (v := -1003) dX10_sheet_23 rfl ?_
    exact z_iret hE dX10_sheet_26 ⟨rfl, rfl, fun _ _ => rfl, _, _, _, _, _, hP, h⟩
  · refine up2 v (nI i) hv hx hs (Or.inr ⟨i, hbad, rfl⟩) (fun K b1 b2 => ?_)
    have hi : i ≤ anq A := hbad.2.1
    refine z_ist2 dX10_sheet_36 (by decide) rfl ?_
    refine z_iload_n dX10_sheet_37 rfl ?_
    refine z_if_lt (tgt := 46) dX10_sheet_38 (by decide) (fun hb => absurd hb (nI_pos (by omega))) (fun _ => ?_)
    refine z_bipush (v := -100) dX10_sheet_41 rfl ?_
    refine z_iload_n dX10_sheet_43 rfl ?_
    refine z_isub dX10_sheet_44 ?_
    exact z_iret hE dX10_sheet_45 ⟨rfl, rfl, fun a ha => b1.1 a (Or.inl ha), _, _, _, _, _, hP, b1.ri h⟩
  · refine up2 v (-1) hv hx hs (Or.inl ⟨hok, rfl⟩) (fun K b1 b2 => ?_)
    have hRK := b1.ri h
    have hbf : ∀ k, k < anq A → K 271 k = nI (bf k) ∧ bf k ≤ 126 := fun k hk => by
      have := hRK.2.2.2.2.2 k (by have := hok.1; omega)
      exact ⟨this.1, this.2.2⟩
    refine z_ist2 dX10_sheet_36 (by decide) rfl ?_
    refine z_iload_n dX10_sheet_37 rfl ?_
    refine z_if_lt (tgt := 46) dX10_sheet_38 (by decide) (fun _ => ?_) (fun hb => absurd (by decide) hb)
    refine z_aload_n dX10_sheet_46 rfl ?_
    refine z_cV0p mX10_act gRX10_54 dX10_sheet_47 (q_act hRK) (by decide) (by first | assumption | rfl) (by rfl) (Nat.le_of_ble_eq_true rfl) (Nat.le_refl _) (Nat.le_refl _) (fun r J hq => ?_)
    obtain ⟨rfl, c1, c2, c3⟩ := hq
    have e60 : J 260 = K 260 := c1 _ (by decide) (by decide)
    have fin : ∀ (L : ZI), (∀ a, a ≠ 260 → L a = J a) → L 260 (116 + 21 * ans A) = nI v → (∀ p, p < anq A → L 260 (116 + 21 * ans A + 1 + p) = mrk (tmk (bf p))) → (∀ k, k < 116 + 21 * ans A → L 260 k = J 260 k) → (ZG X RX10 cX10_sheet 5 5 0 0 0 0 126 [.ref 259, .int x, zj, zj, zj] [] Sg L) := by
      intro L l1 l2 l3 l4
      have e3 : zup L 259 16 0 260 3 = nI (ans A) := by rw [zup_ne _ _ _ (by decide), l4 3 (by omega), e60]; exact hRK.1.2.2.2.1
      refine z_aload_n dX10_sheet_126 rfl ?_
      refine z_iconst (v := 0) dX10_sheet_127 rfl ?_
      refine z_putI fRX10_126 dX10_sheet_128 (by first | assumption | rfl) (by rfl) ?_
      refine z_aload_n dX10_sheet_131 rfl ?_
      refine z_getR fRX10_7 dX10_sheet_132 (by first | assumption | rfl) (by rfl) ?_
      refine z_iconst (v := 3) dX10_sheet_135 rfl ?_
      refine z_dup2 dX10_sheet_136 rfl rfl ?_
      refine z_ialdN (j := 3) dX10_sheet_137 m_v (rfl) (by decide) (by decide) ?_
      rw [e3]
      refine z_iconst (v := 1) dX10_sheet_138 rfl ?_
      refine z_iadd dX10_sheet_139 ?_
      rw [nI_1]
      refine z_iastN (j := 3) dX10_sheet_140 m_v (rfl) (by decide) (by decide) ?_
      refine z_aload_n dX10_sheet_141 rfl ?_
      refine z_getR fRX10_7 dX10_sheet_142 (by first | assumption | rfl) (by rfl) ?_
      refine z_iconst (v := 3) dX10_sheet_145 rfl ?_
      refine z_ialdN (j := 3) dX10_sheet_146 m_v (rfl) (by decide) (by decide) ?_
      rw [zup_at, upd_at]
      refine z_iconst (v := 1) dX10_sheet_147 rfl ?_
      refine z_isub dX10_sheet_148 ?_
      rw [nI_pred]
      have f60 : ∀ k, k ≠ 3 → zup (zup L 259 16 0) 260 3 (nI (ans A + 1)) 260 k = L 260 k := fun k q => by rw [zup_at, upd_ne _ _ q, zup_ne _ _ _ (by decide)]
      have fo : ∀ a, a ≠ 259 → a ≠ 260 → zup (zup L 259 16 0) 260 3 (nI (ans A + 1)) a = J a := fun a q1 q2 => by rw [zup_ne _ _ _ q2, zup_ne _ _ _ q1, l1 a q2]
      have f59 : ∀ k, k ≠ 16 → zup (zup L 259 16 0) 260 3 (nI (ans A + 1)) 259 k = J 259 k := fun k q => by rw [zup_ne _ _ _ (by decide), zup_at, upd_ne _ _ q, l1 _ (by decide)]
      refine z_iret hE dX10_sheet_149 ⟨rfl, rfl, fun a ha => by rw [fo a (by omega) (by omega), c1 a (by omega) (by omega), b1.1 a (Or.inl ha)], _, _, _, _, _, hP, ?_, ?_, ?_, ?_⟩
      · refine z_rvS h.1 h.2.1 hs (by rw [zup_at, upd_at]) (by rw [f60 _ (by omega)]; exact l2) (fun p hp => by rw [f60 _ (by omega)]; exact l3 p hp) (fun k q1 q2 => by rw [f60 k q1, l4 k q2, e60, b1.1 260 (by omega)])
      · refine z_avS h.2.1 hv hs (fun p hp k hk => ?_)
        have ho := hok.2 p hp
        have hk2 : tmk (bf p) = some k := hk
        unfold tmk at hk2
        by_cases e : bf p = 45
        · rw [if_pos e] at hk2; cases hk2
        · rw [if_neg e] at hk2
          cases hk2
          rcases ho with q1 | ⟨q1, q3⟩
          · exact absurd q1 e
          · omega
      · exact ⟨by rw [f59 _ (by decide)]; exact c3.2.2.1.1, c3.2.2.1.2.1, fun i hi => by rw [fo _ (by decide) (by decide)]; exact c3.2.2.1.2.2 i hi⟩
      · exact ⟨by rw [zup_ne _ _ _ (by decide), zup_at, upd_at]; rfl, Nat.zero_le _, fun k hk => absurd hk (Nat.not_lt_zero k)⟩
    have loop : ∀ (m k : Nat) (L : ZI), k + m = anq A → (∀ a, a ≠ 260 → L a = J a) → L 260 (116 + 21 * ans A) = nI v → (∀ p, p < k → L 260 (116 + 21 * ans A + 1 + p) = mrk (tmk (bf p))) → (∀ k, k < 116 + 21 * ans A → L 260 k = J 260 k) → (ZG X RX10 cX10_sheet 5 5 0 0 0 0 70 [.ref 259, .int x, zj, .int (nI (116 + 21 * ans A)), .int (nI k)] [] Sg L) := by
      intro m
      induction m with
      | zero =>
        intro k L hk l1 l2 l3 l4
        have e : k = anq A := by omega
        subst e
        have e0 : L 260 0 = nI (anq A) := by rw [l4 0 (by omega), e60]; exact hRK.1.1
        refine z_iload dX10_sheet_70 rfl ?_
        refine z_aload_n dX10_sheet_72 rfl ?_
        refine z_getR fRX10_7 dX10_sheet_73 (by first | assumption | rfl) (by rfl) ?_
        refine z_iconst (v := 0) dX10_sheet_76 rfl ?_
        refine z_ialdN (j := 0) dX10_sheet_77 m_v (rfl) (by decide) (by decide) ?_
        rw [e0]
        refine z_icmp_ge (tgt := 126) dX10_sheet_78 (by decide) (fun _ => ?_) (fun hb => absurd (nI_le (Nat.le_refl _) (by omega)) hb)
        refine z_fg3 (z_fg4 ?_)
        exact fin L l1 l2 l3 l4
      | succ m ih =>
        intro k L hk l1 l2 l3 l4
        have hk1 : k < anq A := by omega
        have hkb := hbf k hk1
        have e0 : L 260 0 = nI (anq A) := by rw [l4 0 (by omega), e60]; exact hRK.1.1
        have et : L 271 k = nI (bf k) := by rw [l1 _ (by decide), c1 _ (by decide) (by decide)]; exact hkb.1
        have put : ∀ (w : Int32), w = mrk (tmk (bf k)) → (ZG X RX10 cX10_sheet 5 5 0 0 0 0 119 [.ref 259, .int x, zj, .int (nI (116 + 21 * ans A)), .int (nI k)] [.int w, .int (nI (116 + 21 * ans A) + 1 + nI k), .ref 260] Sg L) := by
          intro w hw
          refine z_iastN dX10_sheet_119 m_v (show nI (116 + 21 * ans A) + 1 + nI k = nI (116 + 21 * ans A + 1 + k) from by rw [nI_1, nI_add]) (by omega) (by decide) ?_
          refine z_inc4 (w := 1) dX10_sheet_120 rfl (by decide) rfl ?_
          refine z_goto (tgt := 70) dX10_sheet_123 (by decide) ?_
          rw [nI_1]
          refine ih (k + 1) _ (by omega) (fun a q => by rw [zup_ne _ _ _ q]; exact l1 a q) (by rw [zup_at, upd_ne _ _ (by omega)]; exact l2) (fun p hp => ?_) (fun j hj => by rw [zup_at, upd_ne _ _ (by omega)]; exact l4 j hj)
          rw [zup_at]
          by_cases e : p = k
          · rw [e, upd_at, hw]
          · rw [upd_ne _ _ (by omega)]
            exact l3 p (by omega)
        refine z_iload dX10_sheet_70 rfl ?_
        refine z_aload_n dX10_sheet_72 rfl ?_
        refine z_getR fRX10_7 dX10_sheet_73 (by first | assumption | rfl) (by rfl) ?_
        refine z_iconst (v := 0) dX10_sheet_76 rfl ?_
        refine z_ialdN (j := 0) dX10_sheet_77 m_v (rfl) (by decide) (by decide) ?_
        rw [e0]
        refine z_icmp_ge (tgt := 126) dX10_sheet_78 (by decide) (fun hb => absurd hb (nI_ge hk1 (by omega))) (fun _ => ?_)
        refine z_aload_n dX10_sheet_81 rfl ?_
        refine z_getR fRX10_7 dX10_sheet_82 (by first | assumption | rfl) (by rfl) ?_
        refine z_iload_n dX10_sheet_85 rfl ?_
        refine z_iconst (v := 1) dX10_sheet_86 rfl ?_
        refine z_iadd dX10_sheet_87 ?_
        refine z_iload dX10_sheet_88 rfl ?_
        refine z_iadd dX10_sheet_90 ?_
        refine z_aload_n dX10_sheet_91 rfl ?_
        refine z_getR fRX10_43 dX10_sheet_92 (by first | assumption | rfl) (by rfl) ?_
        refine z_iload dX10_sheet_95 rfl ?_
        refine z_ialdN dX10_sheet_97 m_text (rfl) (by omega) (by decide) ?_
        rw [et]
        refine z_bipush (v := 45) dX10_sheet_98 rfl ?_
        by_cases e : bf k = 45
        · refine z_icmp_ne (tgt := 109) dX10_sheet_100 (by decide) (fun hb => absurd (by rw [e]; rfl) hb) (fun _ => ?_)
          refine z_sipush (v := -1009) dX10_sheet_103 rfl ?_
          refine z_goto (tgt := 119) dX10_sheet_106 (by decide) ?_
          exact put _ (by rw [tmk, if_pos e]; rfl)
        · have q1 : 65 ≤ bf k := by
            rcases hok.2 k hk1 with q | ⟨q, -⟩
            · exact absurd q e
            · exact q
          refine z_icmp_ne (tgt := 109) dX10_sheet_100 (by decide) (fun _ => ?_) (fun hb => absurd hb (fun z => e ((nI_eq (b := 45) (by omega) (by decide)).mp z)))
          refine z_aload_n dX10_sheet_109 rfl ?_
          refine z_getR fRX10_43 dX10_sheet_110 (by first | assumption | rfl) (by rfl) ?_
          refine z_iload dX10_sheet_113 rfl ?_
          refine z_ialdN dX10_sheet_115 m_text (rfl) (by omega) (by decide) ?_
          rw [et]
          refine z_bipush (v := 65) dX10_sheet_116 rfl ?_
          refine z_isub dX10_sheet_118 ?_
          rw [show nI (bf k) - 65 = nI (bf k - 65) from pk_sub (b := 65) q1]
          exact put _ (by rw [tmk, if_neg e]; rfl)
    have e3 : J 260 3 = nI (ans A) := by rw [e60]; exact hRK.1.2.2.2.1
    refine z_aload_n dX10_sheet_50 rfl ?_
    refine z_getR fRX10_7 dX10_sheet_51 (by first | assumption | rfl) (by rfl) ?_
    refine z_iconst (v := 3) dX10_sheet_54 rfl ?_
    refine z_ialdN (j := 3) dX10_sheet_55 m_v (rfl) (by decide) (by decide) ?_
    rw [e3]
    refine z_cS1s mX10_sheetAt gRX10_133 dX10_sheet_56 (q_sheetAt rfl) (by decide) (Nat.le_of_ble_eq_true rfl) (Nat.le_refl _) (Nat.le_refl _) ?_
    refine z_ist3 dX10_sheet_59 (by decide) rfl ?_
    refine z_aload_n dX10_sheet_60 rfl ?_
    refine z_getR fRX10_7 dX10_sheet_61 (by first | assumption | rfl) (by rfl) ?_
    refine z_iload_n dX10_sheet_64 rfl ?_
    refine z_iload_n dX10_sheet_65 rfl ?_
    rw [hx]
    refine z_iastN dX10_sheet_66 m_v (rfl) (by omega) (by decide) ?_
    refine z_iconst (v := 0) dX10_sheet_67 rfl ?_
    refine z_ist4 dX10_sheet_68 (by decide) rfl ?_
    rw [← hx]
    refine z_fg2 ?_
    exact loop (anq A) 0 _ (by omega) (fun a q => zup_ne _ _ _ q) (by rw [zup_at, upd_at, hx]) (fun p hp => absurd hp (Nat.not_lt_zero p)) (fun k hk => by rw [zup_at, upd_ne _ _ (by omega)])

