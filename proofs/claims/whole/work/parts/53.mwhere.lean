/-! ===== the model: where, choice -/
theorem MFr.ri {I J : ZI} {A : AS} {hc : Nat} {Hh : Nat → AS} {tc : Nat} {bf : Nat → Nat} (h : RI I A hc Hh tc bf) (f : MFr I J) : RI J A hc Hh tc bf :=
  h.keep (f.1 260 (by omega)) (f.1 261 (by omega)) (f.1 271 (by omega)) (f.2 2 (by decide) (by decide)) (f.2 16 (by decide) (by decide))
theorem q_placeOf {I : ZI} {A : AS} {v p : Nat} {x : Int32} (hV : AV A) (h : MPf I A (asd A v)) (hp : p < anq A) (hx : x = nI (vO A v p)) : ZE yX10_placeOf cX10_placeOf 3 (some FieldType.int) 0 [.ref 259, .int x] Sg I (some (.int (nI p))) I := by
  have g0 := m_obj
  have hn := hV.1.1
  have hO := Od_en (anq A) (aqd A) (asd A v)
  subst hx
  refine ZSp.of (own := RX10) (L := [.ref 259, .int (nI (vO A v p)), zj]) mX10_placeOf rfl (List.all_eq_true.mp rfl) (Nat.le_of_ble_eq_true rfl) rfl (fun X hE hN => ?_)
  have loop : ∀ (m k : Nat), k + m = p → (ZG X RX10 cX10_placeOf 3 0 0 0 0 0 2 [.ref 259, .int (nI (vO A v p)), .int (nI k)] [] Sg I) := by
    intro m
    induction m with
    | zero =>
      intro k hk
      have e : k = p := by omega
      subst e
      refine z_aload_n dX10_placeOf_2 rfl ?_
      refine z_getR fRX10_16 dX10_placeOf_3 (by first | assumption | rfl) (by rfl) ?_
      refine z_iload_n dX10_placeOf_6 rfl ?_
      refine z_ialdN dX10_placeOf_7 m_order (rfl) (by omega) (by decide) ?_
      rw [h.1 k hp]
      refine z_iload_n dX10_placeOf_8 rfl ?_
      refine z_icmp_eq (tgt := 18) dX10_placeOf_9 (by decide) (fun _ => ?_) (fun hb => absurd (rfl) hb)
      refine z_iload_n dX10_placeOf_18 rfl ?_
      exact z_eireturn hE dX10_placeOf_19 rfl rfl
    | succ m ih =>
      intro k hk
      have hk1 : k < anq A := by omega
      have a1 := hO.1 k hk1
      have a2 := hO.1 p hp
      refine z_aload_n dX10_placeOf_2 rfl ?_
      refine z_getR fRX10_16 dX10_placeOf_3 (by first | assumption | rfl) (by rfl) ?_
      refine z_iload_n dX10_placeOf_6 rfl ?_
      refine z_ialdN dX10_placeOf_7 m_order (rfl) (by omega) (by decide) ?_
      rw [h.1 k hk1]
      refine z_iload_n dX10_placeOf_8 rfl ?_
      refine z_icmp_eq (tgt := 18) dX10_placeOf_9 (by decide) (fun hb => absurd hb (fun z => absurd (hO.inj hk1 hp ((nI_eq (by omega) (by have : vO A v p < anq A := a2; omega)).mp z)) (by omega))) (fun _ => ?_)
      refine z_inc2 (w := 1) dX10_placeOf_12 rfl (by decide) rfl ?_
      refine z_goto (tgt := 2) dX10_placeOf_15 (by decide) ?_
      rw [nI_1]
      exact ih (k + 1) (by omega)
  refine z_iconst (v := 0) dX10_placeOf_0 rfl ?_
  refine z_ist2 dX10_placeOf_1 (by decide) rfl ?_
  exact loop p 0 (by omega)
theorem q_where {I : ZI} {A : AS} {hc : Nat} {Hh : Nat → AS} {tc : Nat} {bf : Nat → Nat} {x y a : Int32} (h : RI I A hc Hh tc bf) (hD : aWhere A x y a) : ZP yX10_where cX10_where 3 (some FieldType.int) 5 [.ref 259, .int x, .int y] Sg I (fun r J => r = some (.int a) ∧ (∀ a, a < 259 → J a = I a) ∧ RI J A hc Hh tc bf) := by
  have g0 := m_obj
  have hn := h.2.1.1.1
  have hnv := h.2.1.2.1
  refine ZSp.of (own := RX10) (L := [.ref 259, .int x, .int y]) mX10_where rfl (List.all_eq_true.mp rfl) (Nat.le_of_ble_eq_true rfl) rfl (fun X hE hN => ?_)
  refine z_aload_n dX10_where_0 rfl ?_
  refine z_iload_n dX10_where_1 rfl ?_
  have bad : a = -1001 → (ZG X RX10 cX10_where 3 5 0 0 0 0 16 [.ref 259, .int x, .int y] [] Sg I) := by
    rintro rfl
    refine z_sipush (v := -1001) dX10_where_16 rfl ?_
    exact z_iret hE dX10_where_19 ⟨rfl, rfl, fun _ _ => rfl, h⟩
  rcases hD with ⟨v, p, hv, rfl, hp, rfl, rfl⟩ | ⟨hb, he⟩
  · have hO := (Od_en (anq A) (aqd A) (asd A v)).1 p hp
    refine z_cV1s mX10_isVersion gRX10_103 dX10_where_2 (q_isV (r := 1) h.1 hnv (fun _ => rfl) (fun z => absurd ⟨v, hv, rfl⟩ z)) (by decide) (by first | assumption | rfl) (by rfl) (Nat.le_of_ble_eq_true rfl) (Nat.le_refl _) (Nat.le_refl _) ?_
    refine z_if_eq (tgt := 16) dX10_where_5 (by decide) (fun hb => absurd hb (by decide)) (fun _ => ?_)
    refine z_aload_n dX10_where_8 rfl ?_
    refine z_iload_n dX10_where_9 rfl ?_
    refine z_cV1s mX10_isQuestion gRX10_57 dX10_where_10 (q_isQ (r := 1) h.1 hn (fun _ => rfl) (fun z => absurd ⟨vO A v p, hO, rfl⟩ z)) (by decide) (by first | assumption | rfl) (by rfl) (Nat.le_of_ble_eq_true rfl) (Nat.le_refl _) (Nat.le_refl _) ?_
    refine z_if_ne (tgt := 20) dX10_where_13 (by decide) (fun _ => ?_) (fun hb => absurd hb (by decide))
    refine z_aload_n dX10_where_20 rfl ?_
    refine z_iload_n dX10_where_21 rfl ?_
    refine z_cV1p mX10_opens gRX10_106 dX10_where_22 (q_opens h.1 h.2.1 rfl hv) (by decide) (by first | assumption | rfl) (by rfl) (Nat.le_of_ble_eq_true rfl) (Nat.le_refl _) (Nat.le_refl _) (fun r J hq => ?_)
    obtain ⟨rfl, b1, b2⟩ := hq
    refine z_aload_n dX10_where_25 rfl ?_
    refine z_iload_n dX10_where_26 rfl ?_
    refine z_cV1s mX10_placeOf gRX10_115 dX10_where_27 (q_placeOf h.2.1 b2 hp rfl) (by decide) (by first | assumption | rfl) (by rfl) (Nat.le_of_ble_eq_true rfl) (Nat.le_refl _) (Nat.le_refl _) ?_
    exact z_iret hE dX10_where_30 ⟨rfl, rfl, fun a ha => b1.1 a (Or.inl ha), b1.ri h⟩
  · by_cases hx : isV A x
    · have hy : ¬ isQ A y := hb.elim (fun z => absurd hx z) id
      refine z_cV1s mX10_isVersion gRX10_103 dX10_where_2 (q_isV (r := 1) h.1 hnv (fun _ => rfl) (fun z => absurd hx z)) (by decide) (by first | assumption | rfl) (by rfl) (Nat.le_of_ble_eq_true rfl) (Nat.le_refl _) (Nat.le_refl _) ?_
      refine z_if_eq (tgt := 16) dX10_where_5 (by decide) (fun hb => absurd hb (by decide)) (fun _ => ?_)
      refine z_aload_n dX10_where_8 rfl ?_
      refine z_iload_n dX10_where_9 rfl ?_
      refine z_cV1s mX10_isQuestion gRX10_57 dX10_where_10 (q_isQ (r := 0) h.1 hn (fun z => absurd z hy) (fun _ => rfl)) (by decide) (by first | assumption | rfl) (by rfl) (Nat.le_of_ble_eq_true rfl) (Nat.le_refl _) (Nat.le_refl _) ?_
      refine z_if_ne (tgt := 20) dX10_where_13 (by decide) (fun hb => absurd (rfl) hb) (fun _ => ?_)
      exact bad he
    · refine z_cV1s mX10_isVersion gRX10_103 dX10_where_2 (q_isV (r := 0) h.1 hnv (fun z => absurd z hx) (fun _ => rfl)) (by decide) (by first | assumption | rfl) (by rfl) (Nat.le_of_ble_eq_true rfl) (Nat.le_refl _) (Nat.le_refl _) ?_
      refine z_if_eq (tgt := 16) dX10_where_5 (by decide) (fun _ => ?_) (fun hb => absurd (rfl) hb)
      exact bad he

