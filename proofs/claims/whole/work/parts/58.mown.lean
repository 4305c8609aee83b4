/-! ===== the model: a sheet's own counts and points -/
theorem q_countsOwn {I : ZI} {A : AS} {hc : Nat} {Hh : Nat → AS} {tc : Nat} {bf : Nat → Nat} {t : Nat} {x : Int32} (h : RI I A hc Hh tc bf) (hx : x = nI t) (ht : t < ans A) : ZP yX10_countsOwn cX10_countsOwn 2 (some FieldType.int) 5 [.ref 259, .int x] Sg I (fun r J => r = some (.int (nI (100 * shR A t + shW A t))) ∧ MFr I J) := by
  have g0 := m_obj
  have hns := h.2.1.2.2.2.2.1
  have hsv := (h.2.1.2.2.2.2.2 t ht).1
  subst hx
  refine ZSp.of (own := RX10) (L := [.ref 259, .int (nI t)]) mX10_countsOwn rfl (List.all_eq_true.mp rfl) (Nat.le_of_ble_eq_true rfl) rfl (fun X hE hN => ?_)
  refine z_aload_n dX10_countsOwn_0 rfl ?_
  refine z_aload_n dX10_countsOwn_1 rfl ?_
  refine z_getR fRX10_7 dX10_countsOwn_2 (by first | assumption | rfl) (by rfl) ?_
  refine z_iload_n dX10_countsOwn_5 rfl ?_
  refine z_cS1s mX10_sheetAt gRX10_133 dX10_countsOwn_6 (q_sheetAt rfl) (by decide) (Nat.le_of_ble_eq_true rfl) (Nat.le_refl _) (Nat.le_refl _) ?_
  refine z_ialdN dX10_countsOwn_9 m_v (rfl) (by omega) (by decide) ?_
  rw [(h.1.2.2.2.2.2.2 t ht).1]
  refine z_cV1p mX10_opens gRX10_106 dX10_countsOwn_10 (q_opens h.1 h.2.1 rfl hsv) (by decide) (by first | assumption | rfl) (by rfl) (Nat.le_of_ble_eq_true rfl) (Nat.le_refl _) (Nat.le_refl _) (fun r J hq => ?_)
  obtain ⟨rfl, b1, b2⟩ := hq
  refine z_aload_n dX10_countsOwn_13 rfl ?_
  refine z_iload_n dX10_countsOwn_14 rfl ?_
  have hKf : ∀ p, p < anq A → J 263 p = nI (vK A (asv A t) p) ∧ vK A (asv A t) p < 5 := by
    intro p hp
    have c1 := (Ky_lt (seed := asd A (asv A t)) h.2.1.1 hp).1
    have c2 := (h.2.1.1.2 _ ((Od_en (anq A) (aqd A) (asd A (asv A t))).1 p hp)).2.2.2.1
    exact ⟨b2.2.1 p hp, Nat.lt_of_lt_of_le c1 c2⟩
  refine z_cV1s mX10_counts gRX10_136 dX10_countsOwn_15 (q_counts (b1.ri h).1 h.2.1 rfl ht hKf) (by decide) (by first | assumption | rfl) (by rfl) (Nat.le_of_ble_eq_true rfl) (Nat.le_refl _) (Nat.le_refl _) ?_
  exact z_iret hE dX10_countsOwn_18 ⟨rfl, rfl, b1⟩

