/-! ===== the model: choice -/
theorem q_choice {I : ZI} {A : AS} {hc : Nat} {Hh : Nat → AS} {tc : Nat} {bf : Nat → Nat} {x y z a : Int32} (h : RI I A hc Hh tc bf) (hD : aChoice A x y z a) : ZP yX10_choice cX10_choice 4 (some FieldType.int) 5 [.ref 259, .int x, .int y, .int z] Sg I (fun r J => r = some (.int a) ∧ (∀ a, a < 259 → J a = I a) ∧ RI J A hc Hh tc bf) := by
  have g0 := m_obj
  have hn := h.2.1.1.1
  have hnv := h.2.1.2.1
  refine ZSp.of (own := RX10) (L := [.ref 259, .int x, .int y, .int z]) mX10_choice rfl (List.all_eq_true.mp rfl) (Nat.le_of_ble_eq_true rfl) rfl (fun X hE hN => ?_)
  refine z_aload_n dX10_choice_0 rfl ?_
  refine z_iload_n dX10_choice_1 rfl ?_
  have bad : a = -1001 → (ZG X RX10 cX10_choice 4 5 0 0 0 0 16 [.ref 259, .int x, .int y, .int z] [] Sg I) := by
    rintro rfl
    refine z_sipush (v := -1001) dX10_choice_16 rfl ?_
    exact z_iret hE dX10_choice_19 ⟨rfl, rfl, fun _ _ => rfl, h⟩
  have bad2 : ∀ J, MFr I J → a = -1001 → (ZG X RX10 cX10_choice 4 5 0 0 0 0 59 [.ref 259, .int x, .int y, .int z] [] Sg J) := by
    intro J b1 he
    subst he
    refine z_sipush (v := -1001) dX10_choice_59 rfl ?_
    exact z_iret hE dX10_choice_62 ⟨rfl, rfl, fun a ha => b1.1 a (Or.inl ha), b1.ri h⟩
  by_cases hx : isV A x
  · obtain ⟨v, hv, rfl⟩ := hx
    refine z_cV1s mX10_isVersion gRX10_103 dX10_choice_2 (q_isV (r := 1) h.1 hnv (fun _ => rfl) (fun z => absurd ⟨v, hv, rfl⟩ z)) (by decide) (by first | assumption | rfl) (by rfl) (Nat.le_of_ble_eq_true rfl) (Nat.le_refl _) (Nat.le_refl _) ?_
    refine z_if_eq (tgt := 16) dX10_choice_5 (by decide) (fun hb => absurd hb (by decide)) (fun _ => ?_)
    refine z_aload_n dX10_choice_8 rfl ?_
    refine z_iload_n dX10_choice_9 rfl ?_
    by_cases hy : isQ A y
    · obtain ⟨p, hp, rfl⟩ := hy
      have hO := (Od_en (anq A) (aqd A) (asd A v)).1 p hp
      have hc5 := (h.2.1.1.2 _ hO).2.2.2.1
      refine z_cV1s mX10_isQuestion gRX10_57 dX10_choice_10 (q_isQ (r := 1) h.1 hn (fun _ => rfl) (fun z => absurd ⟨p, hp, rfl⟩ z)) (by decide) (by first | assumption | rfl) (by rfl) (Nat.le_of_ble_eq_true rfl) (Nat.le_refl _) (Nat.le_refl _) ?_
      refine z_if_ne (tgt := 20) dX10_choice_13 (by decide) (fun _ => ?_) (fun hb => absurd hb (by decide))
      refine z_aload_n dX10_choice_20 rfl ?_
      refine z_iload_n dX10_choice_21 rfl ?_
      refine z_cV1p mX10_opens gRX10_106 dX10_choice_22 (q_opens h.1 h.2.1 rfl hv) (by decide) (by first | assumption | rfl) (by rfl) (Nat.le_of_ble_eq_true rfl) (Nat.le_refl _) (Nat.le_refl _) (fun r J hq => ?_)
      obtain ⟨rfl, b1, b2⟩ := hq
      have hRJ := (b1.ri h).1
      refine z_iload_n dX10_choice_25 rfl ?_
      refine z_iconst (v := 0) dX10_choice_26 rfl ?_
      refine z_aload_n dX10_choice_27 rfl ?_
      refine z_aload_n dX10_choice_28 rfl ?_
      refine z_getR fRX10_16 dX10_choice_29 (by first | assumption | rfl) (by rfl) ?_
      refine z_iload_n dX10_choice_32 rfl ?_
      refine z_ialdN dX10_choice_33 m_order (rfl) (by omega) (by decide) ?_
      rw [b2.1 p hp]
      refine z_iconst (v := 4) dX10_choice_34 rfl ?_
      refine z_cV2s mX10_of gRX10_61 dX10_choice_35 (q_of hRJ hn rfl (show (4 : Int32) = nI 4 from rfl) hO (by decide)) (by decide) (by first | assumption | rfl) (by rfl) (Nat.le_of_ble_eq_true rfl) (Nat.le_refl _) (Nat.le_refl _) ?_
      refine z_iconst (v := 1) dX10_choice_38 rfl ?_
      refine z_isub dX10_choice_39 ?_
      by_cases hz : ∃ k, k < aqd A (Od (anq A) (aqd A) (asd A v) p) 4 ∧ z = nI k
      · refine z_cS3s mX10_in gRX10_50 dX10_choice_40 (q_dom2 (r := 1) (show aqd A (Od (anq A) (aqd A) (asd A v) p) 4 ≤ 64 by omega) (fun _ => rfl) (fun q => absurd hz q)) (by decide) (Nat.le_of_ble_eq_true rfl) (Nat.le_refl _) (Nat.le_refl _) ?_
        refine z_if_eq (tgt := 59) dX10_choice_43 (by decide) (fun hb => absurd hb (by decide)) (fun _ => ?_)
        obtain ⟨k, hk, rfl⟩ := hz
        have ha : a = nI (vC A v p k) := by
          rcases hD with ⟨v', p', k', hv', e1, hp', e2, hk', e3, rfl⟩ | ⟨hb, -⟩
          · have e1 := (nI_eq (by omega) (by omega)).mp e1
            have e2 := (nI_eq (by omega) (by omega)).mp e2
            subst e1
            subst e2
            have hk5 : aqd A (vO A v p) 4 ≤ 5 := hc5
            have e3 := (nI_eq (by omega) (by omega)).mp e3
            subst e3
            rfl
          · rcases hb with hb | hb | ⟨v', p', hv', e1, hp', e2, hb⟩
            · exact absurd ⟨v, hv, rfl⟩ hb
            · exact absurd ⟨p, hp, rfl⟩ hb
            · have e1 := (nI_eq (by omega) (by omega)).mp e1
              have e2 := (nI_eq (by omega) (by omega)).mp e2
              subst e1
              subst e2
              exact absurd ⟨k, hk, rfl⟩ hb
        refine z_aload_n dX10_choice_46 rfl ?_
        refine z_getR fRX10_22 dX10_choice_47 (by first | assumption | rfl) (by rfl) ?_
        refine z_iconst (v := 5) dX10_choice_50 rfl ?_
        refine z_iload_n dX10_choice_51 rfl ?_
        refine z_imul dX10_choice_52 ?_
        refine z_iload_n dX10_choice_53 rfl ?_
        refine z_iadd dX10_choice_54 ?_
        refine z_ialdN dX10_choice_55 m_chat (show (5 : Int32) * nI p + nI k = nI (5 * p + k) from by rw [← nI_add, ← pk_mul]; rfl) (by omega) (by decide) ?_
        rw [b2.2.2 p hp k hk]
        refine z_goto (tgt := 62) dX10_choice_56 (by decide) ?_
        exact z_iret hE dX10_choice_62 ⟨rfl, by rw [ha]; rfl, fun a ha => b1.1 a (Or.inl ha), b1.ri h⟩
      · refine z_cS3s mX10_in gRX10_50 dX10_choice_40 (q_dom2 (r := 0) (show aqd A (Od (anq A) (aqd A) (asd A v) p) 4 ≤ 64 by omega) (fun q => absurd q hz) (fun _ => rfl)) (by decide) (Nat.le_of_ble_eq_true rfl) (Nat.le_refl _) (Nat.le_refl _) ?_
        refine z_if_eq (tgt := 59) dX10_choice_43 (by decide) (fun _ => ?_) (fun hb => absurd (rfl) hb)
        refine bad2 J b1 ?_
        rcases hD with ⟨v', p', k', hv', e1, hp', e2, hk', e3, rfl⟩ | ⟨hb, he⟩
        · have e1 := (nI_eq (by omega) (by omega)).mp e1
          have e2 := (nI_eq (by omega) (by omega)).mp e2
          subst e1
          subst e2
          exact absurd ⟨k', hk', e3⟩ hz
        · exact he
    · refine z_cV1s mX10_isQuestion gRX10_57 dX10_choice_10 (q_isQ (r := 0) h.1 hn (fun z => absurd z hy) (fun _ => rfl)) (by decide) (by first | assumption | rfl) (by rfl) (Nat.le_of_ble_eq_true rfl) (Nat.le_refl _) (Nat.le_refl _) ?_
      refine z_if_ne (tgt := 20) dX10_choice_13 (by decide) (fun hb => absurd (rfl) hb) (fun _ => ?_)
      refine bad ?_
      rcases hD with ⟨v', p', k', hv', e1, hp', e2, hk', e3, rfl⟩ | ⟨hb, he⟩
      · exact absurd ⟨p', hp', e2⟩ hy
      · exact he
  · refine z_cV1s mX10_isVersion gRX10_103 dX10_choice_2 (q_isV (r := 0) h.1 hnv (fun z => absurd z hx) (fun _ => rfl)) (by decide) (by first | assumption | rfl) (by rfl) (Nat.le_of_ble_eq_true rfl) (Nat.le_refl _) (Nat.le_refl _) ?_
    refine z_if_eq (tgt := 16) dX10_choice_5 (by decide) (fun _ => ?_) (fun hb => absurd (rfl) hb)
    refine bad ?_
    rcases hD with ⟨v', p', k', hv', e1, hp', e2, hk', e3, rfl⟩ | ⟨hb, he⟩
    · exact absurd ⟨v', hv', e1⟩ hx
    · exact he

