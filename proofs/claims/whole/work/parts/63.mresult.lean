/-! ===== the model: an answer, a rank, a result ===== -/
theorem MFr.refl (I : ZI) : MFr I I := ⟨fun _ _ => rfl, fun _ _ _ => rfl⟩
theorem MFr.trans {I J K : ZI} (a : MFr I J) (b : MFr J K) : MFr I K := ⟨fun k hk => (b.1 k hk).trans (a.1 k hk), fun k q1 q2 => (b.2 k q1 q2).trans (a.2 k q1 q2)⟩
theorem nI_m1 {k : Nat} (hk : k < 5) : nI k ≠ -1 := by
  match k, hk with
  | 0, _ => decide
  | 1, _ => decide
  | 2, _ => decide
  | 3, _ => decide
  | 4, _ => decide
theorem nI_m1009 {k : Nat} (hk : k < 5) : nI k ≠ -1009 := by
  match k, hk with
  | 0, _ => decide
  | 1, _ => decide
  | 2, _ => decide
  | 3, _ => decide
  | 4, _ => decide
theorem an_cases {A : AS} {t p : Nat} (hV : AV A) (ht : t < ans A) (hp : p < anq A) : (amk A t p = none ∧ pkA A t (vO A (asv A t) p) = -1 ∧ anF A t (vO A (asv A t) p) = -1009) ∨ ∃ k, amk A t p = some k ∧ k < aqd A (vO A (asv A t) p) 4 ∧ vC A (asv A t) p k < 5 ∧ pkA A t (vO A (asv A t) p) = nI (vC A (asv A t) p k) ∧ anF A t (vO A (asv A t) p) = nI (vC A (asv A t) p k) := by
  have hO := Od_en (anq A) (aqd A) (asd A (asv A t))
  have hpl : plf (vO A (asv A t)) (vO A (asv A t) p) (anq A) = p := plf_eq hO hp
  have e : pkA A t (vO A (asv A t) p) = pkI (vC A (asv A t) p) (amk A t p) := by rw [pkA, hpl]
  cases em : amk A t p with
  | none =>
    rw [em] at e
    have e2 : pkA A t (vO A (asv A t) p) = -1 := e
    exact Or.inl ⟨rfl, e2, by rw [anF, if_pos e2]⟩
  | some k =>
    rw [em] at e
    have hk : k < aqd A (vO A (asv A t) p) 4 := (hV.2.2.2.2.2 t ht).2 p hp k em
    have hC : vC A (asv A t) p k < aqd A (vO A (asv A t) p) 4 := Ch_lt hk
    have h5 : aqd A (vO A (asv A t) p) 4 ≤ 5 := (hV.1.2 _ (hO.1 p hp)).2.2.2.1
    have hC5 : vC A (asv A t) p k < 5 := by omega
    have e2 : pkA A t (vO A (asv A t) p) = nI (vC A (asv A t) p k) := e
    exact Or.inr ⟨k, rfl, hk, hC5, e2, by rw [anF, e2, if_neg (nI_m1 hC5)]⟩
theorem an_two {A : AS} {t q : Nat} (hV : AV A) (ht : t < ans A) (hq : q < anq A) : (pkA A t q = -1 ∧ anF A t q = -1009) ∨ ∃ c, c < 5 ∧ pkA A t q = nI c ∧ anF A t q = nI c := by
  obtain ⟨p, hp, rfl⟩ := (Od_en (anq A) (aqd A) (asd A (asv A t))).2.1 q hq
  rcases an_cases hV ht hp with ⟨-, a, b⟩ | ⟨k, -, -, c, a, b⟩
  · exact Or.inl ⟨a, b⟩
  · exact Or.inr ⟨_, c, a, b⟩
theorem an_eq {A : AS} {t q c : Nat} (hV : AV A) (ht : t < ans A) (hq : q < anq A) (hc : c < 5) : anF A t q = nI c ↔ pkA A t q = nI c := by
  rcases an_two hV ht hq with ⟨a, b⟩ | ⟨d, -, a, b⟩
  · rw [a, b]
    exact ⟨fun z => absurd z.symm (nI_m1009 hc), fun z => absurd z.symm (nI_m1 hc)⟩
  · rw [a, b]
theorem an_none {A : AS} {t q : Nat} (hV : AV A) (ht : t < ans A) (hq : q < anq A) : anF A t q = -1009 ↔ pkA A t q = -1 := by
  rcases an_two hV ht hq with ⟨a, b⟩ | ⟨d, d5, a, b⟩
  · rw [a, b]
    exact ⟨fun _ => rfl, fun _ => rfl⟩
  · rw [a, b]
    exact ⟨fun z => absurd z (nI_m1009 d5), fun z => absurd z (nI_m1 d5)⟩
theorem an_same {A : AS} {s t q : Nat} (hV : AV A) (hs : s < ans A) (ht : t < ans A) (hq : q < anq A) : anF A s q = anF A t q ↔ pkA A s q = pkA A t q := by
  rcases an_two hV ht hq with ⟨a, b⟩ | ⟨d, d5, a, b⟩
  · rw [a, b]
    exact an_none hV hs hq
  · rw [a, b]
    exact an_eq hV hs hq d5
theorem q_answerOf {I : ZI} {A : AS} {hc : Nat} {Hh : Nat → AS} {tc : Nat} {bf : Nat → Nat} {t q : Nat} {x y : Int32} (h : RI I A hc Hh tc bf) (hx : x = nI t) (ht : t < ans A) (hy : y = nI q) (hq : q < anq A) : ZP yX10_answerOf cX10_answerOf 5 (some FieldType.int) 5 [.ref 259, .int x, .int y] Sg I (fun r J => r = some (.int (anF A t q)) ∧ MFr I J) := by
  have g0 := m_obj
  have hn := h.2.1.1.1
  have hns := h.2.1.2.2.2.2.1
  have hsv := (h.2.1.2.2.2.2.2 t ht).1
  subst hx
  subst hy
  obtain ⟨p, hp, rfl⟩ := (Od_en (anq A) (aqd A) (asd A (asv A t))).2.1 q hq
  refine ZSp.of (own := RX10) (L := [.ref 259, .int (nI t), .int (nI (Od (anq A) (aqd A) (asd A (asv A t)) p)), zj, zj]) mX10_answerOf rfl (List.all_eq_true.mp rfl) (Nat.le_of_ble_eq_true rfl) rfl (fun X hE hN => ?_)
  refine z_aload_n dX10_answerOf_0 rfl ?_
  refine z_aload_n dX10_answerOf_1 rfl ?_
  refine z_getR fRX10_7 dX10_answerOf_2 (by first | assumption | rfl) (by rfl) ?_
  refine z_iload_n dX10_answerOf_5 rfl ?_
  refine z_cS1s mX10_sheetAt gRX10_133 dX10_answerOf_6 (q_sheetAt rfl) (by decide) (Nat.le_of_ble_eq_true rfl) (Nat.le_refl _) (Nat.le_refl _) ?_
  refine z_ialdN dX10_answerOf_9 m_v (rfl) (by omega) (by decide) ?_
  rw [(h.1.2.2.2.2.2.2 t ht).1]
  refine z_cV1p mX10_opens gRX10_106 dX10_answerOf_10 (q_opens h.1 h.2.1 rfl hsv) (by decide) (by first | assumption | rfl) (by rfl) (Nat.le_of_ble_eq_true rfl) (Nat.le_refl _) (Nat.le_refl _) (fun r J hq => ?_)
  obtain ⟨rfl, b1, b2⟩ := hq
  have hRJ := b1.ri h
  refine z_aload_n dX10_answerOf_13 rfl ?_
  refine z_iload_n dX10_answerOf_14 rfl ?_
  refine z_cV1s mX10_placeOf gRX10_115 dX10_answerOf_15 (q_placeOf h.2.1 b2 hp rfl) (by decide) (by first | assumption | rfl) (by rfl) (Nat.le_of_ble_eq_true rfl) (Nat.le_refl _) (Nat.le_refl _) ?_
  refine z_ist3 dX10_answerOf_18 (by decide) rfl ?_
  refine z_aload_n dX10_answerOf_19 rfl ?_
  refine z_getR fRX10_7 dX10_answerOf_20 (by first | assumption | rfl) (by rfl) ?_
  refine z_iload_n dX10_answerOf_23 rfl ?_
  refine z_cS1s mX10_sheetAt gRX10_133 dX10_answerOf_24 (q_sheetAt rfl) (by decide) (Nat.le_of_ble_eq_true rfl) (Nat.le_refl _) (Nat.le_refl _) ?_
  refine z_iconst (v := 1) dX10_answerOf_27 rfl ?_
  refine z_iadd dX10_answerOf_28 ?_
  refine z_iload_n dX10_answerOf_29 rfl ?_
  refine z_iadd dX10_answerOf_30 ?_
  refine z_ialdN dX10_answerOf_31 m_v (show nI (116 + 21 * t) + 1 + nI p = nI (116 + 21 * t + 1 + p) from by rw [nI_1, nI_add]) (by omega) (by decide) ?_
  rw [(hRJ.1.2.2.2.2.2.2 t ht).2 p hp]
  rcases an_cases h.2.1 ht hp with ⟨em, -, ea⟩ | ⟨k, em, hk, hC5, -, ea⟩
  · have ea : anF A t (Od (anq A) (aqd A) (asd A (asv A t)) p) = -1009 := ea
    rw [em]
    refine z_ist4 dX10_answerOf_32 (by decide) rfl ?_
    refine z_iload dX10_answerOf_34 rfl ?_
    refine z_sipush (v := -1009) dX10_answerOf_36 rfl ?_
    refine z_icmp_ne (tgt := 48) dX10_answerOf_39 (by decide) (fun hb => absurd (rfl) hb) (fun _ => ?_)
    refine z_sipush (v := -1009) dX10_answerOf_42 rfl ?_
    refine z_goto (tgt := 59) dX10_answerOf_45 (by decide) ?_
    exact z_iret hE dX10_answerOf_59 ⟨rfl, by rw [ea], b1⟩
  · have h5 : aqd A (vO A (asv A t) p) 4 ≤ 5 := (h.2.1.1.2 _ ((Od_en (anq A) (aqd A) (asd A (asv A t))).1 p hp)).2.2.2.1
    have ea : anF A t (Od (anq A) (aqd A) (asd A (asv A t)) p) = nI (vC A (asv A t) p k) := ea
    have em2 : mrk (some k) = nI k := rfl
    rw [em, em2]
    refine z_ist4 dX10_answerOf_32 (by decide) rfl ?_
    refine z_iload dX10_answerOf_34 rfl ?_
    refine z_sipush (v := -1009) dX10_answerOf_36 rfl ?_
    refine z_icmp_ne (tgt := 48) dX10_answerOf_39 (by decide) (fun _ => ?_) (fun hb => absurd hb (nI_m1009 (show k < 5 by omega)))
    refine z_aload_n dX10_answerOf_48 rfl ?_
    refine z_getR fRX10_22 dX10_answerOf_49 (by first | assumption | rfl) (by rfl) ?_
    refine z_iconst (v := 5) dX10_answerOf_52 rfl ?_
    refine z_iload_n dX10_answerOf_53 rfl ?_
    refine z_imul dX10_answerOf_54 ?_
    refine z_iload dX10_answerOf_55 rfl ?_
    refine z_iadd dX10_answerOf_57 ?_
    refine z_ialdN dX10_answerOf_58 m_chat (show (5 : Int32) * nI p + nI k = nI (5 * p + k) from by rw [← nI_add, ← pk_mul]; rfl) (by omega) (by decide) ?_
    rw [b2.2.2 p hp k hk]
    exact z_iret hE dX10_answerOf_59 ⟨rfl, by rw [ea]; first | done | rfl, b1⟩
theorem q_answer {I : ZI} {A : AS} {hc : Nat} {Hh : Nat → AS} {tc : Nat} {bf : Nat → Nat} {x y a : Int32} (h : RI I A hc Hh tc bf) (hD : aAnswer A x y a) : ZP yX10_answer cX10_answer 3 (some FieldType.int) 6 [.ref 259, .int x, .int y] Sg I (fun r J => r = some (.int a) ∧ (∀ a, a < 259 → J a = I a) ∧ RI J A hc Hh tc bf) := by
  have g0 := m_obj
  have hn := h.2.1.1.1
  have hns := h.2.1.2.2.2.2.1
  refine ZSp.of (own := RX10) (L := [.ref 259, .int x, .int y]) mX10_answer rfl (List.all_eq_true.mp rfl) (Nat.le_of_ble_eq_true rfl) rfl (fun X hE hN => ?_)
  refine z_aload_n dX10_answer_0 rfl ?_
  refine z_iload_n dX10_answer_1 rfl ?_
  have bad : a = -1001 → (ZG X RX10 cX10_answer 3 6 0 0 0 0 25 [.ref 259, .int x, .int y] [] Sg I) := by
    rintro rfl
    refine z_sipush (v := -1001) dX10_answer_25 rfl ?_
    exact z_iret hE dX10_answer_28 ⟨rfl, rfl, fun _ _ => rfl, h⟩
  rcases hD with ⟨t, q, ht, rfl, hq, rfl, rfl⟩ | ⟨hb, he⟩
  · refine z_cV1s mX10_isSheet gRX10_151 dX10_answer_2 (q_isT (r := 1) h.1 hns (fun _ => rfl) (fun z => absurd ⟨t, ht, rfl⟩ z)) (by decide) (by first | assumption | rfl) (by rfl) (Nat.le_of_ble_eq_true rfl) (Nat.le_refl _) (Nat.le_refl _) ?_
    refine z_if_eq (tgt := 25) dX10_answer_5 (by decide) (fun hb => absurd hb (by decide)) (fun _ => ?_)
    refine z_aload_n dX10_answer_8 rfl ?_
    refine z_iload_n dX10_answer_9 rfl ?_
    refine z_cV1s mX10_isQuestion gRX10_57 dX10_answer_10 (q_isQ (r := 1) h.1 hn (fun _ => rfl) (fun z => absurd ⟨q, hq, rfl⟩ z)) (by decide) (by first | assumption | rfl) (by rfl) (Nat.le_of_ble_eq_true rfl) (Nat.le_refl _) (Nat.le_refl _) ?_
    refine z_if_eq (tgt := 25) dX10_answer_13 (by decide) (fun hb => absurd hb (by decide)) (fun _ => ?_)
    refine z_aload_n dX10_answer_16 rfl ?_
    refine z_iload_n dX10_answer_17 rfl ?_
    refine z_iload_n dX10_answer_18 rfl ?_
    refine z_cV2p mX10_answerOf gRX10_157 dX10_answer_19 (q_answerOf h rfl ht rfl hq) (by decide) (by first | assumption | rfl) (by rfl) (Nat.le_of_ble_eq_true rfl) (Nat.le_refl _) (Nat.le_refl _) (fun r J hq => ?_)
    obtain ⟨rfl, b1⟩ := hq
    refine z_goto (tgt := 28) dX10_answer_22 (by decide) ?_
    exact z_iret hE dX10_answer_28 ⟨rfl, rfl, fun a ha => b1.1 a (Or.inl ha), b1.ri h⟩
  · by_cases hx : isT A x
    · have hy : ¬ isQ A y := hb.elim (fun z => absurd hx z) id
      refine z_cV1s mX10_isSheet gRX10_151 dX10_answer_2 (q_isT (r := 1) h.1 hns (fun _ => rfl) (fun z => absurd hx z)) (by decide) (by first | assumption | rfl) (by rfl) (Nat.le_of_ble_eq_true rfl) (Nat.le_refl _) (Nat.le_refl _) ?_
      refine z_if_eq (tgt := 25) dX10_answer_5 (by decide) (fun hb => absurd hb (by decide)) (fun _ => ?_)
      refine z_aload_n dX10_answer_8 rfl ?_
      refine z_iload_n dX10_answer_9 rfl ?_
      refine z_cV1s mX10_isQuestion gRX10_57 dX10_answer_10 (q_isQ (r := 0) h.1 hn (fun z => absurd z hy) (fun _ => rfl)) (by decide) (by first | assumption | rfl) (by rfl) (Nat.le_of_ble_eq_true rfl) (Nat.le_refl _) (Nat.le_refl _) ?_
      refine z_if_eq (tgt := 25) dX10_answer_13 (by decide) (fun _ => ?_) (fun hb => absurd (rfl) hb)
      exact bad he
    · refine z_cV1s mX10_isSheet gRX10_151 dX10_answer_2 (q_isT (r := 0) h.1 hns (fun z => absurd z hx) (fun _ => rfl)) (by decide) (by first | assumption | rfl) (by rfl) (Nat.le_of_ble_eq_true rfl) (Nat.le_refl _) (Nat.le_refl _) ?_
      refine z_if_eq (tgt := 25) dX10_answer_5 (by decide) (fun _ => ?_) (fun hb => absurd (rfl) hb)
      exact bad he
theorem q_rank {I : ZI} {A : AS} {hc : Nat} {Hh : Nat → AS} {tc : Nat} {bf : Nat → Nat} {t : Nat} {x : Int32} (h : RI I A hc Hh tc bf) (hx : x = nI t) (ht : t < ans A) : ZP yX10_rank cX10_rank 5 (some FieldType.int) 7 [.ref 259, .int x] Sg I (fun r J => r = some (.int (nI (1 + rk (ptA A) (ptA A t) (ans A)))) ∧ MFr I J) := by
  have g0 := m_obj
  have hns := h.2.1.2.2.2.2.1
  subst hx
  refine ZSp.of (own := RX10) (L := [.ref 259, .int (nI t), zj, zj, zj]) mX10_rank rfl (List.all_eq_true.mp rfl) (Nat.le_of_ble_eq_true rfl) rfl (fun X hE hN => ?_)
  have loop : ∀ (m k : Nat) (K : ZI), k + m = ans A → MFr I K → (ZG X RX10 cX10_rank 5 7 0 0 0 0 11 [.ref 259, .int (nI t), .int (ptA A t), .int (nI (1 + rk (ptA A) (ptA A t) k)), .int (nI k)] [] Sg K) := by
    intro m
    induction m with
    | zero =>
      intro k K hk c1
      have e : k = ans A := by omega
      subst e
      have hRK := c1.ri h
      refine z_iload dX10_rank_11 rfl ?_
      refine z_aload_n dX10_rank_13 rfl ?_
      refine z_getR fRX10_7 dX10_rank_14 (by first | assumption | rfl) (by rfl) ?_
      refine z_iconst (v := 3) dX10_rank_17 rfl ?_
      refine z_ialdN (j := 3) dX10_rank_18 m_v (rfl) (by decide) (by decide) ?_
      rw [hRK.1.2.2.2.1]
      refine z_icmp_ge (tgt := 46) dX10_rank_19 (by decide) (fun _ => ?_) (fun hb => absurd (nI_le (Nat.le_refl _) (by omega)) hb)
      refine z_iload_n dX10_rank_46 rfl ?_
      exact z_iret hE dX10_rank_47 ⟨rfl, rfl, c1⟩
    | succ m ih =>
      intro k K hk c1
      have hRK := c1.ri h
      have e1 : rk (ptA A) (ptA A t) (k + 1) = rk (ptA A) (ptA A t) k + (if ptA A t < ptA A k then 1 else 0) := rfl
      refine z_iload dX10_rank_11 rfl ?_
      refine z_aload_n dX10_rank_13 rfl ?_
      refine z_getR fRX10_7 dX10_rank_14 (by first | assumption | rfl) (by rfl) ?_
      refine z_iconst (v := 3) dX10_rank_17 rfl ?_
      refine z_ialdN (j := 3) dX10_rank_18 m_v (rfl) (by decide) (by decide) ?_
      rw [hRK.1.2.2.2.1]
      refine z_icmp_ge (tgt := 46) dX10_rank_19 (by decide) (fun hb => absurd hb (nI_ge (by omega) (by omega))) (fun _ => ?_)
      refine z_iload_n dX10_rank_22 rfl ?_
      refine z_aload_n dX10_rank_23 rfl ?_
      refine z_iload dX10_rank_24 rfl ?_
      refine z_cV1p mX10_points gRX10_145 dX10_rank_26 (q_points hRK rfl (show k < ans A by omega)) (by decide) (by first | assumption | rfl) (by rfl) (Nat.le_of_ble_eq_true rfl) (Nat.le_refl _) (Nat.le_refl _) (fun r J hq => ?_)
      obtain ⟨rfl, d1⟩ := hq
      have nxt := ih (k + 1) J (by omega) (c1.trans d1)
      refine z_iload_n dX10_rank_29 rfl ?_
      refine z_icmp_le (tgt := 37) dX10_rank_30 (by decide) (fun hb => ?_) (fun hb => ?_)
      · refine z_iconst (v := 0) dX10_rank_37 rfl ?_
        refine z_iadd dX10_rank_38 ?_
        refine z_ist3 dX10_rank_39 (by decide) rfl ?_
        refine z_inc4 (w := 1) dX10_rank_40 rfl (by decide) rfl ?_
        refine z_goto (tgt := 11) dX10_rank_43 (by decide) ?_
        rw [e1, if_neg (Int32.not_lt.mpr hb), Nat.add_zero] at nxt
        rw [Int32.add_zero, nI_1]
        exact nxt
      · refine z_iconst (v := 1) dX10_rank_33 rfl ?_
        refine z_goto (tgt := 38) dX10_rank_34 (by decide) ?_
        refine z_iadd dX10_rank_38 ?_
        refine z_ist3 dX10_rank_39 (by decide) rfl ?_
        refine z_inc4 (w := 1) dX10_rank_40 rfl (by decide) rfl ?_
        refine z_goto (tgt := 11) dX10_rank_43 (by decide) ?_
        rw [e1, if_pos (Int32.not_le.mp hb), ← Nat.add_assoc] at nxt
        rw [nI_1, nI_1]
        exact nxt
  refine z_aload_n dX10_rank_0 rfl ?_
  refine z_iload_n dX10_rank_1 rfl ?_
  refine z_cV1p mX10_points gRX10_145 dX10_rank_2 (q_points h rfl ht) (by decide) (by first | assumption | rfl) (by rfl) (Nat.le_of_ble_eq_true rfl) (Nat.le_refl _) (Nat.le_refl _) (fun r J hq => ?_)
  obtain ⟨rfl, b1⟩ := hq
  refine z_ist2 dX10_rank_5 (by decide) rfl ?_
  refine z_iconst (v := 1) dX10_rank_6 rfl ?_
  refine z_ist3 dX10_rank_7 (by decide) rfl ?_
  refine z_iconst (v := 0) dX10_rank_8 rfl ?_
  refine z_ist4 dX10_rank_9 (by decide) rfl ?_
  exact loop (ans A) 0 J (by omega) b1
theorem cnt_dm : ∀ R, R < 21 → ∀ W, W < 21 → nI (100 * R + W) / 100 = nI R ∧ nI (100 * R + W) - nI (100 * R + W) / 100 * 100 = nI W := by decide +kernel
theorem q_resultOf {I : ZI} {A : AS} {hc : Nat} {Hh : Nat → AS} {tc : Nat} {bf : Nat → Nat} {t : Nat} {x w : Int32} (h : RI I A hc Hh tc bf) (hx : x = nI t) (ht : t < ans A) (hw : is04 w) : ZP yX10_resultOf cX10_resultOf 3 (some FieldType.int) 8 [.ref 259, .int x, .int w] Sg I (fun r J => r = some (.int (resF A t w)) ∧ MFr I J) := by
  have g0 := m_obj
  have hns := h.2.1.2.2.2.2.1
  have hn := h.2.1.1.1
  have hle : shR A t + shW A t ≤ anq A := cRW_le _ _ _
  have hdm := cnt_dm (shR A t) (by omega) (shW A t) (by omega)
  subst hx
  refine ZSp.of (own := RX10) (L := [.ref 259, .int (nI t), .int w]) mX10_resultOf rfl (List.all_eq_true.mp rfl) (Nat.le_of_ble_eq_true rfl) rfl (fun X hE hN => ?_)
  refine z_iload_n dX10_resultOf_0 rfl ?_
  rcases hw with rfl | rfl | rfl | rfl | rfl
  · refine z_tableIn (off := 31) (tgt := 32) dX10_resultOf_1 (by decide) (by decide) (by decide) (by decide) ?_
    refine z_aload_n dX10_resultOf_32 rfl ?_
    refine z_getR fRX10_7 dX10_resultOf_33 (by first | assumption | rfl) (by rfl) ?_
    refine z_iload_n dX10_resultOf_36 rfl ?_
    refine z_cS1s mX10_sheetAt gRX10_133 dX10_resultOf_37 (q_sheetAt rfl) (by decide) (Nat.le_of_ble_eq_true rfl) (Nat.le_refl _) (Nat.le_refl _) ?_
    refine z_ialdN dX10_resultOf_40 m_v (rfl) (by omega) (by decide) ?_
    rw [(h.1.2.2.2.2.2.2 t ht).1]
    exact z_iret hE dX10_resultOf_41 ⟨rfl, rfl, MFr.refl I⟩
  · refine z_tableIn (off := 41) (tgt := 42) dX10_resultOf_1 (by decide) (by decide) (by decide) (by decide) ?_
    refine z_aload_n dX10_resultOf_42 rfl ?_
    refine z_iload_n dX10_resultOf_43 rfl ?_
    refine z_cV1p mX10_points gRX10_145 dX10_resultOf_44 (q_points h rfl ht) (by decide) (by first | assumption | rfl) (by rfl) (Nat.le_of_ble_eq_true rfl) (Nat.le_refl _) (Nat.le_refl _) (fun r J hq => ?_)
    obtain ⟨rfl, b1⟩ := hq
    exact z_iret hE dX10_resultOf_47 ⟨rfl, rfl, b1⟩
  · refine z_tableIn (off := 47) (tgt := 48) dX10_resultOf_1 (by decide) (by decide) (by decide) (by decide) ?_
    refine z_aload_n dX10_resultOf_48 rfl ?_
    refine z_iload_n dX10_resultOf_49 rfl ?_
    refine z_cV1p mX10_countsOwn gRX10_139 dX10_resultOf_50 (q_countsOwn h rfl ht) (by decide) (by first | assumption | rfl) (by rfl) (Nat.le_of_ble_eq_true rfl) (Nat.le_refl _) (Nat.le_refl _) (fun r J hq => ?_)
    obtain ⟨rfl, b1⟩ := hq
    refine z_bipush (v := 100) dX10_resultOf_53 rfl ?_
    refine z_idiv dX10_resultOf_55 (by decide) ?_
    rw [hdm.1]
    exact z_iret hE dX10_resultOf_56 ⟨rfl, rfl, b1⟩
  · refine z_tableIn (off := 56) (tgt := 57) dX10_resultOf_1 (by decide) (by decide) (by decide) (by decide) ?_
    refine z_aload_n dX10_resultOf_57 rfl ?_
    refine z_iload_n dX10_resultOf_58 rfl ?_
    refine z_cV1p mX10_countsOwn gRX10_139 dX10_resultOf_59 (q_countsOwn h rfl ht) (by decide) (by first | assumption | rfl) (by rfl) (Nat.le_of_ble_eq_true rfl) (Nat.le_refl _) (Nat.le_refl _) (fun r J hq => ?_)
    obtain ⟨rfl, b1⟩ := hq
    refine z_bipush (v := 100) dX10_resultOf_62 rfl ?_
    refine z_irem dX10_resultOf_64 (by decide) ?_
    rw [hdm.2]
    exact z_iret hE dX10_resultOf_65 ⟨rfl, rfl, b1⟩
  · refine z_tableOut (tgt := 66) dX10_resultOf_1 (Or.inr (by decide)) (by decide) ?_
    refine z_aload_n dX10_resultOf_66 rfl ?_
    refine z_iload_n dX10_resultOf_67 rfl ?_
    refine z_cV1p mX10_rank gRX10_148 dX10_resultOf_68 (q_rank h rfl ht) (by decide) (by first | assumption | rfl) (by rfl) (Nat.le_of_ble_eq_true rfl) (Nat.le_refl _) (Nat.le_refl _) (fun r J hq => ?_)
    obtain ⟨rfl, b1⟩ := hq
    exact z_iret hE dX10_resultOf_71 ⟨rfl, rfl, b1⟩
theorem q_result {I : ZI} {A : AS} {hc : Nat} {Hh : Nat → AS} {tc : Nat} {bf : Nat → Nat} {x w a : Int32} (h : RI I A hc Hh tc bf) (hD : aResult A x w a) : ZP yX10_result cX10_result 3 (some FieldType.int) 9 [.ref 259, .int x, .int w] Sg I (fun r J => r = some (.int a) ∧ (∀ a, a < 259 → J a = I a) ∧ RI J A hc Hh tc bf) := by
  have g0 := m_obj
  have hns := h.2.1.2.2.2.2.1
  refine ZSp.of (own := RX10) (L := [.ref 259, .int x, .int w]) mX10_result rfl (List.all_eq_true.mp rfl) (Nat.le_of_ble_eq_true rfl) rfl (fun X hE hN => ?_)
  refine z_aload_n dX10_result_0 rfl ?_
  refine z_iload_n dX10_result_1 rfl ?_
  have bad : a = -1001 → (ZG X RX10 cX10_result 3 9 0 0 0 0 26 [.ref 259, .int x, .int w] [] Sg I) := by
    rintro rfl
    refine z_sipush (v := -1001) dX10_result_26 rfl ?_
    exact z_iret hE dX10_result_29 ⟨rfl, rfl, fun _ _ => rfl, h⟩
  rcases hD with ⟨t, ht, rfl, hw, rfl⟩ | ⟨hb, he⟩
  · have hkk : ¬ (w < 0 ∨ 4 < w) := by
      rcases hw with rfl | rfl | rfl | rfl | rfl <;> decide
    refine z_cV1s mX10_isSheet gRX10_151 dX10_result_2 (q_isT (r := 1) h.1 hns (fun _ => rfl) (fun z => absurd ⟨t, ht, rfl⟩ z)) (by decide) (by first | assumption | rfl) (by rfl) (Nat.le_of_ble_eq_true rfl) (Nat.le_refl _) (Nat.le_refl _) ?_
    refine z_if_eq (tgt := 26) dX10_result_5 (by decide) (fun hb => absurd hb (by decide)) (fun _ => ?_)
    refine z_iload_n dX10_result_8 rfl ?_
    refine z_iconst (v := 0) dX10_result_9 rfl ?_
    refine z_iconst (v := 4) dX10_result_10 rfl ?_
    refine z_cS3s mX10_in gRX10_50 dX10_result_11 (q_in (r := 1) (fun _ _ => rfl) (fun z => absurd z hkk)) (by decide) (Nat.le_of_ble_eq_true rfl) (Nat.le_refl _) (Nat.le_refl _) ?_
    refine z_if_eq (tgt := 26) dX10_result_14 (by decide) (fun hb => absurd hb (by decide)) (fun _ => ?_)
    refine z_aload_n dX10_result_17 rfl ?_
    refine z_iload_n dX10_result_18 rfl ?_
    refine z_iload_n dX10_result_19 rfl ?_
    refine z_cV2p mX10_resultOf gRX10_154 dX10_result_20 (q_resultOf h rfl ht hw) (by decide) (by first | assumption | rfl) (by rfl) (Nat.le_of_ble_eq_true rfl) (Nat.le_refl _) (Nat.le_refl _) (fun r J hq => ?_)
    obtain ⟨rfl, b1⟩ := hq
    refine z_goto (tgt := 29) dX10_result_23 (by decide) ?_
    exact z_iret hE dX10_result_29 ⟨rfl, rfl, fun a ha => b1.1 a (Or.inl ha), b1.ri h⟩
  · by_cases hx : isT A x
    · have hk : ¬ is04 w := hb.elim (fun z => absurd hx z) id
      refine z_cV1s mX10_isSheet gRX10_151 dX10_result_2 (q_isT (r := 1) h.1 hns (fun _ => rfl) (fun z => absurd hx z)) (by decide) (by first | assumption | rfl) (by rfl) (Nat.le_of_ble_eq_true rfl) (Nat.le_refl _) (Nat.le_refl _) ?_
      refine z_if_eq (tgt := 26) dX10_result_5 (by decide) (fun hb => absurd hb (by decide)) (fun _ => ?_)
      refine z_iload_n dX10_result_8 rfl ?_
      refine z_iconst (v := 0) dX10_result_9 rfl ?_
      refine z_iconst (v := 4) dX10_result_10 rfl ?_
      refine z_cS3s mX10_in gRX10_50 dX10_result_11 (q_in (r := 0) (fun q1 q2 => absurd (z_04 q1 q2) hk) (fun _ => rfl)) (by decide) (Nat.le_of_ble_eq_true rfl) (Nat.le_refl _) (Nat.le_refl _) ?_
      refine z_if_eq (tgt := 26) dX10_result_14 (by decide) (fun _ => ?_) (fun hb => absurd (rfl) hb)
      exact bad he
    · refine z_cV1s mX10_isSheet gRX10_151 dX10_result_2 (q_isT (r := 0) h.1 hns (fun z => absurd z hx) (fun _ => rfl)) (by decide) (by first | assumption | rfl) (by rfl) (Nat.le_of_ble_eq_true rfl) (Nat.le_refl _) (Nat.le_refl _) ?_
      refine z_if_eq (tgt := 26) dX10_result_5 (by decide) (fun _ => ?_) (fun hb => absurd (rfl) hb)
      exact bad he

