/-! ===== the model: guess ===== -/
theorem q_guess {I : ZI} {A : AS} {hc : Nat} {Hh : Nat → AS} {tc : Nat} {bf : Nat → Nat} {x y z : Int32} {r0 : Option Value} {P : AS → Nat → (Nat → AS) → Nat → (Nat → Nat) → Prop} (h : RI I A hc Hh tc bf) (hD : ((¬ isV A x ∨ ¬ isK z) ∧ r0 = some (.int (-1001)) ∧ P A hc Hh tc bf) ∨ (isV A x ∧ isK z ∧ ans A = 20 ∧ r0 = some (.int (-1003)) ∧ P A hc Hh tc bf) ∨ (∃ v sk, v < anv A ∧ x = nI v ∧ sk ≤ 10 ∧ z = nI sk ∧ ans A < 20 ∧ r0 = some (.int (nI (ans A))) ∧ P (shA A v (fun p => some (gsM A v sk y p))) (phc hc) (pHh hc Hh A) tc bf)) : ZP yX10_guess cX10_guess 7 (some FieldType.int) 5 [.ref 259, .int x, .int y, .int z] Sg I (fun r J => r = r0 ∧ (∀ a, a < 259 → J a = I a) ∧ ∃ A' hc' Hh' tc' bf', P A' hc' Hh' tc' bf' ∧ RI J A' hc' Hh' tc' bf') := by
  have g0 := m_obj
  have hn := h.2.1.1.1
  have hnv := h.2.1.2.1
  have hns := h.2.1.2.2.2.2.1
  refine ZSp.of (own := RX10) (L := [.ref 259, .int x, .int y, .int z, zj, zj, zj]) mX10_guess rfl (List.all_eq_true.mp rfl) (Nat.le_of_ble_eq_true rfl) rfl (fun X hE hN => ?_)
  refine z_aload_n dX10_guess_0 rfl ?_
  refine z_iload_n dX10_guess_1 rfl ?_
  have up : ∀ v, v < anv A → x = nI v → isK z → (ZG X RX10 cX10_guess 7 5 0 0 0 0 22 [.ref 259, .int x, .int y, .int z, zj, zj, zj] [] Sg I) → (ZG X RX10 cX10_guess 7 5 0 0 0 0 2 [.ref 259, .int x, .int y, .int z, zj, zj, zj] [.int x, .ref 259] Sg I) := by
    rintro v hv hx ⟨n, n1, rfl⟩ nxt
    refine z_cV1s mX10_isVersion gRX10_103 dX10_guess_2 (q_isV (r := 1) h.1 hnv (fun _ => rfl) (fun z => absurd ⟨v, hv, hx⟩ z)) (by decide) (by first | assumption | rfl) (by rfl) (Nat.le_of_ble_eq_true rfl) (Nat.le_refl _) (Nat.le_refl _) ?_
    refine z_if_eq (tgt := 18) dX10_guess_5 (by decide) (fun hb => absurd hb (by decide)) (fun _ => ?_)
    refine z_iload_n dX10_guess_8 rfl ?_
    refine z_iconst (v := 0) dX10_guess_9 rfl ?_
    refine z_bipush (v := 10) dX10_guess_10 rfl ?_
    refine z_cS3s mX10_in gRX10_50 dX10_guess_12 (q_in (r := 1) (fun _ _ => rfl) (fun z => z.elim (fun e => absurd e (nI_pos (by omega))) (fun e => absurd e (nI_nlt (b := n) (a := 10) n1 (by decide))))) (by decide) (Nat.le_of_ble_eq_true rfl) (Nat.le_refl _) (Nat.le_refl _) ?_
    refine z_if_ne (tgt := 22) dX10_guess_15 (by decide) (fun _ => ?_) (fun hb => absurd hb (by decide))
    exact nxt
  have bad : (ZG X RX10 cX10_guess 7 5 0 0 0 0 18 [.ref 259, .int x, .int y, .int z, zj, zj, zj] [] Sg I) → True := fun _ => trivial
  rcases hD with ⟨hb, rfl, hP⟩ | ⟨⟨v, hv, hx⟩, hk, hz, rfl, hP⟩ | ⟨v, sk, hv, hx, hsk, hz, hs, rfl, hP⟩
  · by_cases hx : isV A x
    · have hk : ¬ isK z := hb.elim (fun q => absurd hx q) id
      refine z_cV1s mX10_isVersion gRX10_103 dX10_guess_2 (q_isV (r := 1) h.1 hnv (fun _ => rfl) (fun z => absurd hx z)) (by decide) (by first | assumption | rfl) (by rfl) (Nat.le_of_ble_eq_true rfl) (Nat.le_refl _) (Nat.le_refl _) ?_
      refine z_if_eq (tgt := 18) dX10_guess_5 (by decide) (fun hb => absurd hb (by decide)) (fun _ => ?_)
      refine z_iload_n dX10_guess_8 rfl ?_
      refine z_iconst (v := 0) dX10_guess_9 rfl ?_
      refine z_bipush (v := 10) dX10_guess_10 rfl ?_
      refine z_cS3s mX10_in gRX10_50 dX10_guess_12 (q_in (r := 0) (fun q1 q2 => absurd (nI_of2 (M := 10) (n := 10) rfl q1 q2) hk) (fun _ => rfl)) (by decide) (Nat.le_of_ble_eq_true rfl) (Nat.le_refl _) (Nat.le_refl _) ?_
      refine z_if_ne (tgt := 22) dX10_guess_15 (by decide) (fun hb => absurd (rfl) hb) (fun _ => ?_)
      refine z_sipush (v := -1001) dX10_guess_18 rfl ?_
      exact z_iret hE dX10_guess_21 ⟨rfl, rfl, fun _ _ => rfl, _, _, _, _, _, hP, h⟩
    · refine z_cV1s mX10_isVersion gRX10_103 dX10_guess_2 (q_isV (r := 0) h.1 hnv (fun z => absurd z hx) (fun _ => rfl)) (by decide) (by first | assumption | rfl) (by rfl) (Nat.le_of_ble_eq_true rfl) (Nat.le_refl _) (Nat.le_refl _) ?_
      refine z_if_eq (tgt := 18) dX10_guess_5 (by decide) (fun _ => ?_) (fun hb => absurd (rfl) hb)
      refine z_sipush (v := -1001) dX10_guess_18 rfl ?_
      exact z_iret hE dX10_guess_21 ⟨rfl, rfl, fun _ _ => rfl, _, _, _, _, _, hP, h⟩
  · refine up v hv hx hk ?_
    refine z_aload_n dX10_guess_22 rfl ?_
    refine z_getR fRX10_7 dX10_guess_23 (by first | assumption | rfl) (by rfl) ?_
    refine z_iconst (v := 3) dX10_guess_26 rfl ?_
    refine z_ialdN (j := 3) dX10_guess_27 m_v (rfl) (by decide) (by decide) ?_
    rw [h.1.2.2.2.1]
    refine z_bipush (v := 20) dX10_guess_28 rfl ?_
    refine z_icmp_ne (tgt := 37) dX10_guess_30 (by decide) (fun hb => absurd (by rw [hz]; rfl) hb) (fun _ => ?_)
    refine z_sipush (v := -1003) dX10_guess_33 rfl ?_
    exact z_iret hE dX10_guess_36 ⟨rfl, rfl, fun _ _ => rfl, _, _, _, _, _, hP, h⟩
  · refine up v hv hx ⟨sk, hsk, hz⟩ ?_
    subst hz
    refine z_aload_n dX10_guess_22 rfl ?_
    refine z_getR fRX10_7 dX10_guess_23 (by first | assumption | rfl) (by rfl) ?_
    refine z_iconst (v := 3) dX10_guess_26 rfl ?_
    refine z_ialdN (j := 3) dX10_guess_27 m_v (rfl) (by decide) (by decide) ?_
    rw [h.1.2.2.2.1]
    refine z_bipush (v := 20) dX10_guess_28 rfl ?_
    refine z_icmp_ne (tgt := 37) dX10_guess_30 (by decide) (fun _ => ?_) (fun hb => absurd hb (fun q => by have := (nI_eq (b := 20) (by omega) (by decide)).mp q; omega))
    refine z_aload_n dX10_guess_37 rfl ?_
    refine z_cV0p mX10_act gRX10_54 dX10_guess_38 (q_act h) (by decide) (by first | assumption | rfl) (by rfl) (Nat.le_of_ble_eq_true rfl) (Nat.le_refl _) (Nat.le_refl _) (fun r J hq => ?_)
    obtain ⟨rfl, c1, c2, c3⟩ := hq
    have e60 : J 260 = I 260 := c1 _ (by decide) (by decide)
    have hRVJ : RV (J 260) A := by rw [e60]; exact h.1
    have f0 : ∀ a, a < 259 → J a = I a := fun a ha => c1 a (by omega) (by omega)
    refine z_aload_n dX10_guess_41 rfl ?_
    refine z_iload_n dX10_guess_42 rfl ?_
    refine z_cV1p mX10_opens gRX10_106 dX10_guess_43 (q_opens hRVJ h.2.1 hx hv) (by decide) (by first | assumption | rfl) (by rfl) (Nat.le_of_ble_eq_true rfl) (Nat.le_refl _) (Nat.le_refl _) (fun r J hq => ?_)
    obtain ⟨rfl, b1, b2⟩ := hq
    have hR2 := b1.ri c3
    have m60 : J 260 = I 260 := by rw [b1.1 260 (by omega)]; exact e60
    have f1 : ∀ a, a < 259 → J a = I a := fun a ha => by rw [b1.1 a (Or.inl ha), f0 a ha]
    have hnq : J 260 0 = nI (anq A) := by rw [m60]; exact h.1.1
    have hn3 : J 260 3 = nI (ans A) := by rw [m60]; exact h.1.2.2.2.1
    have fin : ∀ (L : ZI), (∀ a, a ≠ 259 → a ≠ 260 → L a = J a) → (∀ k, k ≠ 3 → L 259 k = J 259 k) → L 260 (116 + 21 * ans A) = nI v → (∀ p, p < anq A → L 260 (116 + 21 * ans A + 1 + p) = mrk (some (gsM A v sk y p))) → (∀ k, k < 116 + 21 * ans A → L 260 k = J 260 k) → (ZG X RX10 cX10_guess 7 5 0 0 0 0 150 [.ref 259, .int x, .int y, .int (nI sk), zj, zj, zj] [] Sg L) := by
      intro L l1 l0 l2 l3 l4
      have e3 : L 260 3 = nI (ans A) := by rw [l4 3 (by omega)]; exact hn3
      refine z_aload_n dX10_guess_150 rfl ?_
      refine z_getR fRX10_7 dX10_guess_151 (by first | assumption | rfl) (by rfl) ?_
      refine z_iconst (v := 3) dX10_guess_154 rfl ?_
      refine z_dup2 dX10_guess_155 rfl rfl ?_
      refine z_ialdN (j := 3) dX10_guess_156 m_v (rfl) (by decide) (by decide) ?_
      rw [e3]
      refine z_iconst (v := 1) dX10_guess_157 rfl ?_
      refine z_iadd dX10_guess_158 ?_
      rw [nI_1]
      refine z_iastN (j := 3) dX10_guess_159 m_v (rfl) (by decide) (by decide) ?_
      refine z_aload_n dX10_guess_160 rfl ?_
      refine z_getR fRX10_7 dX10_guess_161 (by first | assumption | rfl) (by rfl) ?_
      refine z_iconst (v := 3) dX10_guess_164 rfl ?_
      refine z_ialdN (j := 3) dX10_guess_165 m_v (rfl) (by decide) (by decide) ?_
      rw [zup_at, upd_at]
      refine z_iconst (v := 1) dX10_guess_166 rfl ?_
      refine z_isub dX10_guess_167 ?_
      rw [nI_pred]
      have f60 : ∀ k, k ≠ 3 → zup L 260 3 (nI (ans A + 1)) 260 k = L 260 k := fun k q => by rw [zup_at, upd_ne _ _ q]
      have fo : ∀ a, a ≠ 259 → a ≠ 260 → zup L 260 3 (nI (ans A + 1)) a = J a := fun a q1 q2 => by rw [zup_ne _ _ _ q2, l1 a q1 q2]
      have f59 : ∀ k, k ≠ 3 → zup L 260 3 (nI (ans A + 1)) 259 k = J 259 k := fun k q => by rw [zup_ne _ _ _ (by decide), l0 k q]
      refine z_iret hE dX10_guess_168 ⟨rfl, rfl, fun a ha => by rw [fo a (by omega) (by omega), f1 a ha], _, _, _, _, _, hP, ?_, ?_, ?_, ?_⟩
      · exact z_rvS h.1 h.2.1 hs (by rw [zup_at, upd_at]) (by rw [f60 _ (by omega)]; exact l2) (fun p hp => by rw [f60 _ (by omega)]; exact l3 p hp) (fun k q1 q2 => by rw [f60 k q1, l4 k q2, m60])
      · refine z_avS h.2.1 hv hs (fun p hp k hk => ?_)
        have hk2 : some (gsM A v sk y p) = some k := hk
        cases hk2
        unfold gsM
        split
        · exact (Ky_lt (seed := asd A v) h.2.1.1 hp).1
        · have := (h.2.1.1.2 _ ((Od_en (anq A) (aqd A) (asd A v)).1 p hp)).2.2.1
          exact lvv_lt _ (show 0 < aqd A (vO A v p) 4 from Nat.lt_of_lt_of_le (by decide) this)
      · exact ⟨by rw [f59 _ (by decide)]; exact hR2.2.2.1.1, hR2.2.2.1.2.1, fun i hi => by rw [fo _ (by decide) (by decide)]; exact hR2.2.2.1.2.2 i hi⟩
      · exact ⟨by rw [f59 _ (by decide)]; exact hR2.2.2.2.1, hR2.2.2.2.2.1, fun k hk => by rw [fo _ (by decide) (by decide)]; exact hR2.2.2.2.2.2 k hk⟩
    have loop : ∀ (m k : Nat) (L : ZI), k + m = anq A → (∀ a, a ≠ 259 → a ≠ 260 → L a = J a) → (∀ k, k ≠ 3 → L 259 k = J 259 k) → L 259 3 = gsL A v sk y k → L 260 (116 + 21 * ans A) = nI v → (∀ p, p < k → L 260 (116 + 21 * ans A + 1 + p) = mrk (some (gsM A v sk y p))) → (∀ k, k < 116 + 21 * ans A → L 260 k = J 260 k) → (ZG X RX10 cX10_guess 7 5 0 0 0 0 73 [.ref 259, .int x, .int y, .int (nI sk), .int (nI (116 + 21 * ans A)), .int (nI k), zj] [] Sg L) := by
      intro m
      induction m with
      | zero =>
        intro k L hk l1 l0 lL l2 l3 l4
        have e : k = anq A := by omega
        subst e
        have e0 : L 260 0 = nI (anq A) := by rw [l4 0 (by omega)]; exact hnq
        refine z_iload dX10_guess_73 rfl ?_
        refine z_aload_n dX10_guess_75 rfl ?_
        refine z_getR fRX10_7 dX10_guess_76 (by first | assumption | rfl) (by rfl) ?_
        refine z_iconst (v := 0) dX10_guess_79 rfl ?_
        refine z_ialdN (j := 0) dX10_guess_80 m_v (rfl) (by decide) (by decide) ?_
        rw [e0]
        refine z_icmp_ge (tgt := 150) dX10_guess_81 (by decide) (fun _ => ?_) (fun hb => absurd (nI_le (Nat.le_refl _) (by omega)) hb)
        refine z_fg4 (z_fg5 ?_)
        exact fin L l1 l0 l2 l3 l4
      | succ m ih =>
        intro k L hk l1 l0 lL l2 l3 l4
        have hk1 : k < anq A := by omega
        have e0 : L 260 0 = nI (anq A) := by rw [l4 0 (by omega)]; exact hnq
        have hO := (Od_en (anq A) (aqd A) (asd A v)).1 k hk1
        have hch := h.2.1.1.2 _ hO
        have hc1 : 0 < aqd A (vO A v k) 4 := Nat.lt_of_lt_of_le (by decide) hch.2.2.1
        have hc2 : aqd A (vO A v k) 4 < 1000 := Nat.lt_of_le_of_lt hch.2.2.2.1 (by decide)
        have e1 : gsL A v sk y (k + 1) = if lvv (lx (gsL A v sk y k)) 10 < sk then lx (gsL A v sk y k) else lx (lx (gsL A v sk y k)) := rfl
        have e2 : gsM A v sk y k = if lvv (lx (gsL A v sk y k)) 10 < sk then vK A v k else lvv (lx (lx (gsL A v sk y k))) (aqd A (vO A v k) 4) := rfl
        have hlt := lvv_lt (lx (gsL A v sk y k)) (m := 10) (by decide)
        have put : ∀ (L2 : ZI) (w : Int32) (u : Value), (∀ a, a ≠ 259 → L2 a = L a) → (∀ k, k ≠ 3 → L2 259 k = L 259 k) → L2 259 3 = gsL A v sk y (k + 1) → w = nI (gsM A v sk y k) → (ZG X RX10 cX10_guess 7 5 0 0 0 0 143 [.ref 259, .int x, .int y, .int (nI sk), .int (nI (116 + 21 * ans A)), .int (nI k), u] [.int w, .int (nI (116 + 21 * ans A) + 1 + nI k), .ref 260] Sg L2) := by
          intro L2 w u p1 p2 p3 hw
          refine z_iastN dX10_guess_143 m_v (show nI (116 + 21 * ans A) + 1 + nI k = nI (116 + 21 * ans A + 1 + k) from by rw [nI_1, nI_add]) (by omega) (by decide) ?_
          refine z_inc5 (w := 1) dX10_guess_144 rfl (by decide) rfl ?_
          refine z_goto (tgt := 73) dX10_guess_147 (by decide) ?_
          rw [nI_1]
          refine z_fg6 ?_
          have q60 : L2 260 = L 260 := p1 260 (by decide)
          refine ih (k + 1) _ (by omega) (fun a q1 q2 => by rw [zup_ne _ _ _ q2, p1 a q1]; exact l1 a q1 q2) (fun k q => by rw [zup_ne _ _ _ (by decide), p2 k q]; exact l0 k q) (by rw [zup_ne _ _ _ (by decide)]; exact p3) (by rw [zup_at, upd_ne _ _ (by omega), q60]; exact l2) (fun p hp => ?_) (fun j hj => by rw [zup_at, upd_ne _ _ (by omega), q60]; exact l4 j hj)
          rw [zup_at]
          by_cases e : p = k
          · rw [e, upd_at, hw]
            rfl
          · rw [upd_ne _ _ (by omega), q60]
            exact l3 p (by omega)
        refine z_iload dX10_guess_73 rfl ?_
        refine z_aload_n dX10_guess_75 rfl ?_
        refine z_getR fRX10_7 dX10_guess_76 (by first | assumption | rfl) (by rfl) ?_
        refine z_iconst (v := 0) dX10_guess_79 rfl ?_
        refine z_ialdN (j := 0) dX10_guess_80 m_v (rfl) (by decide) (by decide) ?_
        rw [e0]
        refine z_icmp_ge (tgt := 150) dX10_guess_81 (by decide) (fun hb => absurd hb (nI_ge hk1 (by omega))) (fun _ => ?_)
        refine z_aload_n dX10_guess_84 rfl ?_
        refine z_bipush (v := 10) dX10_guess_85 rfl ?_
        refine z_cV1s mX10_lot gRX10_78 dX10_guess_87 (q_lot (show (10 : Int32) = nI 10 from rfl) (by decide) (by decide)) (by decide) (by first | assumption | rfl) (by rfl) (Nat.le_of_ble_eq_true rfl) (Nat.le_refl _) (Nat.le_refl _) ?_
        rw [lL]
        have k1 : ∀ a, a ≠ 259 → zup L 259 3 (lx (gsL A v sk y k)) a = L a := fun a q => zup_ne _ _ _ q
        have k2 : ∀ k', k' ≠ 3 → zup L 259 3 (lx (gsL A v sk y k)) 259 k' = L 259 k' := fun k' q => by rw [zup_at, upd_ne _ _ q]
        have k3 : zup L 259 3 (lx (gsL A v sk y k)) 259 3 = lx (gsL A v sk y k) := by rw [zup_at, upd_at]
        refine z_iload_n dX10_guess_90 rfl ?_
        by_cases g3 : lvv (lx (gsL A v sk y k)) 10 < sk
        · rw [if_pos g3] at e1 e2
          refine z_icmp_ge (tgt := 98) dX10_guess_91 (by decide) (fun hb => absurd hb (nI_ge g3 (by omega))) (fun _ => ?_)
          refine z_iconst (v := 1) dX10_guess_94 rfl ?_
          refine z_goto (tgt := 99) dX10_guess_95 (by decide) ?_
          refine z_ist6 dX10_guess_99 (by decide) rfl ?_
          refine z_aload_n dX10_guess_101 rfl ?_
          refine z_getR fRX10_7 dX10_guess_102 (by first | assumption | rfl) (by rfl) ?_
          refine z_iload dX10_guess_105 rfl ?_
          refine z_iconst (v := 1) dX10_guess_107 rfl ?_
          refine z_iadd dX10_guess_108 ?_
          refine z_iload dX10_guess_109 rfl ?_
          refine z_iadd dX10_guess_111 ?_
          refine z_iload dX10_guess_112 rfl ?_
          refine z_if_eq (tgt := 127) dX10_guess_114 (by decide) (fun hb => absurd hb (by decide)) (fun _ => ?_)
          refine z_aload_n dX10_guess_117 rfl ?_
          refine z_getR fRX10_19 dX10_guess_118 (by first | assumption | rfl) (by rfl) ?_
          refine z_iload dX10_guess_121 rfl ?_
          refine z_ialdN dX10_guess_123 m_key (rfl) (by omega) (by decide) ?_
          rw [k1 263 (by decide), l1 263 (by decide) (by decide), b2.2.1 k hk1]
          refine z_goto (tgt := 143) dX10_guess_124 (by decide) ?_
          exact put _ _ _ k1 k2 (by rw [k3, e1]) (by rw [e2]; rfl)
        · rw [if_neg g3] at e1 e2
          refine z_icmp_ge (tgt := 98) dX10_guess_91 (by decide) (fun _ => ?_) (fun hb => absurd (nI_le (by omega) (by omega)) hb)
          refine z_iconst (v := 0) dX10_guess_98 rfl ?_
          refine z_ist6 dX10_guess_99 (by decide) rfl ?_
          refine z_aload_n dX10_guess_101 rfl ?_
          refine z_getR fRX10_7 dX10_guess_102 (by first | assumption | rfl) (by rfl) ?_
          refine z_iload dX10_guess_105 rfl ?_
          refine z_iconst (v := 1) dX10_guess_107 rfl ?_
          refine z_iadd dX10_guess_108 ?_
          refine z_iload dX10_guess_109 rfl ?_
          refine z_iadd dX10_guess_111 ?_
          refine z_iload dX10_guess_112 rfl ?_
          refine z_if_eq (tgt := 127) dX10_guess_114 (by decide) (fun _ => ?_) (fun hb => absurd (rfl) hb)
          refine z_aload_n dX10_guess_127 rfl ?_
          refine z_aload_n dX10_guess_128 rfl ?_
          refine z_aload_n dX10_guess_129 rfl ?_
          refine z_getR fRX10_16 dX10_guess_130 (by first | assumption | rfl) (by rfl) ?_
          refine z_iload dX10_guess_133 rfl ?_
          have hRV2 : RV (zup L 259 3 (lx (gsL A v sk y k)) 260) A := by
            rw [k1 260 (by decide)]
            have hns2 := hns
            obtain ⟨r1, r2, r3, r4, r5, r6, r7⟩ := h.1
            exact ⟨by rw [l4 0 (by omega), m60]; exact r1, by rw [l4 1 (by omega), m60]; exact r2, by rw [l4 2 (by omega), m60]; exact r3, by rw [l4 3 (by omega), m60]; exact r4, fun i hi w hw => by rw [l4 _ (by omega), m60]; exact r5 i hi w hw, fun u hu => by rw [l4 _ (by omega), m60]; exact r6 u hu, fun t ht => ⟨by rw [l4 _ (by omega), m60]; exact (r7 t ht).1, fun p hp => by rw [l4 _ (by omega), m60]; exact (r7 t ht).2 p hp⟩⟩
          refine z_ialdN dX10_guess_135 m_order (rfl) (by omega) (by decide) ?_
          rw [k1 262 (by decide), l1 262 (by decide) (by decide), b2.1 k hk1]
          refine z_iconst (v := 4) dX10_guess_136 rfl ?_
          refine z_cV2s mX10_of gRX10_61 dX10_guess_137 (q_of hRV2 hn rfl (show (4 : Int32) = nI 4 from rfl) hO (by decide)) (by decide) (by first | assumption | rfl) (by rfl) (Nat.le_of_ble_eq_true rfl) (Nat.le_refl _) (Nat.le_refl _) ?_
          have hc1' : 0 < aqd A (Od (anq A) (aqd A) (asd A v) k) 4 := hc1
          have hc2' : aqd A (Od (anq A) (aqd A) (asd A v) k) 4 < 1000 := hc2
          refine z_cV1s mX10_lot gRX10_78 dX10_guess_140 (q_lot rfl hc1' hc2') (by decide) (by first | assumption | rfl) (by rfl) (Nat.le_of_ble_eq_true rfl) (Nat.le_refl _) (Nat.le_refl _) ?_
          rw [k3]
          exact put _ _ _ (fun a q => by rw [zup_ne _ _ _ q]; exact k1 a q) (fun k' q => by rw [zup_at, upd_ne _ _ q]; exact k2 k' q) (by rw [zup_at, upd_at, e1]) (by rw [e2]; rfl)
    refine z_aload_n dX10_guess_46 rfl ?_
    refine z_getR fRX10_7 dX10_guess_47 (by first | assumption | rfl) (by rfl) ?_
    refine z_iconst (v := 3) dX10_guess_50 rfl ?_
    refine z_ialdN (j := 3) dX10_guess_51 m_v (rfl) (by decide) (by decide) ?_
    rw [hn3]
    refine z_cS1s mX10_sheetAt gRX10_133 dX10_guess_52 (q_sheetAt rfl) (by decide) (Nat.le_of_ble_eq_true rfl) (Nat.le_refl _) (Nat.le_refl _) ?_
    refine z_ist4 dX10_guess_55 (by decide) rfl ?_
    refine z_aload_n dX10_guess_57 rfl ?_
    refine z_getR fRX10_7 dX10_guess_58 (by first | assumption | rfl) (by rfl) ?_
    refine z_iload dX10_guess_61 rfl ?_
    refine z_iload_n dX10_guess_63 rfl ?_
    have hxv := hx
    subst hx
    refine z_iastN dX10_guess_64 m_v (rfl) (by omega) (by decide) ?_
    refine z_aload_n dX10_guess_65 rfl ?_
    refine z_iload_n dX10_guess_66 rfl ?_
    refine z_putI fRX10_72 dX10_guess_67 (by first | assumption | rfl) (by rfl) ?_
    refine z_iconst (v := 0) dX10_guess_70 rfl ?_
    refine z_ist5 dX10_guess_71 (by decide) rfl ?_
    exact loop (anq A) 0 _ (by omega) (fun a q1 q2 => by rw [zup_ne _ _ _ q1, zup_ne _ _ _ q2]) (fun k q => by rw [zup_at, upd_ne _ _ q, zup_ne _ _ _ (by decide)]) (by rw [zup_at, upd_at]; rfl) (by rw [zup_ne _ _ _ (by decide), zup_at, upd_at]) (fun p hp => absurd hp (Nat.not_lt_zero p)) (fun k hk => by rw [zup_ne _ _ _ (by decide), zup_at, upd_ne _ _ (by omega)])

