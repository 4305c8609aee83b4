/-! ===== sheet and guess themselves ===== -/
theorem s_sheet {I : ZI} {A : AS} {hc : Nat} {Hh : Nat → AS} {tc : Nat} {bf : Nat → Nat} {x : Int32} (h : CI I A hc Hh tc bf) : ZP yX9_sheet cX9_sheet 4 (some FieldType.int) 6 [.ref 0, .int x] Sg I (fun r J => (∀ a, 259 ≤ a → J a = I a) ∧ ((¬ isV A x ∧ r = some (.int (-1001)) ∧ CI J A hc Hh tc bf) ∨ (isV A x ∧ ans A = 20 ∧ r = some (.int (-1003)) ∧ CI J A hc Hh tc bf) ∨ (∃ v i, v < anv A ∧ x = nI v ∧ ans A < 20 ∧ badAt A v tc bf i ∧ r = some (.int (-100 - nI i)) ∧ CI J A hc Hh tc bf) ∨ (∃ v, v < anv A ∧ x = nI v ∧ ans A < 20 ∧ okAll A v tc bf ∧ r = some (.int (nI (ans A))) ∧ CI J (shA A v (fun p => tmk (bf p))) (phc hc) (pHh hc Hh A) 0 bf))) := by
  have h0 := at_tv
  have hn1 := at_now.1
  have hs0 := at_sheets.1
  have hns := h.2.1.2.2.2.2.1
  have hnv := h.2.1.2.1
  have hn := h.2.1.1.1
  refine ZSp.of (own := RX9) (L := [.ref 0, .int x, zj, zj]) mX9_sheet rfl (List.all_eq_true.mp rfl) (Nat.le_of_ble_eq_true rfl) rfl (fun X hE hN => ?_)
  refine z_aload_n dX9_sheet_0 rfl ?_
  refine z_iload_n dX9_sheet_1 rfl ?_
  by_cases hv : isV A x
  · obtain ⟨v, hv1, rfl⟩ := hv
    have hv6 : v < 6 := by omega
    have hpp := at_paper hv6
    have hp0 := hpp.1
    refine z_cV1p mX9_paperOf gRX9_119 dX9_sheet_2 (s_paperOf h rfl hv1) (by decide) (by first | assumption | rfl) (by rfl) (Nat.le_of_ble_eq_true rfl) (Nat.le_refl _) (Nat.le_refl _) (fun r J hq => ?_)
    obtain ⟨rfl, b1, b2, b3, b4⟩ := hq
    have hfr : ∀ a, 259 ≤ a → J a = I a := fun a ha => b1 a (by omega)
    have b2' := b2
    have hfr' := hfr
    have hcnt : J 7 5 = nI (ans A) := b2.1.2.2.2.2.1
    refine z_ast2 dX9_sheet_5 (by decide) rfl ?_
    refine z_aload_n dX9_sheet_6 rfl ?_
    refine z_ifnonnull (tgt := 14) dX9_sheet_7 (by decide) ?_
    refine z_aload_n dX9_sheet_14 rfl ?_
    refine z_getR fRX9_10 dX9_sheet_15 (by first | assumption | rfl) (by rfl) ?_
    refine z_getR fRX9_66 dX9_sheet_18 (by first | assumption | rfl) (by rfl) ?_
    refine z_getI fRX9_70 dX9_sheet_21 (by first | assumption | rfl) (by rfl) ?_
    refine z_bipush (v := 20) dX9_sheet_24 rfl ?_
    rw [hcnt]
    by_cases hz : ans A = 20
    · refine z_icmp_lt (tgt := 33) dX9_sheet_26 (by decide) (fun hb => absurd hb (by rw [hz]; decide)) (fun _ => ?_)
      refine z_sipush (v := -1003) dX9_sheet_29 rfl ?_
      exact z_iret hE dX9_sheet_32 ⟨rfl, hfr, Or.inr (Or.inl ⟨⟨v, hv1, rfl⟩, hz, rfl, b2⟩)⟩
    · have hs20 : ans A < 20 := by omega
      refine z_icmp_lt (tgt := 33) dX9_sheet_26 (by decide) (fun _ => ?_) (fun hb => absurd (nI_lt (b := 20) hs20 (by decide)) hb)
      refine z_aload_n dX9_sheet_33 rfl ?_
      refine z_aload_n dX9_sheet_34 rfl ?_
      refine z_cV1p mX9_readTyped gRX9_178 dX9_sheet_35 (s_readTyped b2 hv1 b3) (by decide) (by first | assumption | rfl) (by rfl) (Nat.le_of_ble_eq_true rfl) (Nat.le_refl _) (Nat.le_refl _) (fun r J hq => ?_)
      obtain ⟨i, rfl, c1, c2, c3, c4, c5⟩ := hq
      rename_i K
      have hC : CI J A hc Hh tc bf := b2'.keep (fun a q => c1 a (by omega)) (c1 138 (by decide)) (fun w hw => by
        rcases b2'.2.2.2.1 w hw with g | ⟨g1, g2, g3, g4⟩
        · exact Or.inl (by rw [c1 _ (by omega)]; exact g)
        · exact Or.inr ⟨by rw [c1 _ (by omega)]; exact g1, g2, g3.keep (fun a q1 q2 => c1 a (by omega)), g4.keep (fun a q1 q2 => c1 a (by omega))⟩)
      have hPJ : Pm J (139 + 20 * v) (anq A) (aqd A) (asd A v) := b3.keep (fun a q1 q2 => c1 a (by omega))
      have hfr2 : ∀ a, 259 ≤ a → J a = I a := fun a ha => by rw [c1 a (by omega), hfr' a ha]
      have htc : J 0 8 = nI tc := hC.2.2.2.2.1
      have htc20 := hC.2.2.2.2.2.1
      have bad : badAt A v tc bf i → (ZG X RX9 cX9_sheet 4 6 0 0 0 0 55 [.ref 0, .int (nI v), .ref (139 + 20 * v), .int (nI i)] [] Sg J) := by
        intro hw
        refine z_bipush (v := -100) dX9_sheet_55 rfl ?_
        refine z_iload_n dX9_sheet_57 rfl ?_
        refine z_isub dX9_sheet_58 ?_
        exact z_iret hE dX9_sheet_59 ⟨rfl, hfr2, Or.inr (Or.inr (Or.inl ⟨v, i, hv1, rfl, hs20, hw, rfl, hC⟩))⟩
      refine z_ist3 dX9_sheet_38 (by decide) rfl ?_
      refine z_iload_n dX9_sheet_39 rfl ?_
      refine z_aload_n dX9_sheet_40 rfl ?_
      refine z_getI fRX9_140 dX9_sheet_41 (by first | assumption | rfl) (by rfl) ?_
      rw [hPJ.1]
      by_cases d1 : i < anq A
      · refine z_icmp_lt (tgt := 55) dX9_sheet_44 (by decide) (fun _ => ?_) (fun hb => absurd (nI_lt d1 (by omega)) hb)
        refine bad ⟨c2, c3, fun j hj => (c4 j hj).1, ?_⟩
        rcases c5 with q | q | q
        · exact Or.inl ⟨q, d1⟩
        · exact absurd d1 (by omega)
        · exact Or.inr (Or.inr q)
      · refine z_icmp_lt (tgt := 55) dX9_sheet_44 (by decide) (fun hb => absurd hb (nI_nlt (by omega) (by omega))) (fun _ => ?_)
        refine z_iload_n dX9_sheet_47 rfl ?_
        refine z_aload_n dX9_sheet_48 rfl ?_
        refine z_getI fRX9_175 dX9_sheet_49 (by first | assumption | rfl) (by rfl) ?_
        rw [htc]
        by_cases d2 : i < tc
        · refine z_icmp_ge (tgt := 60) dX9_sheet_52 (by decide) (fun hb => absurd hb (nI_ge d2 (by omega))) (fun _ => ?_)
          exact bad ⟨c2, c3, fun j hj => (c4 j hj).1, Or.inr (Or.inl ⟨by omega, d2⟩)⟩
        · refine z_icmp_ge (tgt := 60) dX9_sheet_52 (by decide) (fun _ => ?_) (fun hb => absurd (nI_le (by omega) (by omega)) hb)
          have e1 : i = anq A := by omega
          have e2 : tc = anq A := by omega
          refine z_aload_n dX9_sheet_60 rfl ?_
          refine z_iconst (v := 0) dX9_sheet_61 rfl ?_
          refine z_putI fRX9_175 dX9_sheet_62 (by first | assumption | rfl) (by rfl) ?_
          refine z_aload_n dX9_sheet_65 rfl ?_
          refine z_iload_n dX9_sheet_66 rfl ?_
          refine z_aload_n dX9_sheet_67 rfl ?_
          have hk : ∀ a, a ≠ 0 → zup J 0 8 0 a = J a := fun a q => zup_ne _ _ _ q
          have hC2 : CI (zup J 0 8 0) A hc Hh 0 bf := by
            refine ⟨hC.1.keep (fun a q1 q2 => hk a (by omega)), hC.2.1, hC.2.2.1.keep (fun a q1 q2 => hk a (by omega)), ?_, ?_⟩
            · intro w hw
              rcases hC.2.2.2.1 w hw with g | ⟨g1, g2, g3, g4⟩
              · exact Or.inl (by rw [hk _ (by omega)]; exact g)
              · exact Or.inr ⟨by rw [hk _ (by omega)]; exact g1, g2, g3.keep (fun a q1 q2 => hk a (by omega)), g4.keep (fun a q1 q2 => hk a (by omega))⟩
            · exact ⟨by rw [zup_at, upd_at]; rfl, Nat.zero_le _, fun k hk => absurd hk (Nat.not_lt_zero k)⟩
          have hP2 : Pm (zup J 0 8 0) (139 + 20 * v) (anq A) (aqd A) (asd A v) := hPJ.keep (fun a q1 q2 => hk a (by omega))
          have hm : ∀ p, p < anq A → zup J 0 8 0 136 p = mkI (tmk (bf p)) ∧ ∀ k, tmk (bf p) = some k → k < aqd A (vO A v p) 4 := by
            intro p hp
            obtain ⟨q1, q2⟩ := c4 p (by omega)
            refine ⟨by rw [hk _ (by decide)]; exact q2, fun k hk2 => ?_⟩
            unfold tmk at hk2
            by_cases e : bf p = 45
            · rw [if_pos e] at hk2; cases hk2
            · rw [if_neg e] at hk2
              cases hk2
              rcases q1 with q1 | ⟨q1, q3⟩
              · exact absurd q1 e
              · omega
          refine z_cV2p mX9_handIn gRX9_181 dX9_sheet_68 (s_handIn hC2 rfl hv1 hs20 hP2 hm) (by decide) (by first | assumption | rfl) (by rfl) (Nat.le_of_ble_eq_true rfl) (Nat.le_refl _) (Nat.le_refl _) (fun r J hq => ?_)
          obtain ⟨d3, rfl, d4⟩ := hq
          rename_i K2
          exact z_iret hE dX9_sheet_71 ⟨rfl, fun a ha => by rw [d3 a ha, hk a (by omega)]; exact hfr2 a ha, Or.inr (Or.inr (Or.inr ⟨v, hv1, rfl, hs20, ⟨e2, fun j hj => (c4 j (by omega)).1⟩, rfl, d4⟩))⟩
  · refine z_cV1s mX9_paperOf gRX9_119 dX9_sheet_2 (s_paperOfN h hv) (by decide) (by first | assumption | rfl) (by rfl) (Nat.le_of_ble_eq_true rfl) (Nat.le_refl _) (Nat.le_refl _) ?_
    refine z_asn2 dX9_sheet_5 (by decide) rfl ?_
    refine z_aload_nN dX9_sheet_6 rfl ?_
    refine z_ifnonnullN dX9_sheet_7 ?_
    refine z_sipush (v := -1001) dX9_sheet_10 rfl ?_
    exact z_iret hE dX9_sheet_13 ⟨rfl, fun _ _ => rfl, Or.inl ⟨hv, rfl, h⟩⟩
/-- the guesses: what the lots stand at before place k, and the mark there -/
def gsL (A : AS) (v sk : Nat) (s : Int32) : Nat → Int32
  | 0 => s
  | k + 1 => if lvv (lx (gsL A v sk s k)) 10 < sk then lx (gsL A v sk s k) else lx (lx (gsL A v sk s k))
def gsM (A : AS) (v sk : Nat) (s : Int32) (k : Nat) : Nat := if lvv (lx (gsL A v sk s k)) 10 < sk then vK A v k else lvv (lx (lx (gsL A v sk s k))) (aqd A (vO A v k) 4)
def isK (x : Int32) : Prop := ∃ n, n ≤ 10 ∧ x = nI n
theorem s_guess {I : ZI} {A : AS} {hc : Nat} {Hh : Nat → AS} {tc : Nat} {bf : Nat → Nat} {x y z : Int32} (h : CI I A hc Hh tc bf) : ZP yX9_guess cX9_guess 7 (some FieldType.int) 6 [.ref 0, .int x, .int y, .int z] Sg I (fun r J => (∀ a, 259 ≤ a → J a = I a) ∧ (((¬ isV A x ∨ ¬ isK z) ∧ r = some (.int (-1001)) ∧ CI J A hc Hh tc bf) ∨ (isV A x ∧ isK z ∧ ans A = 20 ∧ r = some (.int (-1003)) ∧ CI J A hc Hh tc bf) ∨ (∃ v sk, v < anv A ∧ x = nI v ∧ sk ≤ 10 ∧ z = nI sk ∧ ans A < 20 ∧ r = some (.int (nI (ans A))) ∧ CI J (shA A v (fun p => some (gsM A v sk y p))) (phc hc) (pHh hc Hh A) tc bf))) := by
  have h0 := at_tv
  have hn1 := at_now.1
  have hs0 := at_sheets.1
  have hns := h.2.1.2.2.2.2.1
  have hnv := h.2.1.2.1
  have hn := h.2.1.1.1
  have hlo : LoAt 134 := rfl
  have hl0 : Sg[134]? = some (0, 2, [0]) := rfl
  have hdr : RowAt 135 20 := ⟨rfl, rfl, by decide⟩
  have hd0 := hdr.1
  refine ZSp.of (own := RX9) (L := [.ref 0, .int x, .int y, .int z, zj, zj, zj]) mX9_guess rfl (List.all_eq_true.mp rfl) (Nat.le_of_ble_eq_true rfl) rfl (fun X hE hN => ?_)
  refine z_aload_n dX9_guess_0 rfl ?_
  refine z_iload_n dX9_guess_1 rfl ?_
  by_cases hv : isV A x
  · obtain ⟨v, hv1, rfl⟩ := hv
    have hv6 : v < 6 := by omega
    have hpp := at_paper hv6
    have hp0 := hpp.1
    have hp5 := hpp.2.2.2.1.1
    refine z_cV1p mX9_paperOf gRX9_119 dX9_guess_2 (s_paperOf h rfl hv1) (by decide) (by first | assumption | rfl) (by rfl) (Nat.le_of_ble_eq_true rfl) (Nat.le_refl _) (Nat.le_refl _) (fun r J hq => ?_)
    obtain ⟨rfl, b1, b2, b3, b4⟩ := hq
    have hfr : ∀ a, 259 ≤ a → J a = I a := fun a ha => b1 a (by omega)
    have hcnt : J 7 5 = nI (ans A) := b2.1.2.2.2.2.1
    have bad : ¬ isK z → (ZG X RX9 cX9_guess 7 6 0 0 0 0 22 [.ref 0, .int (nI v), .int y, .int z, .ref (139 + 20 * v), zj, zj] [] Sg J) := by
      intro hw
      refine z_sipush (v := -1001) dX9_guess_22 rfl ?_
      exact z_iret hE dX9_guess_25 ⟨rfl, hfr, Or.inl ⟨Or.inr hw, rfl, b2⟩⟩
    refine z_ast4 dX9_guess_5 (by decide) rfl ?_
    refine z_aload dX9_guess_7 rfl ?_
    refine z_ifnull dX9_guess_9 ?_
    refine z_iload_n dX9_guess_12 rfl ?_
    refine z_if_lt (tgt := 22) dX9_guess_13 (by decide) (fun g1 => ?_) (fun g1 => ?_)
    · refine bad ?_
      rintro ⟨n, n1, rfl⟩
      exact absurd g1 (nI_pos (by omega))
    · refine z_iload_n dX9_guess_16 rfl ?_
      refine z_bipush (v := 10) dX9_guess_17 rfl ?_
      refine z_icmp_le (tgt := 26) dX9_guess_19 (by decide) (fun g2 => ?_) (fun g2 => ?_)
      · refine z_aload_n dX9_guess_26 rfl ?_
        refine z_getR fRX9_10 dX9_guess_27 (by first | assumption | rfl) (by rfl) ?_
        refine z_getR fRX9_66 dX9_guess_30 (by first | assumption | rfl) (by rfl) ?_
        refine z_getI fRX9_70 dX9_guess_33 (by first | assumption | rfl) (by rfl) ?_
        refine z_bipush (v := 20) dX9_guess_36 rfl ?_
        have hK : isK z := nI_of2 (M := 10) (n := 10) rfl g1 g2
        obtain ⟨sk, hsk, rfl⟩ := hK
        rw [hcnt]
        by_cases hz : ans A = 20
        · refine z_icmp_lt (tgt := 45) dX9_guess_38 (by decide) (fun hb => absurd hb (by rw [hz]; decide)) (fun _ => ?_)
          refine z_sipush (v := -1003) dX9_guess_41 rfl ?_
          exact z_iret hE dX9_guess_44 ⟨rfl, hfr, Or.inr (Or.inl ⟨⟨v, hv1, rfl⟩, ⟨sk, hsk, rfl⟩, hz, rfl, b2⟩)⟩
        · have hs20 : ans A < 20 := by omega
          have loop : ∀ (m k : Nat) (K : ZI), k + m = anq A → (∀ a, a ≠ 134 → a ≠ 136 → K a = J a) → K 134 0 = gsL A v sk y k → (∀ j, j < k → K 136 j = mkI (some (gsM A v sk y j))) → (ZG X RX9 cX9_guess 7 6 0 0 0 0 56 [.ref 0, .int (nI v), .int y, .int (nI sk), .ref (139 + 20 * v), .int (nI k), zj] [] Sg K) := by
            intro m
            induction m with
            | zero =>
              intro k K hkm hk hL hM
              have e : k = anq A := by omega
              subst e
              have hPK : Pm K (139 + 20 * v) (anq A) (aqd A) (asd A v) := b3.keep (fun a q1 q2 => hk a (by omega) (by omega))
              have hCK : CI K A hc Hh tc bf := b2.keep (fun a q => hk a (by omega) (by omega)) (hk 138 (by decide) (by decide)) (fun w hw => by
                rcases b2.2.2.2.1 w hw with g | ⟨g1, g2, g3, g4⟩
                · exact Or.inl (by rw [hk _ (by omega) (by omega)]; exact g)
                · exact Or.inr ⟨by rw [hk _ (by omega) (by omega)]; exact g1, g2, g3.keep (fun a q1 q2 => hk a (by omega) (by omega)), g4.keep (fun a q1 q2 => hk a (by omega) (by omega))⟩)
              have hm : ∀ p, p < anq A → K 136 p = mkI (some (gsM A v sk y p)) ∧ ∀ k, some (gsM A v sk y p) = some k → k < aqd A (vO A v p) 4 := by
                intro p hp
                refine ⟨hM p hp, fun k hk2 => ?_⟩
                cases hk2
                unfold gsM
                split
                · exact (Ky_lt (seed := asd A v) h.2.1.1 hp).1
                · have := (h.2.1.1.2 _ ((Od_en (anq A) (aqd A) (asd A v)).1 p hp)).2.2.1
                  exact lvv_lt _ (show 0 < aqd A (vO A v p) 4 from Nat.lt_of_lt_of_le (by decide) this)
              refine z_iload dX9_guess_56 rfl ?_
              refine z_aload dX9_guess_58 rfl ?_
              refine z_getI fRX9_140 dX9_guess_60 (by first | assumption | rfl) (by rfl) ?_
              refine z_icmp_ge (tgt := 134) dX9_guess_63 (by decide) (fun _ => ?_) (fun hb => absurd (by rw [hPK.1]; exact nI_le (Nat.le_refl _) (by omega)) hb)
              refine z_aload_n dX9_guess_134 rfl ?_
              refine z_iload_n dX9_guess_135 rfl ?_
              refine z_aload dX9_guess_136 rfl ?_
              have hfr2 : ∀ a, 259 ≤ a → K a = I a := fun a ha => by rw [hk a (by omega) (by omega), hfr a ha]
              refine z_cV2p mX9_handIn gRX9_181 dX9_guess_138 (s_handIn hCK rfl hv1 hs20 hPK hm) (by decide) (by first | assumption | rfl) (by rfl) (Nat.le_of_ble_eq_true rfl) (Nat.le_refl _) (Nat.le_refl _) (fun r J hq => ?_)
              obtain ⟨d3, rfl, d4⟩ := hq
              exact z_iret hE dX9_guess_141 ⟨rfl, fun a ha => by rw [d3 a ha, hfr2 a ha], Or.inr (Or.inr ⟨v, sk, hv1, rfl, hsk, rfl, hs20, rfl, d4⟩)⟩
            | succ m ih =>
              intro k K hkm hk hL hM
              have hk1 : k < anq A := by omega
              have hPK : Pm K (139 + 20 * v) (anq A) (aqd A) (asd A v) := b3.keep (fun a q1 q2 => hk a (by omega) (by omega))
              have hSK : Sc K 1 A := b2.1.keep (fun a q1 q2 => hk a (by omega) (by omega))
              have hch := (h.2.1.1.2 _ ((Od_en (anq A) (aqd A) (asd A v)).1 k hk1))
              have hc1 : 0 < aqd A (vO A v k) 4 := Nat.lt_of_lt_of_le (by decide) hch.2.2.1
              have hc2 : aqd A (vO A v k) 4 < 1000 := Nat.lt_of_le_of_lt hch.2.2.2.1 (by decide)
              have e1 : gsL A v sk y (k + 1) = if lvv (lx (gsL A v sk y k)) 10 < sk then lx (gsL A v sk y k) else lx (lx (gsL A v sk y k)) := rfl
              have e2 : gsM A v sk y k = if lvv (lx (gsL A v sk y k)) 10 < sk then vK A v k else lvv (lx (lx (gsL A v sk y k))) (aqd A (vO A v k) 4) := rfl
              have hlt := lvv_lt (lx (gsL A v sk y k)) (m := 10) (by decide)
              refine z_iload dX9_guess_56 rfl ?_
              refine z_aload dX9_guess_58 rfl ?_
              refine z_getI fRX9_140 dX9_guess_60 (by first | assumption | rfl) (by rfl) ?_
              refine z_icmp_ge (tgt := 134) dX9_guess_63 (by decide) (fun hb => absurd hb (by rw [hPK.1]; exact nI_ge (by omega) (by omega))) (fun _ => ?_)
              refine z_aload_n dX9_guess_66 rfl ?_
              refine z_getR fRX9_44 dX9_guess_67 (by first | assumption | rfl) (by rfl) ?_
              refine z_bipush (v := 10) dX9_guess_70 rfl ?_
              refine z_cV1s mX2_next gRX9_188 dX9_guess_72 (s_next hlo (show (10 : Int32) = nI 10 from rfl) (by decide) (by decide)) (by decide) (by first | assumption | rfl) (by rfl) (Nat.le_of_ble_eq_true rfl) (Nat.le_refl _) (Nat.le_refl _) ?_
              rw [hL]
              have hk2 : ∀ a, a ≠ 134 → zup K 134 0 (lx (gsL A v sk y k)) a = K a := fun a q => zup_ne _ _ _ q
              have hP2 : Pm (zup K 134 0 (lx (gsL A v sk y k))) (139 + 20 * v) (anq A) (aqd A) (asd A v) := hPK.keep (fun a q1 q2 => hk2 a (by omega))
              have hS2 : Sc (zup K 134 0 (lx (gsL A v sk y k))) 1 A := hSK.keep (fun a q1 q2 => hk2 a (by omega))
              refine z_iload_n dX9_guess_75 rfl ?_
              refine z_icmp_ge (tgt := 83) dX9_guess_76 (by decide) (fun g3 => ?_) (fun g3 => ?_)
              · refine z_iconst (v := 0) dX9_guess_83 rfl ?_
                refine z_ist6 dX9_guess_84 (by decide) rfl ?_
                refine z_aload_n dX9_guess_86 rfl ?_
                refine z_getR fRX9_53 dX9_guess_87 (by first | assumption | rfl) (by rfl) ?_
                refine z_iload dX9_guess_90 rfl ?_
                refine z_iload dX9_guess_92 rfl ?_
                have hnl : ¬ lvv (lx (gsL A v sk y k)) 10 < sk := fun q => absurd g3 (nI_ge q (by omega))
                rw [if_neg hnl] at e1 e2
                refine z_if_eq (tgt := 110) dX9_guess_94 (by decide) (fun _ => ?_) (fun hb => absurd (rfl) hb)
                refine z_aload_n dX9_guess_110 rfl ?_
                refine z_getR fRX9_44 dX9_guess_111 (by first | assumption | rfl) (by rfl) ?_
                refine z_aload_n dX9_guess_114 rfl ?_
                refine z_aload dX9_guess_115 rfl ?_
                refine z_iload dX9_guess_117 rfl ?_
                refine z_cV2s mX9_choicesAt gRX9_130 dX9_guess_119 (s_choicesAt hS2 h.2.1 hv6 hP2 rfl hk1) (by decide) (by first | assumption | rfl) (by rfl) (Nat.le_of_ble_eq_true rfl) (Nat.le_refl _) (Nat.le_refl _) ?_
                refine z_cV1s mX2_next gRX9_188 dX9_guess_122 (s_next hlo rfl hc1 hc2) (by decide) (by first | assumption | rfl) (by rfl) (Nat.le_of_ble_eq_true rfl) (Nat.le_refl _) (Nat.le_refl _) ?_
                rw [zup_at, upd_at]
                refine z_cV2n mX6_set gRX9_109 dX9_guess_125 (s_setN hdr rfl (show k < 20 by omega)) (by decide) (by first | assumption | rfl) (by rfl) (Nat.le_of_ble_eq_true rfl) (Nat.le_refl _) (Nat.le_refl _) ?_
                refine z_inc5 (w := 1) dX9_guess_128 rfl (by decide) rfl ?_
                refine z_goto (tgt := 56) dX9_guess_131 (by decide) ?_
                rw [nI_1]
                refine z_fg6 ?_
                refine ih (k + 1) _ (by omega) (fun a q1 q2 => by rw [zup_ne _ _ _ q2, zup_ne _ _ _ q1, zup_ne _ _ _ q1]; exact hk a q1 q2) (by rw [zup_ne _ _ _ (by decide), zup_at, upd_at, e1]) (fun j hj => ?_)
                rw [zup_at]
                by_cases e : j = k
                · subst e
                  rw [upd_at, e2]
                  rfl
                · rw [upd_ne _ _ e, zup_ne _ _ _ (by decide), zup_ne _ _ _ (by decide)]
                  exact hM j (by omega)
              · refine z_iconst (v := 1) dX9_guess_79 rfl ?_
                refine z_goto (tgt := 84) dX9_guess_80 (by decide) ?_
                refine z_ist6 dX9_guess_84 (by decide) rfl ?_
                refine z_aload_n dX9_guess_86 rfl ?_
                refine z_getR fRX9_53 dX9_guess_87 (by first | assumption | rfl) (by rfl) ?_
                refine z_iload dX9_guess_90 rfl ?_
                refine z_iload dX9_guess_92 rfl ?_
                have hnl : lvv (lx (gsL A v sk y k)) 10 < sk := by
                  rcases Nat.lt_or_ge (lvv (lx (gsL A v sk y k)) 10) sk with q | q
                  · exact q
                  · exact absurd (nI_le q (by omega)) g3
                rw [if_pos hnl] at e1 e2
                refine z_if_eq (tgt := 110) dX9_guess_94 (by decide) (fun hb => absurd hb (by decide)) (fun _ => ?_)
                refine z_aload dX9_guess_97 rfl ?_
                refine z_getR fRX9_145 dX9_guess_99 (by first | assumption | rfl) (by rfl) ?_
                refine z_iload dX9_guess_102 rfl ?_
                refine z_cV1s mX6_get gRX9_115 dX9_guess_104 (s_getN hpp.2.2.2.1 rfl (show k < 20 by omega)) (by decide) (by first | assumption | rfl) (by rfl) (Nat.le_of_ble_eq_true rfl) (Nat.le_refl _) (Nat.le_refl _) ?_
                rw [hP2.2.2.2.2 k hk1]
                refine z_goto (tgt := 125) dX9_guess_107 (by decide) ?_
                refine z_cV2n mX6_set gRX9_109 dX9_guess_125 (s_setN hdr rfl (show k < 20 by omega)) (by decide) (by first | assumption | rfl) (by rfl) (Nat.le_of_ble_eq_true rfl) (Nat.le_refl _) (Nat.le_refl _) ?_
                refine z_inc5 (w := 1) dX9_guess_128 rfl (by decide) rfl ?_
                refine z_goto (tgt := 56) dX9_guess_131 (by decide) ?_
                rw [nI_1]
                refine z_fg6 ?_
                refine ih (k + 1) _ (by omega) (fun a q1 q2 => by rw [zup_ne _ _ _ q2, zup_ne _ _ _ q1]; exact hk a q1 q2) (by rw [zup_ne _ _ _ (by decide), zup_at, upd_at, e1]) (fun j hj => ?_)
                rw [zup_at]
                by_cases e : j = k
                · subst e
                  rw [upd_at, e2]
                  rfl
                · rw [upd_ne _ _ e, zup_ne _ _ _ (by decide)]
                  exact hM j (by omega)
          refine z_icmp_lt (tgt := 45) dX9_guess_38 (by decide) (fun _ => ?_) (fun hb => absurd (nI_lt (b := 20) hs20 (by decide)) hb)
          refine z_aload_n dX9_guess_45 rfl ?_
          refine z_getR fRX9_44 dX9_guess_46 (by first | assumption | rfl) (by rfl) ?_
          refine z_iload_n dX9_guess_49 rfl ?_
          refine z_cV1n mX2_begin gRX9_185 dX9_guess_50 (s_begin hlo) (by decide) (by first | assumption | rfl) (by rfl) (Nat.le_of_ble_eq_true rfl) (Nat.le_refl _) (Nat.le_refl _) ?_
          refine z_iconst (v := 0) dX9_guess_53 rfl ?_
          refine z_ist5 dX9_guess_54 (by decide) rfl ?_
          exact loop (anq A) 0 _ (by omega) (fun a q1 q2 => zup_ne _ _ _ q1) (by rw [zup_at, upd_at]; rfl) (fun j q => absurd q (Nat.not_lt_zero j))
      · refine bad ?_
        rintro ⟨n, n1, rfl⟩
        exact absurd (nI_le (b := 10) n1 (by decide)) g2
  · refine z_cV1s mX9_paperOf gRX9_119 dX9_guess_2 (s_paperOfN h hv) (by decide) (by first | assumption | rfl) (by rfl) (Nat.le_of_ble_eq_true rfl) (Nat.le_refl _) (Nat.le_refl _) ?_
    refine z_asn4 dX9_guess_5 (by decide) rfl ?_
    refine z_aloadN dX9_guess_7 rfl ?_
    refine z_ifnullN (tgt := 22) dX9_guess_9 (by decide) ?_
    refine z_sipush (v := -1001) dX9_guess_22 rfl ?_
    exact z_iret hE dX9_guess_25 ⟨rfl, fun _ _ => rfl, Or.inl ⟨Or.inl hv, rfl, h⟩⟩

