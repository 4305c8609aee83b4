/-! ===== lots and their mixing of a row ===== -/
theorem z_ushr16 (x : Int32) : (x.toUInt32 >>> ((16 : Int32).toUInt32 &&& Int32.toUInt32 31)).toInt32 = nI (x.toBitVec.toNat / 65536) := by
  have h1 := pk_ushr x 16 16 (by decide)
  have h2 : x.toBitVec.toNat < 2 ^ 32 := x.toBitVec.isLt
  have h3 : (nI (x.toBitVec.toNat / 65536)).toBitVec.toNat = x.toBitVec.toNat / 65536 := pk_tn (by omega)
  apply Int32.toBitVec_inj.mp
  apply BitVec.eq_of_toNat_eq
  rw [h1, h3]
theorem s_begin {I : ZI} {o : Nat} {x : Int32} (h : LoAt o) : ZE yX2_begin cX2_begin 2 none 0 [.ref o, .int x] Sg I none (zup I o 0 x) := by
  have h1 : Sg[o]? = some (0, 2, [0]) := h
  refine ZSp.of (own := RX2) (L := [.ref o, .int x]) mX2_begin rfl (List.all_eq_true.mp rfl) (Nat.le_of_ble_eq_true rfl) rfl (fun X hE hN => ?_)
  refine z_aload_n dX2_begin_0 rfl ?_
  refine z_iload_n dX2_begin_1 rfl ?_
  refine z_putI fRX2_7 dX2_begin_2 (by first | assumption | rfl) (by rfl) ?_
  exact z_evreturn hE dX2_begin_5 rfl
theorem s_next {I : ZI} {o m : Nat} {y : Int32} (h : LoAt o) (hy : y = nI m) (h0 : 0 < m) (hm : m < 1000) : ZE yX2_next cX2_next 2 (some FieldType.int) 0 [.ref o, .int y] Sg I (some (.int (nI (lvv (lx (I o 0)) m)))) (zup I o 0 (lx (I o 0))) := by
  have h1 : Sg[o]? = some (0, 2, [0]) := h
  subst hy
  refine ZSp.of (own := RX2) (L := [.ref o, .int (nI m)]) mX2_next rfl (List.all_eq_true.mp rfl) (Nat.le_of_ble_eq_true rfl) rfl (fun X hE hN => ?_)
  refine z_aload_n dX2_next_0 rfl ?_
  refine z_ldc kRX2_13 dX2_next_1 ?_
  refine z_aload_n dX2_next_3 rfl ?_
  refine z_getI fRX2_7 dX2_next_4 (by first | assumption | rfl) (by rfl) ?_
  refine z_imul dX2_next_7 ?_
  refine z_sipush (v := 12345) dX2_next_8 rfl ?_
  refine z_iadd dX2_next_11 ?_
  refine z_putI fRX2_7 dX2_next_12 (by first | assumption | rfl) (by rfl) ?_
  refine z_iload_n dX2_next_15 rfl ?_
  refine z_if_le (tgt := 31) dX2_next_16 (by decide) (fun hb => absurd hb (nI_nle h0 (by omega))) (fun _ => ?_)
  refine z_aload_n dX2_next_19 rfl ?_
  refine z_getI fRX2_7 dX2_next_20 (by first | assumption | rfl) (by rfl) ?_
  refine z_bipush (v := 16) dX2_next_23 rfl ?_
  refine z_iushr dX2_next_25 ?_
  refine z_iload_n dX2_next_26 rfl ?_
  refine z_irem dX2_next_27 (nI_ne0 h0 (by omega)) ?_
  refine z_goto (tgt := 32) dX2_next_28 (by decide) ?_
  exact z_eireturn hE dX2_next_32 (by
    rw [zup_at, upd_at, z_ushr16, pk_rem (by have := (lx (I o 0)).toBitVec.isLt; show _ / 65536 < _; omega) h0 (by omega)]
    rfl) rfl
/-- a row's mixing: the lots' state at o, the row's ints at a + 1 -/
theorem s_lotsMix {o a n m : Nat} {y : Int32} (ho : LoAt o) (ha : RowAt a n) (hoa : o ≠ a + 1) (hm : m ≤ n) (hy : y = nI m) (I : ZI) :
    ZE yX2_mix cX2_mix 4 none 1 [.ref o, .ref a, .int y] Sg I none (zup (zcp I (a + 1) (mixA (m - 1) (I o 0, I (a + 1))).2) o 0 (mixA (m - 1) (I o 0, I (a + 1))).1) := by
  subst hy
  have hn := ha.2.2
  have h1 : Sg[o]? = some (0, 2, [0]) := ho
  have ha1 := ha.1
  refine ZSp.of (own := RX2) (L := [.ref o, .ref a, .int (nI m), zj]) mX2_mix rfl (List.all_eq_true.mp rfl) (Nat.le_of_ble_eq_true rfl) rfl (fun X hE hN => ?_)
  have loop : ∀ (i : Nat) (J : ZI), i < n ∨ i = 0 → (∀ q, q ≠ o → q ≠ a + 1 → J q = I q) → (∀ k, k ≠ 0 → J o k = I o k) → mixA i (J o 0, J (a + 1)) = mixA (m - 1) (I o 0, I (a + 1)) → (ZG X RX2 cX2_mix 4 1 0 0 0 0 4 [.ref o, .ref a, .int (nI m), .int (nI i)] [] Sg J) := by
    intro i
    induction i with
    | zero =>
      intro J _ hJ hJo hf
      refine z_iload_n dX2_mix_4 rfl ?_
      refine z_iconst (v := 1) dX2_mix_5 rfl ?_
      refine z_icmp_lt (tgt := 27) dX2_mix_6 (by decide) (fun _ => ?_) (fun hb => absurd (nI_lt (show 0 < 1 by omega) (by omega)) hb)
      exact z_evreturn hE dX2_mix_27 (by
        funext q
        have hf' : (J o 0, J (a + 1)) = mixA (m - 1) (I o 0, I (a + 1)) := hf
        rw [← hf', zup_z]
        by_cases hq : q = o
        · subst hq
          rw [if_pos rfl]
          funext k
          by_cases hk : k = 0
          · subst hk; rw [upd_at]
          · rw [upd_ne _ _ hk, hJo k hk, zcp_ne _ _ hoa]
        · rw [if_neg hq, zcp_z]
          by_cases hq2 : q = a + 1
          · subst hq2; rw [if_pos rfl]
          · rw [if_neg hq2, hJ q hq hq2])
    | succ i ih =>
      intro J hi hJ hJo hf
      have hi : i + 1 < n := by omega
      refine z_iload_n dX2_mix_4 rfl ?_
      refine z_iconst (v := 1) dX2_mix_5 rfl ?_
      refine z_icmp_lt (tgt := 27) dX2_mix_6 (by decide) (fun hb => absurd hb (nI_nlt (show 1 ≤ i + 1 by omega) (by omega))) (fun _ => ?_)
      refine z_aload_n dX2_mix_9 rfl ?_
      refine z_iload_n dX2_mix_10 rfl ?_
      refine z_aload_n dX2_mix_11 rfl ?_
      refine z_iload_n dX2_mix_12 rfl ?_
      refine z_iconst (v := 1) dX2_mix_13 rfl ?_
      refine z_iadd dX2_mix_14 ?_
      refine z_cV1s mX2_next gRX2_14 dX2_mix_15 (s_next ho (nI_1 (i + 1)) (by omega) (by omega)) (by decide) (by first | assumption | rfl) (by rfl) (Nat.le_of_ble_eq_true rfl) (Nat.le_refl _) (Nat.le_refl _) ?_
      refine z_cV2n mX6_exchange gRX2_18 dX2_mix_18 (s_exchange ha rfl rfl hi (Nat.lt_of_lt_of_le (lvv_lt _ (show 0 < i + 1 + 1 by omega)) (by omega))) (by decide) (by first | assumption | rfl) (by rfl) (Nat.le_of_ble_eq_true rfl) (Nat.le_refl _) (Nat.le_refl _) ?_
      refine z_inc3 (w := (-1)) dX2_mix_21 rfl (by decide) rfl ?_
      refine z_goto (tgt := 4) dX2_mix_24 (by decide) ?_
      rw [show nI (i + 1) + (-1) = nI i from pk_m1 i]
      refine ih _ (Or.inl (by omega)) (fun q hq hq2 => ?_) (fun k hk => ?_) ?_
      · rw [zcp_ne _ _ hq2, zup_ne _ _ _ hq, hJ q hq hq2]
      · rw [zcp_ne _ _ hoa, zup_at, upd_ne _ _ hk, hJo k hk]
      · rw [zcp_ne _ _ hoa, zup_at, upd_at, zcp_at, zup_ne _ _ _ (Ne.symm hoa), ← hf]
        rfl
  refine z_iload_n dX2_mix_0 rfl ?_
  refine z_iconst (v := 1) dX2_mix_1 rfl ?_
  refine z_isub dX2_mix_2 ?_
  refine z_ist3 dX2_mix_3 (by decide) rfl ?_
  by_cases hm0 : m = 0
  · subst hm0
    refine z_iload_n dX2_mix_4 rfl ?_
    refine z_iconst (v := 1) dX2_mix_5 rfl ?_
    refine z_icmp_lt (tgt := 27) dX2_mix_6 (by decide) (fun _ => ?_) (fun hb => absurd ((show (nI 0 - 1 : Int32) < 1 by decide)) hb)
    exact z_evreturn hE dX2_mix_27 (by
      show I = zup (zcp I (a + 1) (I (a + 1))) o 0 (I o 0)
      rw [zcp_same]
      funext q
      rw [zup_z]
      by_cases hq : q = o
      · subst hq
        rw [if_pos rfl]
        funext k
        by_cases hk : k = 0
        · subst hk; rw [upd_at]
        · rw [upd_ne _ _ hk]
      · rw [if_neg hq])
  · have e : nI m - 1 = nI (m - 1) := by
      rw [show m = (m - 1) + 1 by omega]
      exact nI_pred (m - 1)
    rw [e]
    exact loop (m - 1) I (by omega) (fun _ _ _ => rfl) (fun _ _ => rfl) rfl

