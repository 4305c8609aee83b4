/-! ===== rows and lots ===== -/
theorem s_get {I : ZI} {a n : Nat} {i : Int32} (h : RowAt a n) : ZE yX6_get cX6_get 2 (some FieldType.int) 0 [.ref a, .int i] Sg I (some (.int (rget n (I (a + 1)) i))) I := by
  obtain ⟨h1, h2, h3⟩ := h
  refine ZSp.of (own := RX6) (L := [.ref a, .int i]) mX6_get rfl (List.all_eq_true.mp rfl) (Nat.le_of_ble_eq_true rfl) rfl (fun X hE hN => ?_)
  refine z_iload_n dX6_get_0 rfl ?_
  refine z_if_lt (tgt := 22) dX6_get_1 (by decide) (fun hb => ?_) (fun hb => ?_)
  · refine z_iconst (v := 0) dX6_get_22 rfl ?_
    exact z_eireturn hE dX6_get_23 (by rw [rget, if_pos (Or.inl hb)]) rfl
  · refine z_iload_n dX6_get_4 rfl ?_
    refine z_aload_n dX6_get_5 rfl ?_
    refine z_getR fRX6_7 dX6_get_6 (by first | assumption | rfl) (by rfl) ?_
    refine z_alen dX6_get_9 (by first | assumption | rfl) ?_
    refine z_icmp_ge (tgt := 22) dX6_get_10 (by decide) (fun hc => ?_) (fun hc => ?_)
    · refine z_iconst (v := 0) dX6_get_22 rfl ?_
      exact z_eireturn hE dX6_get_23 (by rw [rget, if_pos (Or.inr hc)]) rfl
    · refine z_aload_n dX6_get_13 rfl ?_
      refine z_getR fRX6_7 dX6_get_14 (by first | assumption | rfl) (by rfl) ?_
      refine z_iload_n dX6_get_17 rfl ?_
      obtain ⟨k, hk, rfl⟩ := r_ix h3 hb hc
      refine z_ialdN dX6_get_18 h2 rfl hk (by omega) ?_
      refine z_goto (tgt := 23) dX6_get_19 (by decide) ?_
      exact z_eireturn hE dX6_get_23 (by rw [rget_in hk h3]) rfl
theorem s_getN {I : ZI} {a n k : Nat} {i : Int32} (h : RowAt a n) (hi : i = nI k) (hk : k < n) : ZE yX6_get cX6_get 2 (some FieldType.int) 0 [.ref a, .int i] Sg I (some (.int (I (a + 1) k))) I :=
  (s_get h).of_eq (by rw [hi, rget_in hk h.2.2]) rfl
theorem s_set {I : ZI} {a n : Nat} {i x : Int32} (h : RowAt a n) : ZE yX6_set cX6_set 3 none 0 [.ref a, .int i, .int x] Sg I none (zcp I (a + 1) (rset n (I (a + 1)) i x)) := by
  obtain ⟨h1, h2, h3⟩ := h
  refine ZSp.of (own := RX6) (L := [.ref a, .int i, .int x]) mX6_set rfl (List.all_eq_true.mp rfl) (Nat.le_of_ble_eq_true rfl) rfl (fun X hE hN => ?_)
  refine z_iload_n dX6_set_0 rfl ?_
  refine z_if_lt (tgt := 20) dX6_set_1 (by decide) (fun hb => ?_) (fun hb => ?_)
  · exact z_evreturn hE dX6_set_20 (by rw [rset, if_pos (Or.inl hb), zcp_same])
  · refine z_iload_n dX6_set_4 rfl ?_
    refine z_aload_n dX6_set_5 rfl ?_
    refine z_getR fRX6_7 dX6_set_6 (by first | assumption | rfl) (by rfl) ?_
    refine z_alen dX6_set_9 (by first | assumption | rfl) ?_
    refine z_icmp_ge (tgt := 20) dX6_set_10 (by decide) (fun hc => ?_) (fun hc => ?_)
    · exact z_evreturn hE dX6_set_20 (by rw [rset, if_pos (Or.inr hc), zcp_same])
    · refine z_aload_n dX6_set_13 rfl ?_
      refine z_getR fRX6_7 dX6_set_14 (by first | assumption | rfl) (by rfl) ?_
      refine z_iload_n dX6_set_17 rfl ?_
      refine z_iload_n dX6_set_18 rfl ?_
      obtain ⟨k, hk, rfl⟩ := r_ix h3 hb hc
      refine z_iastN dX6_set_19 h2 rfl hk (by omega) ?_
      exact z_evreturn hE dX6_set_20 (by rw [rset_in hk h3, zup_zcp])
theorem s_setN {I : ZI} {a n k : Nat} {i x : Int32} (h : RowAt a n) (hi : i = nI k) (hk : k < n) : ZE yX6_set cX6_set 3 none 0 [.ref a, .int i, .int x] Sg I none (zup I (a + 1) k x) :=
  (s_set h).of_eq rfl (by rw [hi, rset_in hk h.2.2, zup_zcp])
def swI (f : Nat → Int32) (i j : Nat) : Nat → Int32 := fun k => if k = j then f i else if k = i then f j else f k
theorem s_exchange {I : ZI} {a n i j : Nat} {x y : Int32} (h : RowAt a n) (hx : x = nI i) (hy : y = nI j) (hi : i < n) (hj : j < n) : ZE yX6_exchange cX6_exchange 4 none 0 [.ref a, .int x, .int y] Sg I none (zcp I (a + 1) (swI (I (a + 1)) i j)) := by
  obtain ⟨h1, h2, h3⟩ := h
  subst hx
  subst hy
  refine ZSp.of (own := RX6) (L := [.ref a, .int (nI i), .int (nI j), zj]) mX6_exchange rfl (List.all_eq_true.mp rfl) (Nat.le_of_ble_eq_true rfl) rfl (fun X hE hN => ?_)
  refine z_iload_n dX6_exchange_0 rfl ?_
  refine z_if_lt (tgt := 52) dX6_exchange_1 (by decide) (fun hb => absurd hb (nI_pos (by omega))) (fun _ => ?_)
  refine z_iload_n dX6_exchange_4 rfl ?_
  refine z_aload_n dX6_exchange_5 rfl ?_
  refine z_getR fRX6_7 dX6_exchange_6 (by first | assumption | rfl) (by rfl) ?_
  refine z_alen dX6_exchange_9 (by first | assumption | rfl) ?_
  refine z_icmp_ge (tgt := 52) dX6_exchange_10 (by decide) (fun hb => absurd hb (nI_ge hi (by omega))) (fun _ => ?_)
  refine z_iload_n dX6_exchange_13 rfl ?_
  refine z_if_lt (tgt := 52) dX6_exchange_14 (by decide) (fun hb => absurd hb (nI_pos (by omega))) (fun _ => ?_)
  refine z_iload_n dX6_exchange_17 rfl ?_
  refine z_aload_n dX6_exchange_18 rfl ?_
  refine z_getR fRX6_7 dX6_exchange_19 (by first | assumption | rfl) (by rfl) ?_
  refine z_alen dX6_exchange_22 (by first | assumption | rfl) ?_
  refine z_icmp_ge (tgt := 52) dX6_exchange_23 (by decide) (fun hb => absurd hb (nI_ge hj (by omega))) (fun _ => ?_)
  refine z_aload_n dX6_exchange_26 rfl ?_
  refine z_getR fRX6_7 dX6_exchange_27 (by first | assumption | rfl) (by rfl) ?_
  refine z_iload_n dX6_exchange_30 rfl ?_
  refine z_ialdN dX6_exchange_31 h2 rfl hi (by omega) ?_
  refine z_ist3 dX6_exchange_32 (by decide) rfl ?_
  refine z_aload_n dX6_exchange_33 rfl ?_
  refine z_getR fRX6_7 dX6_exchange_34 (by first | assumption | rfl) (by rfl) ?_
  refine z_iload_n dX6_exchange_37 rfl ?_
  refine z_aload_n dX6_exchange_38 rfl ?_
  refine z_getR fRX6_7 dX6_exchange_39 (by first | assumption | rfl) (by rfl) ?_
  refine z_iload_n dX6_exchange_42 rfl ?_
  refine z_ialdN dX6_exchange_43 h2 rfl hj (by omega) ?_
  refine z_iastN dX6_exchange_44 h2 rfl hi (by omega) ?_
  refine z_aload_n dX6_exchange_45 rfl ?_
  refine z_getR fRX6_7 dX6_exchange_46 (by first | assumption | rfl) (by rfl) ?_
  refine z_iload_n dX6_exchange_49 rfl ?_
  refine z_iload_n dX6_exchange_50 rfl ?_
  refine z_iastN dX6_exchange_51 h2 rfl hj (by omega) ?_
  exact z_evreturn hE dX6_exchange_52 (by
    funext q
    rw [zup_z, zcp_z]
    by_cases hq : q = a + 1
    · subst hq
      rw [if_pos rfl, if_pos rfl]
      funext k
      rw [zup_at, swI, upd, upd]
    · rw [if_neg hq, if_neg hq, zup_ne _ _ _ hq])
/-- the copy of a row into another one of its length -/
def rcopy (n : Nat) (f g : Nat → Int32) : Nat → Int32 := va_cpy f g 0 0 n
theorem rcopy_in {n k : Nat} {f g : Nat → Int32} (hk : k < n) : rcopy n f g k = f k := by
  rw [rcopy, pk_cpy_in (Nat.zero_le _) (by omega)]
  congr 1
  omega
theorem s_rowCopy {I : ZI} {a c n : Nat} (h : RowAt a n) (hc : RowAt c n) : ZE yX6_copy cX6_copy 2 none 1 [.ref a, .ref c] Sg I none (zcp I (a + 1) (rcopy n (I (c + 1)) (I (a + 1)))) := by
  obtain ⟨h1, h2, h3⟩ := h
  obtain ⟨g1, g2, g3⟩ := hc
  refine ZSp.of (own := RX6) (L := [.ref a, .ref c]) mX6_copy rfl (List.all_eq_true.mp rfl) (Nat.le_of_ble_eq_true rfl) rfl (fun X hE hN => ?_)
  refine z_aload_n dX6_copy_0 rfl ?_
  refine z_getR fRX6_7 dX6_copy_1 (by first | assumption | rfl) (by rfl) ?_
  refine z_iconst (v := 0) dX6_copy_4 rfl ?_
  refine z_aload_n dX6_copy_5 rfl ?_
  refine z_getR fRX6_7 dX6_copy_6 (by first | assumption | rfl) (by rfl) ?_
  refine z_iconst (v := 0) dX6_copy_9 rfl ?_
  refine z_aload_n dX6_copy_10 rfl ?_
  refine z_getR fRX6_7 dX6_copy_11 (by first | assumption | rfl) (by rfl) ?_
  refine z_alen dX6_copy_14 (by first | assumption | rfl) ?_
  refine z_aload_n dX6_copy_15 rfl ?_
  refine z_getR fRX6_7 dX6_copy_16 (by first | assumption | rfl) (by rfl) ?_
  refine z_alen dX6_copy_19 (by first | assumption | rfl) ?_
  refine z_mmin gRX6_13 j_min_static j_math_ini j_min_code dX6_copy_20 (by decide) (Nat.le_of_ble_eq_true rfl) (Nat.le_refl _) (Nat.le_refl _) ?_
  rw [if_neg (nI_nlt (Nat.le_refl _) (by omega))]
  refine z_acopy gRX6_19 j_acp_native j_acp_static j_sys_ini dX6_copy_23 (by decide) (Nat.le_of_ble_eq_true rfl) g2 h2 (nI_pos (by omega)) (by rw [nI_clamp (by omega)]; omega) (by rw [nI_clamp (by omega)]; omega) ?_
  rw [nI_clamp (by omega)]
  exact z_evreturn hE dX6_copy_26 rfl

