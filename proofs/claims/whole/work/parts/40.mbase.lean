/-! ===== the model: what it holds, its small methods ===== -/
theorem m_obj : Sg[259]? = some (0, 10, [262, 263, 0, 0, 264, 265, 266, 267, 0, 268, 269, 270, 0, 271, 272, 273, 0]) := by decide +kernel
theorem m_v : Sg[260]? = some (1, 540, []) := by decide +kernel
theorem m_past : Sg[261]? = some (1, 2700, []) := by decide +kernel
theorem m_order : Sg[262]? = some (1, 20, []) := by decide +kernel
theorem m_key : Sg[263]? = some (1, 20, []) := by decide +kernel
theorem m_chat : Sg[264]? = some (1, 100, []) := by decide +kernel
theorem m_row : Sg[265]? = some (1, 20, []) := by decide +kernel
theorem m_units : Sg[266]? = some (1, 20, []) := by decide +kernel
theorem m_pageOf : Sg[267]? = some (1, 20, []) := by decide +kernel
theorem m_lineOf : Sg[268]? = some (1, 20, []) := by decide +kernel
theorem m_fOrder : Sg[269]? = some (1, 20, []) := by decide +kernel
theorem m_fKey : Sg[270]? = some (1, 20, []) := by decide +kernel
theorem m_text : Sg[271]? = some (1, 20, []) := by decide +kernel
def mrk (m : Option Nat) : Int32 := match m with
  | none => -1009
  | some k => nI k
/-- the 540 numbers hold A -/
def RV (f : Nat → Int32) (A : AS) : Prop := f 0 = nI (anq A) ∧ f 1 = nI (anv A) ∧ f 2 = nI (aln A) ∧ f 3 = nI (ans A) ∧ (∀ i, i < anq A → ∀ w, w < 5 → f (10 + 5 * i + w) = nI (aqd A i w)) ∧ (∀ v, v < anv A → f (110 + v) = asd A v) ∧ ∀ t, t < ans A → f (116 + 21 * t) = nI (asv A t) ∧ ∀ p, p < anq A → f (116 + 21 * t + 1 + p) = mrk (amk A t p)
def RH (I : ZI) (hc : Nat) (Hh : Nat → AS) : Prop := I 259 2 = nI hc ∧ hc ≤ 5 ∧ ∀ i, i < hc → RV (fun k => I 261 (540 * i + k)) (Hh i) ∧ AV (Hh i)
def RB (I : ZI) (tc : Nat) (bf : Nat → Nat) : Prop := I 259 16 = nI tc ∧ tc ≤ 20 ∧ ∀ k, k < tc → I 271 k = nI (bf k) ∧ 32 ≤ bf k ∧ bf k ≤ 126
def RI (I : ZI) (A : AS) (hc : Nat) (Hh : Nat → AS) (tc : Nat) (bf : Nat → Nat) : Prop := RV (I 260) A ∧ AV A ∧ RH I hc Hh ∧ RB I tc bf
theorem RI.keep {I J : ZI} {A : AS} {hc : Nat} {Hh : Nat → AS} {tc : Nat} {bf : Nat → Nat} (h : RI I A hc Hh tc bf) (h0 : J 260 = I 260) (h1 : J 261 = I 261) (h2 : J 271 = I 271) (h3 : J 259 2 = I 259 2) (h4 : J 259 16 = I 259 16) : RI J A hc Hh tc bf :=
  ⟨by rw [h0]; exact h.1, h.2.1, ⟨by rw [h3]; exact h.2.2.1.1, h.2.2.1.2.1, fun i hi => by rw [h1]; exact h.2.2.1.2.2 i hi⟩, by rw [h4]; exact h.2.2.2.1, h.2.2.2.2.1, fun k hk => by rw [h2]; exact h.2.2.2.2.2 k hk⟩
theorem q_in {I : ZI} {x a b r : Int32} (h1 : ¬ x < a → x ≤ b → r = 1) (h0 : (x < a ∨ b < x) → r = 0) : ZE yX10_in cX10_in 3 (some FieldType.boolean) 0 [.int x, .int a, .int b] Sg I (some (.int r)) I := by
  refine ZSp.of (own := RX10) (L := [.int x, .int a, .int b]) mX10_in rfl (List.all_eq_true.mp rfl) (Nat.le_of_ble_eq_true rfl) rfl (fun X hE hN => ?_)
  have bad : (x < a ∨ b < x) → (ZG X RX10 cX10_in 3 0 0 0 0 0 14 [.int x, .int a, .int b] [] Sg I) := by
    intro hw
    refine z_iconst (v := 0) dX10_in_14 rfl ?_
    exact z_ezreturn hE dX10_in_15 (by decide) (by rw [h0 hw]) rfl
  refine z_iload_n dX10_in_0 rfl ?_
  refine z_iload_n dX10_in_1 rfl ?_
  refine z_icmp_lt (tgt := 14) dX10_in_2 (by decide) (fun g1 => ?_) (fun g1 => ?_)
  · exact bad (Or.inl g1)
  · refine z_iload_n dX10_in_5 rfl ?_
    refine z_iload_n dX10_in_6 rfl ?_
    refine z_icmp_gt (tgt := 14) dX10_in_7 (by decide) (fun g2 => ?_) (fun g2 => ?_)
    · exact bad (Or.inr g2)
    · refine z_iconst (v := 1) dX10_in_10 rfl ?_
      refine z_goto (tgt := 15) dX10_in_11 (by decide) ?_
      exact z_ezreturn hE dX10_in_15 (by decide) (by rw [h1 g1 (Int32.not_lt.mp g2)]) rfl
theorem q_dom {I : ZI} {x r : Int32} {n : Nat} (hn : n ≤ 20) (h1 : (∃ k, k < n ∧ x = nI k) → r = 1) (h0 : (¬ ∃ k, k < n ∧ x = nI k) → r = 0) : ZE yX10_in cX10_in 3 (some FieldType.boolean) 0 [.int x, .int 0, .int (nI n - 1)] Sg I (some (.int r)) I := by
  have e : (nI n - 1).toInt = (n : Int) - 1 := by
    cases n with
    | zero => rfl
    | succ m =>
      rw [nI_pred, nI_toInt (by omega)]
      omega
  refine q_in (fun a b => h1 ?_) (fun a => h0 ?_)
  · obtain ⟨k, hk, rfl⟩ := nI_of a
    rw [Int32.le_iff_toInt_le, e, nI_toInt hk] at b
    exact ⟨k, by omega, rfl⟩
  · rintro ⟨k, hk, rfl⟩
    rcases a with a | a
    · exact nI_pos (by omega) a
    · rw [Int32.lt_iff_toInt_lt, e, nI_toInt (by omega)] at a
      omega
theorem q_isQ {I : ZI} {A : AS} {x r : Int32} (h : RV (I 260) A) (hn : anq A ≤ 20) (h1 : isQ A x → r = 1) (h0 : ¬ isQ A x → r = 0) : ZE yX10_isQuestion cX10_isQuestion 2 (some FieldType.boolean) 1 [.ref 259, .int x] Sg I (some (.int r)) I := by
  have g0 := m_obj
  refine ZSp.of (own := RX10) (L := [.ref 259, .int x]) mX10_isQuestion rfl (List.all_eq_true.mp rfl) (Nat.le_of_ble_eq_true rfl) rfl (fun X hE hN => ?_)
  refine z_iload_n dX10_isQuestion_0 rfl ?_
  refine z_iconst (v := 0) dX10_isQuestion_1 rfl ?_
  refine z_aload_n dX10_isQuestion_2 rfl ?_
  refine z_getR fRX10_7 dX10_isQuestion_3 (by first | assumption | rfl) (by rfl) ?_
  refine z_iconst (v := 0) dX10_isQuestion_6 rfl ?_
  refine z_ialdN dX10_isQuestion_7 m_v (rfl) (by decide) (by decide) ?_
  rw [h.1]
  refine z_iconst (v := 1) dX10_isQuestion_8 rfl ?_
  refine z_isub dX10_isQuestion_9 ?_
  refine z_cS3s mX10_in gRX10_50 dX10_isQuestion_10 (q_dom hn h1 h0) (by decide) (Nat.le_of_ble_eq_true rfl) (Nat.le_refl _) (Nat.le_refl _) ?_
  have hr : r = 0 ∨ r = 1 := by
    by_cases q : isQ A x
    · exact Or.inr (h1 q)
    · exact Or.inl (h0 q)
  exact z_ezreturn hE dX10_isQuestion_13 hr rfl rfl
theorem q_isV {I : ZI} {A : AS} {x r : Int32} (h : RV (I 260) A) (hn : anv A ≤ 6) (h1 : isV A x → r = 1) (h0 : ¬ isV A x → r = 0) : ZE yX10_isVersion cX10_isVersion 2 (some FieldType.boolean) 1 [.ref 259, .int x] Sg I (some (.int r)) I := by
  have g0 := m_obj
  refine ZSp.of (own := RX10) (L := [.ref 259, .int x]) mX10_isVersion rfl (List.all_eq_true.mp rfl) (Nat.le_of_ble_eq_true rfl) rfl (fun X hE hN => ?_)
  refine z_iload_n dX10_isVersion_0 rfl ?_
  refine z_iconst (v := 0) dX10_isVersion_1 rfl ?_
  refine z_aload_n dX10_isVersion_2 rfl ?_
  refine z_getR fRX10_7 dX10_isVersion_3 (by first | assumption | rfl) (by rfl) ?_
  refine z_iconst (v := 1) dX10_isVersion_6 rfl ?_
  refine z_ialdN dX10_isVersion_7 m_v (rfl) (by decide) (by decide) ?_
  rw [h.2.1]
  refine z_iconst (v := 1) dX10_isVersion_8 rfl ?_
  refine z_isub dX10_isVersion_9 ?_
  refine z_cS3s mX10_in gRX10_50 dX10_isVersion_10 (q_dom (show anv A ≤ 20 by omega) h1 h0) (by decide) (Nat.le_of_ble_eq_true rfl) (Nat.le_refl _) (Nat.le_refl _) ?_
  have hr : r = 0 ∨ r = 1 := by
    by_cases q : isV A x
    · exact Or.inr (h1 q)
    · exact Or.inl (h0 q)
  exact z_ezreturn hE dX10_isVersion_13 hr rfl rfl
theorem q_isT {I : ZI} {A : AS} {x r : Int32} (h : RV (I 260) A) (hn : ans A ≤ 20) (h1 : isT A x → r = 1) (h0 : ¬ isT A x → r = 0) : ZE yX10_isSheet cX10_isSheet 2 (some FieldType.boolean) 1 [.ref 259, .int x] Sg I (some (.int r)) I := by
  have g0 := m_obj
  refine ZSp.of (own := RX10) (L := [.ref 259, .int x]) mX10_isSheet rfl (List.all_eq_true.mp rfl) (Nat.le_of_ble_eq_true rfl) rfl (fun X hE hN => ?_)
  refine z_iload_n dX10_isSheet_0 rfl ?_
  refine z_iconst (v := 0) dX10_isSheet_1 rfl ?_
  refine z_aload_n dX10_isSheet_2 rfl ?_
  refine z_getR fRX10_7 dX10_isSheet_3 (by first | assumption | rfl) (by rfl) ?_
  refine z_iconst (v := 3) dX10_isSheet_6 rfl ?_
  refine z_ialdN dX10_isSheet_7 m_v (rfl) (by decide) (by decide) ?_
  rw [h.2.2.2.1]
  refine z_iconst (v := 1) dX10_isSheet_8 rfl ?_
  refine z_isub dX10_isSheet_9 ?_
  refine z_cS3s mX10_in gRX10_50 dX10_isSheet_10 (q_dom hn h1 h0) (by decide) (Nat.le_of_ble_eq_true rfl) (Nat.le_refl _) (Nat.le_refl _) ?_
  have hr : r = 0 ∨ r = 1 := by
    by_cases q : isT A x
    · exact Or.inr (h1 q)
    · exact Or.inl (h0 q)
  exact z_ezreturn hE dX10_isSheet_13 hr rfl rfl
theorem q_of {I : ZI} {A : AS} {x y : Int32} {i w : Nat} (h : RV (I 260) A) (hn : anq A ≤ 20) (hx : x = nI i) (hy : y = nI w) (hi : i < anq A) (hw : w < 5) : ZE yX10_of cX10_of 3 (some FieldType.int) 0 [.ref 259, .int x, .int y] Sg I (some (.int (nI (aqd A i w)))) I := by
  have g0 := m_obj
  subst hx
  subst hy
  refine ZSp.of (own := RX10) (L := [.ref 259, .int (nI i), .int (nI w)]) mX10_of rfl (List.all_eq_true.mp rfl) (Nat.le_of_ble_eq_true rfl) rfl (fun X hE hN => ?_)
  refine z_aload_n dX10_of_0 rfl ?_
  refine z_getR fRX10_7 dX10_of_1 (by first | assumption | rfl) (by rfl) ?_
  refine z_bipush (v := 10) dX10_of_4 rfl ?_
  refine z_iconst (v := 5) dX10_of_6 rfl ?_
  refine z_iload_n dX10_of_7 rfl ?_
  refine z_imul dX10_of_8 ?_
  refine z_iadd dX10_of_9 ?_
  refine z_iload_n dX10_of_10 rfl ?_
  refine z_iadd dX10_of_11 ?_
  refine z_ialdN dX10_of_12 m_v (show (10 : Int32) + 5 * nI i + nI w = nI (10 + 5 * i + w) from by rw [← nI_add, ← nI_add, ← pk_mul]; rfl) (by omega) (by decide) ?_
  rw [h.2.2.2.2.1 i hi w hw]
  exact z_eireturn hE dX10_of_13 rfl rfl
theorem q_sheetAt {I : ZI} {t : Nat} {x : Int32} (hx : x = nI t) : ZE yX10_sheetAt cX10_sheetAt 1 (some FieldType.int) 0 [.int x] Sg I (some (.int (nI (116 + 21 * t)))) I := by
  subst hx
  refine ZSp.of (own := RX10) (L := [.int (nI t)]) mX10_sheetAt rfl (List.all_eq_true.mp rfl) (Nat.le_of_ble_eq_true rfl) rfl (fun X hE hN => ?_)
  refine z_bipush (v := 116) dX10_sheetAt_0 rfl ?_
  refine z_bipush (v := 21) dX10_sheetAt_2 rfl ?_
  refine z_iload_n dX10_sheetAt_4 rfl ?_
  refine z_imul dX10_sheetAt_5 ?_
  refine z_iadd dX10_sheetAt_6 ?_
  rw [show (116 : Int32) + 21 * nI t = nI (116 + 21 * t) from by rw [← nI_add, ← pk_mul]; rfl]
  exact z_eireturn hE dX10_sheetAt_7 rfl rfl

