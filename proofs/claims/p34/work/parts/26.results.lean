/-! ===== the class's questions about sheets ===== -/
def plf (O : Nat → Nat) (q : Nat) : Nat → Nat
  | 0 => 0
  | n + 1 => if O n = q then n else plf O q n
theorem plf_eq {O : Nat → Nat} {n p : Nat} {S : Nat → Prop} (h : En O n S) (hp : p < n) : plf O (O p) n = p := by
  have key : ∀ m, p < m → m ≤ n → plf O (O p) m = p := by
    intro m
    induction m with
    | zero => intro h; exact absurd h (Nat.not_lt_zero p)
    | succ m ih =>
      intro h1 h2
      rw [plf]
      by_cases e : O m = O p
      · rw [if_pos e]; exact h.inj (by omega) hp e
      · rw [if_neg e]
        exact ih (by have : p ≠ m := fun q => e (by rw [q]); omega) (by omega)
  exact key n hp (Nat.le_refl _)
/-- the choice that a sheet has of a question, -1: none -/
def pkA (A : AS) (t q : Nat) : Int32 := pkI (vC A (asv A t) (plf (vO A (asv A t)) q (anq A))) (amk A t (plf (vO A (asv A t)) q (anq A)))
def ptF (R W : Nat) : Int32 := nI (4 * R) - nI W
def ptA (A : AS) (t : Nat) : Int32 := ptF (shR A t) (shW A t)
theorem sc_pick {I : ZI} {A : AS} {t q : Nat} (h : Sc I 1 A) (ht : t < ans A) (hq : q < anq A) : I (7 + 9 + 1) (20 * t + q) = pkA A t q := by
  have hO := Od_en (anq A) (aqd A) (asd A (asv A t))
  obtain ⟨p, hp, e⟩ := hO.2.1 q hq
  have h1 := ((h.2.2.2.2.2 t ht).2.2.2 p hp).2
  have h2 : plf (vO A (asv A t)) q (anq A) = p := by rw [← e]; exact plf_eq hO hp
  rw [pkA, h2, ← e]
  exact h1
theorem sc_pt {I : ZI} {A : AS} {t : Nat} (h : Sc I 1 A) (ht : t < ans A) : ptc I 7 t = ptA A t := by
  obtain ⟨-, h1, h2, -⟩ := h.2.2.2.2.2 t ht
  have h1 : I (7 + 3 + 1) t = nI (shR A t) := h1
  have h2 : I (7 + 5 + 1) t = nI (shW A t) := h2
  rw [ptc, h1, h2, ptA, ptF]
  show nI 4 * _ - _ = _
  rw [pk_mul]
abbrev is04 (w : Int32) : Prop := w = 0 ∨ w = 1 ∨ w = 2 ∨ w = 3 ∨ w = 4
def resF (A : AS) (t : Nat) (w : Int32) : Int32 := if w = 0 then nI (asv A t) else if w = 1 then ptA A t else if w = 2 then nI (shR A t) else if w = 3 then nI (shW A t) else nI (1 + rk (ptA A) (ptA A t) (ans A))
def aResult (A : AS) (x w r : Int32) : Prop := (∃ t, t < ans A ∧ x = nI t ∧ is04 w ∧ r = resF A t w) ∨ ((¬ isT A x ∨ ¬ is04 w) ∧ r = -1001)
theorem z_04 {w : Int32} (h0 : ¬ w < 0) (h4 : w ≤ 4) : is04 w := by
  obtain ⟨k, hk, rfl⟩ := nI_of2 (M := 4) (n := 4) rfl h0 h4
  match k, hk with
  | 0, _ => exact Or.inl rfl
  | 1, _ => exact Or.inr (Or.inl rfl)
  | 2, _ => exact Or.inr (Or.inr (Or.inl rfl))
  | 3, _ => exact Or.inr (Or.inr (Or.inr (Or.inl rfl)))
  | 4, _ => exact Or.inr (Or.inr (Or.inr (Or.inr rfl)))
theorem sc_shn {I : ZI} {A : AS} {t : Nat} {w : Int32} (h : Sc I 1 A) (ht : t < ans A) : shn I 7 (ans A) t w = resF A t w := by
  obtain ⟨h0, h1, h2, -⟩ := h.2.2.2.2.2 t ht
  have h0 : I (7 + 1 + 1) t = nI (asv A t) := h0
  have h1 : I (7 + 3 + 1) t = nI (shR A t) := h1
  have h2 : I (7 + 5 + 1) t = nI (shW A t) := h2
  rw [shn, resF, h0, h1, h2, sc_pt h ht, rk_congr (Q := ptA A) (fun j hj => sc_pt h hj)]
theorem s_result {I : ZI} {A : AS} {hc : Nat} {Hh : Nat → AS} {tc : Nat} {bf : Nat → Nat} {x w : Int32} (h : CI I A hc Hh tc bf) : ZP yX9_result cX9_result 3 (some FieldType.int) 4 [.ref 0, .int x, .int w] Sg I (fun r J => (∃ a, r = some (.int a) ∧ aResult A x w a) ∧ J = I) := by
  have h0 := at_tv
  have hn1 := at_now.1
  have hs := at_sheets
  have hs0 := hs.1
  have hns := h.2.1.2.2.2.2.1
  have hcnt : I 7 5 = nI (ans A) := h.1.2.2.2.2.1
  refine ZSp.of (own := RX9) (L := [.ref 0, .int x, .int w]) mX9_result rfl (List.all_eq_true.mp rfl) (Nat.le_of_ble_eq_true rfl) rfl (fun X hE hN => ?_)
  refine z_aload_n dX9_result_0 rfl ?_
  refine z_getR fRX9_10 dX9_result_1 (by first | assumption | rfl) (by rfl) ?_
  refine z_getR fRX9_66 dX9_result_4 (by first | assumption | rfl) (by rfl) ?_
  refine z_iload_n dX9_result_7 rfl ?_
  refine z_cV1s mX7_has gRX9_195 dX9_result_8 (s_shHas hs) (by decide) (by first | assumption | rfl) (by rfl) (Nat.le_of_ble_eq_true rfl) (Nat.le_refl _) (Nat.le_refl _) ?_
  rw [hcnt]
  have bad : (¬ isT A x ∨ ¬ is04 w) → (ZG X RX9 cX9_result 3 4 0 0 0 0 23 [.ref 0, .int x, .int w] [] Sg I) := by
    intro hb
    refine z_sipush (v := -1001) dX9_result_23 rfl ?_
    exact z_iret hE dX9_result_26 ⟨rfl, ⟨_, rfl, Or.inr ⟨hb, rfl⟩⟩, rfl⟩
  rcases z_dom x (ans A) (by omega) with ⟨t, ht, rfl, hx⟩ | ⟨hx, hxt⟩
  · rw [if_neg hx]
    refine z_if_eq (tgt := 23) dX9_result_11 (by decide) (fun hb => absurd hb (by decide)) (fun _ => ?_)
    refine z_iload_n dX9_result_14 rfl ?_
    refine z_if_lt (tgt := 23) dX9_result_15 (by decide) (fun hw0 => ?_) (fun hw0 => ?_)
    · exact bad (Or.inr (by rintro (rfl | rfl | rfl | rfl | rfl) <;> exact absurd hw0 (by decide)))
    · refine z_iload_n dX9_result_18 rfl ?_
      refine z_iconst (v := 4) dX9_result_19 rfl ?_
      refine z_icmp_le (tgt := 27) dX9_result_20 (by decide) (fun hw1 => ?_) (fun hw1 => ?_)
      · refine z_aload_n dX9_result_27 rfl ?_
        refine z_getR fRX9_10 dX9_result_28 (by first | assumption | rfl) (by rfl) ?_
        refine z_getR fRX9_66 dX9_result_31 (by first | assumption | rfl) (by rfl) ?_
        refine z_iload_n dX9_result_34 rfl ?_
        refine z_iload_n dX9_result_35 rfl ?_
        refine z_cV2s mX7_number gRX9_196 dX9_result_36 (s_shNumber hs hcnt hns rfl (show t < 20 by omega)) (by decide) (by first | assumption | rfl) (by rfl) (Nat.le_of_ble_eq_true rfl) (Nat.le_refl _) (Nat.le_refl _) ?_
        rw [sc_shn h.1 ht]
        exact z_iret hE dX9_result_39 ⟨rfl, ⟨_, rfl, Or.inl ⟨t, ht, rfl, z_04 hw0 hw1, rfl⟩⟩, rfl⟩
      · refine z_eq rfl (bad (Or.inr ?_))
        rintro (rfl | rfl | rfl | rfl | rfl) <;> exact absurd hw1 (by decide)
  · rw [if_pos hx]
    refine z_if_eq (tgt := 23) dX9_result_11 (by decide) (fun _ => ?_) (fun hb => absurd (rfl) hb)
    exact bad (Or.inl hxt)
def anF (A : AS) (t q : Nat) : Int32 := if pkA A t q = -1 then -1009 else pkA A t q
def aAnswer (A : AS) (x y r : Int32) : Prop := (∃ t q, t < ans A ∧ x = nI t ∧ q < anq A ∧ y = nI q ∧ r = anF A t q) ∨ ((¬ isT A x ∨ ¬ isQ A y) ∧ r = -1001)
theorem s_answer {I : ZI} {A : AS} {hc : Nat} {Hh : Nat → AS} {tc : Nat} {bf : Nat → Nat} {x y : Int32} (h : CI I A hc Hh tc bf) : ZP yX9_answer cX9_answer 4 (some FieldType.int) 2 [.ref 0, .int x, .int y] Sg I (fun r J => (∃ a, r = some (.int a) ∧ aAnswer A x y a) ∧ J = I) := by
  have h0 := at_tv
  have hn1 := at_now.1
  have hs := at_sheets
  have hs0 := hs.1
  have hns := h.2.1.2.2.2.2.1
  have hn := h.2.1.1.1
  have hcnt : I 7 5 = nI (ans A) := h.1.2.2.2.2.1
  have hq1 : I 2 1 = nI (anq A) := h.1.1.1
  refine ZSp.of (own := RX9) (L := [.ref 0, .int x, .int y, zj]) mX9_answer rfl (List.all_eq_true.mp rfl) (Nat.le_of_ble_eq_true rfl) rfl (fun X hE hN => ?_)
  refine z_aload_n dX9_answer_0 rfl ?_
  refine z_getR fRX9_10 dX9_answer_1 (by first | assumption | rfl) (by rfl) ?_
  refine z_getR fRX9_66 dX9_answer_4 (by first | assumption | rfl) (by rfl) ?_
  refine z_iload_n dX9_answer_7 rfl ?_
  refine z_cV1s mX7_has gRX9_195 dX9_answer_8 (s_shHas hs) (by decide) (by first | assumption | rfl) (by rfl) (Nat.le_of_ble_eq_true rfl) (Nat.le_refl _) (Nat.le_refl _) ?_
  rw [hcnt]
  have bad : (¬ isT A x ∨ ¬ isQ A y) → (ZG X RX9 cX9_answer 4 2 0 0 0 0 28 [.ref 0, .int x, .int y, zj] [] Sg I) := by
    intro hb
    refine z_sipush (v := -1001) dX9_answer_28 rfl ?_
    exact z_iret hE dX9_answer_31 ⟨rfl, ⟨_, rfl, Or.inr ⟨hb, rfl⟩⟩, rfl⟩
  rcases z_dom x (ans A) (by omega) with ⟨t, ht, rfl, hx⟩ | ⟨hx, hxt⟩
  · rw [if_neg hx]
    refine z_if_eq (tgt := 28) dX9_answer_11 (by decide) (fun hb => absurd hb (by decide)) (fun _ => ?_)
    refine z_aload_n dX9_answer_14 rfl ?_
    refine z_getR fRX9_10 dX9_answer_15 (by first | assumption | rfl) (by rfl) ?_
    refine z_getR fRX9_76 dX9_answer_18 (by first | assumption | rfl) (by rfl) ?_
    refine z_iload_n dX9_answer_21 rfl ?_
    refine z_cV1s mX5_has gRX9_88 dX9_answer_22 (s_has at_q) (by decide) (by first | assumption | rfl) (by rfl) (Nat.le_of_ble_eq_true rfl) (Nat.le_refl _) (Nat.le_refl _) ?_
    rw [hq1]
    rcases z_dom y (anq A) (by omega) with ⟨q, hq, rfl, hy⟩ | ⟨hy, hyq⟩
    · rw [if_neg hy]
      refine z_if_ne (tgt := 32) dX9_answer_25 (by decide) (fun _ => ?_) (fun hb => absurd hb (by decide))
      refine z_aload_n dX9_answer_32 rfl ?_
      refine z_getR fRX9_10 dX9_answer_33 (by first | assumption | rfl) (by rfl) ?_
      refine z_getR fRX9_66 dX9_answer_36 (by first | assumption | rfl) (by rfl) ?_
      refine z_iload_n dX9_answer_39 rfl ?_
      refine z_iload_n dX9_answer_40 rfl ?_
      refine z_cV2s mX7_pick gRX9_197 dX9_answer_41 (s_pick hs rfl rfl (show t < 20 by omega) (show q < 20 by omega)) (by decide) (by first | assumption | rfl) (by rfl) (Nat.le_of_ble_eq_true rfl) (Nat.le_refl _) (Nat.le_refl _) ?_
      rw [sc_pick h.1 ht hq]
      refine z_ist3 dX9_answer_44 (by decide) rfl ?_
      refine z_iload_n dX9_answer_45 rfl ?_
      refine z_iconst (v := -1) dX9_answer_46 rfl ?_
      refine z_icmp_ne (tgt := 56) dX9_answer_47 (by decide) (fun hp => ?_) (fun hp => ?_)
      · refine z_iload_n dX9_answer_56 rfl ?_
        exact z_iret hE dX9_answer_57 ⟨rfl, ⟨_, rfl, Or.inl ⟨t, q, ht, rfl, hq, rfl, by rw [anF, if_neg hp]⟩⟩, rfl⟩
      · refine z_sipush (v := -1009) dX9_answer_50 rfl ?_
        refine z_goto (tgt := 57) dX9_answer_53 (by decide) ?_
        exact z_iret hE dX9_answer_57 ⟨rfl, ⟨_, rfl, Or.inl ⟨t, q, ht, rfl, hq, rfl, by rw [anF, if_pos hp]⟩⟩, rfl⟩
    · rw [if_pos hy]
      refine z_if_ne (tgt := 32) dX9_answer_25 (by decide) (fun hb => absurd (rfl) hb) (fun _ => ?_)
      exact bad (Or.inr hyq)
  · rw [if_pos hx]
    refine z_if_eq (tgt := 28) dX9_answer_11 (by decide) (fun _ => ?_) (fun hb => absurd (rfl) hb)
    exact bad (Or.inl hxt)
/-- the wrong choice taken most often -/
def fvF (P : Nat → Nat) (r : Nat) : Nat → Nat × Int32
  | 0 => (0, -1009)
  | c + 1 => if c ≠ r ∧ (fvF P r c).1 < P c then (P c, nI c) else fvF P r c
def abP (A : AS) (q : Nat) (x : Int32) : Nat := eqc (fun t => pkA A t q) x (ans A)
def abF (A : AS) (q : Nat) (w : Int32) : Int32 := if w = 0 then nI (abP A q (nI (aqd A q 1))) else if w = 1 then nI (ans A) - nI (abP A q (nI (aqd A q 1))) - nI (abP A q (-1)) else if w = 2 then nI (abP A q (-1)) else (fvF (fun c => abP A q (nI c)) (aqd A q 1) (aqd A q 4)).2
def aAbout (A : AS) (y w r : Int32) : Prop := (∃ q, q < anq A ∧ y = nI q ∧ is03 w ∧ r = abF A q w) ∨ ((¬ isQ A y ∨ ¬ is03 w) ∧ r = -1001)
theorem sc_eqc {I : ZI} {A : AS} {q : Nat} {x : Int32} (h : Sc I 1 A) (hq : q < anq A) : eqc (fun s => I (7 + 9 + 1) (20 * s + q)) x (ans A) = abP A q x := eqc_congr (fun j hj => sc_pick h hj hq)
theorem abP_le (A : AS) (q : Nat) (x : Int32) : abP A q x ≤ ans A := eqc_le _ _ _
theorem fvF_le {P : Nat → Nat} {r n : Nat} (hP : ∀ c, P c ≤ n) : ∀ c, (fvF P r c).1 ≤ n
  | 0 => Nat.zero_le _
  | c + 1 => by
    rw [fvF]
    by_cases h : c ≠ r ∧ (fvF P r c).1 < P c
    · rw [if_pos h]; exact hP c
    · rw [if_neg h]; exact fvF_le hP c
theorem s_favorite {I : ZI} {A : AS} {q : Nat} {x y : Int32} (hS : Sc I 1 A) (hV : AV A) (hx : x = nI q) (hq : q < anq A) (hy : y = nI (aqd A q 1)) : ZE yX9_favoriteWrong cX9_favoriteWrong 7 (some FieldType.int) 3 [.ref 0, .int x, .int y] Sg I (some (.int (fvF (fun c => abP A q (nI c)) (aqd A q 1) (aqd A q 4)).2)) I := by
  have h0 := at_tv
  have hn1 := at_now.1
  have hs := at_sheets
  have hs0 := hs.1
  have hq0 := at_q.1
  have hns := hV.2.2.2.2.1
  have hn := hV.1.1
  have hcnt : I 7 5 = nI (ans A) := hS.2.2.2.2.1
  obtain ⟨v1, v2, v3, v4, v5, v6, v7⟩ := hV.1.2 q hq
  subst hx
  subst hy
  refine ZSp.of (own := RX9) (L := [.ref 0, .int (nI q), .int (nI (aqd A q 1)), zj, zj, zj, zj]) mX9_favoriteWrong rfl (List.all_eq_true.mp rfl) (Nat.le_of_ble_eq_true rfl) rfl (fun X hE hN => ?_)
  have loop : ∀ (m c : Nat), c + m = aqd A q 4 → (ZG X RX9 cX9_favoriteWrong 7 3 0 0 0 0 10 [.ref 0, .int (nI q), .int (nI (aqd A q 1)), .int (fvF (fun c => abP A q (nI c)) (aqd A q 1) c).2, .int (nI (fvF (fun c => abP A q (nI c)) (aqd A q 1) c).1), .int (nI c), zj] [] Sg I) := by
    intro m
    induction m with
    | zero =>
      intro c hc
      have e : c = aqd A q 4 := by omega
      subst e
      refine z_iload dX9_favoriteWrong_10 rfl ?_
      refine z_aload_n dX9_favoriteWrong_12 rfl ?_
      refine z_getR fRX9_10 dX9_favoriteWrong_13 (by first | assumption | rfl) (by rfl) ?_
      refine z_getR fRX9_76 dX9_favoriteWrong_16 (by first | assumption | rfl) (by rfl) ?_
      refine z_iload_n dX9_favoriteWrong_19 rfl ?_
      refine z_iconst (v := 4) dX9_favoriteWrong_20 rfl ?_
      refine z_cV2s mX5_number gRX9_95 dX9_favoriteWrong_21 (s_number at_q hS.1 hn rfl (show (4 : Int32) = nI 4 from rfl) hq (by decide)) (by decide) (by first | assumption | rfl) (by rfl) (Nat.le_of_ble_eq_true rfl) (Nat.le_refl _) (Nat.le_refl _) ?_
      refine z_icmp_ge (tgt := 68) dX9_favoriteWrong_24 (by decide) (fun _ => ?_) (fun hb => absurd (nI_le (Nat.le_refl _) (by omega)) hb)
      refine z_iload_n dX9_favoriteWrong_68 rfl ?_
      exact z_eireturn hE dX9_favoriteWrong_69 rfl rfl
    | succ m ih =>
      intro c hc
      have e1 : fvF (fun c => abP A q (nI c)) (aqd A q 1) (c + 1) = if c ≠ aqd A q 1 ∧ (fvF (fun c => abP A q (nI c)) (aqd A q 1) c).1 < abP A q (nI c) then (abP A q (nI c), nI c) else fvF (fun c => abP A q (nI c)) (aqd A q 1) c := rfl
      have hle := fvF_le (P := fun c => abP A q (nI c)) (r := aqd A q 1) (n := ans A) (fun c => abP_le _ _ _) c
      have hle2 := abP_le A q (nI c)
      have nxt := ih (c + 1) (by omega)
      refine z_iload dX9_favoriteWrong_10 rfl ?_
      refine z_aload_n dX9_favoriteWrong_12 rfl ?_
      refine z_getR fRX9_10 dX9_favoriteWrong_13 (by first | assumption | rfl) (by rfl) ?_
      refine z_getR fRX9_76 dX9_favoriteWrong_16 (by first | assumption | rfl) (by rfl) ?_
      refine z_iload_n dX9_favoriteWrong_19 rfl ?_
      refine z_iconst (v := 4) dX9_favoriteWrong_20 rfl ?_
      refine z_cV2s mX5_number gRX9_95 dX9_favoriteWrong_21 (s_number at_q hS.1 hn rfl (show (4 : Int32) = nI 4 from rfl) hq (by decide)) (by decide) (by first | assumption | rfl) (by rfl) (Nat.le_of_ble_eq_true rfl) (Nat.le_refl _) (Nat.le_refl _) ?_
      refine z_icmp_ge (tgt := 68) dX9_favoriteWrong_24 (by decide) (fun hb => absurd hb (nI_ge (by omega) (by omega))) (fun _ => ?_)
      refine z_aload_n dX9_favoriteWrong_27 rfl ?_
      refine z_getR fRX9_10 dX9_favoriteWrong_28 (by first | assumption | rfl) (by rfl) ?_
      refine z_getR fRX9_66 dX9_favoriteWrong_31 (by first | assumption | rfl) (by rfl) ?_
      refine z_iload_n dX9_favoriteWrong_34 rfl ?_
      refine z_iload dX9_favoriteWrong_35 rfl ?_
      refine z_cV2s mX7_pickers gRX9_200 dX9_favoriteWrong_37 (s_pickers hs hcnt hns rfl (show q < 20 by omega)) (by decide) (by first | assumption | rfl) (by rfl) (Nat.le_of_ble_eq_true rfl) (Nat.le_refl _) (Nat.le_refl _) ?_
      rw [sc_eqc hS hq]
      refine z_ist6 dX9_favoriteWrong_40 (by decide) rfl ?_
      refine z_iload dX9_favoriteWrong_42 rfl ?_
      refine z_iload_n dX9_favoriteWrong_44 rfl ?_
      refine z_icmp_eq (tgt := 62) dX9_favoriteWrong_45 (by decide) (fun ha => ?_) (fun ha => ?_)
      · refine z_inc5 (w := 1) dX9_favoriteWrong_62 rfl (by decide) rfl ?_
        refine z_goto (tgt := 10) dX9_favoriteWrong_65 (by decide) ?_
        have hcr : c = aqd A q 1 := (nI_eq (by omega) (by omega)).mp ha
        rw [e1, if_neg (fun z => z.1 hcr)] at nxt
        rw [nI_1]
        refine z_fg6 ?_
        exact nxt
      · refine z_iload dX9_favoriteWrong_48 rfl ?_
        refine z_iload dX9_favoriteWrong_50 rfl ?_
        have hcr : c ≠ aqd A q 1 := fun e => ha (by rw [e])
        refine z_icmp_le (tgt := 62) dX9_favoriteWrong_52 (by decide) (fun hb => ?_) (fun hb => ?_)
        · refine z_inc5 (w := 1) dX9_favoriteWrong_62 rfl (by decide) rfl ?_
          refine z_goto (tgt := 10) dX9_favoriteWrong_65 (by decide) ?_
          have hle3 := (nI_leI (by omega) (by omega)).mp hb
          rw [e1, if_neg (fun z => by omega)] at nxt
          rw [nI_1]
          refine z_fg6 ?_
          exact nxt
        · refine z_iload dX9_favoriteWrong_55 rfl ?_
          refine z_ist4 dX9_favoriteWrong_57 (by decide) rfl ?_
          refine z_iload dX9_favoriteWrong_59 rfl ?_
          refine z_ist3 dX9_favoriteWrong_61 (by decide) rfl ?_
          refine z_inc5 (w := 1) dX9_favoriteWrong_62 rfl (by decide) rfl ?_
          refine z_goto (tgt := 10) dX9_favoriteWrong_65 (by decide) ?_
          have hlt : (fvF (fun c => abP A q (nI c)) (aqd A q 1) c).1 < abP A q (nI c) := by
            rcases Nat.lt_or_ge (fvF (fun c => abP A q (nI c)) (aqd A q 1) c).1 (abP A q (nI c)) with z | z
            · exact z
            · exact absurd (nI_le z (by omega)) hb
          rw [e1, if_pos ⟨hcr, hlt⟩] at nxt
          rw [nI_1]
          refine z_fg6 ?_
          exact nxt
  refine z_sipush (v := -1009) dX9_favoriteWrong_0 rfl ?_
  refine z_ist3 dX9_favoriteWrong_3 (by decide) rfl ?_
  refine z_iconst (v := 0) dX9_favoriteWrong_4 rfl ?_
  refine z_ist4 dX9_favoriteWrong_5 (by decide) rfl ?_
  refine z_iconst (v := 0) dX9_favoriteWrong_7 rfl ?_
  refine z_ist5 dX9_favoriteWrong_8 (by decide) rfl ?_
  exact loop (aqd A q 4) 0 (by omega)
theorem s_about {I : ZI} {A : AS} {hc : Nat} {Hh : Nat → AS} {tc : Nat} {bf : Nat → Nat} {y w : Int32} (h : CI I A hc Hh tc bf) : ZP yX9_about cX9_about 6 (some FieldType.int) 4 [.ref 0, .int y, .int w] Sg I (fun r J => (∃ a, r = some (.int a) ∧ aAbout A y w a) ∧ J = I) := by
  have h0 := at_tv
  have hn1 := at_now.1
  have hs := at_sheets
  have hs0 := hs.1
  have hq0 := at_q.1
  have hns := h.2.1.2.2.2.2.1
  have hn := h.2.1.1.1
  have hcnt : I 7 5 = nI (ans A) := h.1.2.2.2.2.1
  have hq1 : I 2 1 = nI (anq A) := h.1.1.1
  refine ZSp.of (own := RX9) (L := [.ref 0, .int y, .int w, zj, zj, zj]) mX9_about rfl (List.all_eq_true.mp rfl) (Nat.le_of_ble_eq_true rfl) rfl (fun X hE hN => ?_)
  refine z_aload_n dX9_about_0 rfl ?_
  refine z_getR fRX9_10 dX9_about_1 (by first | assumption | rfl) (by rfl) ?_
  refine z_getR fRX9_76 dX9_about_4 (by first | assumption | rfl) (by rfl) ?_
  refine z_iload_n dX9_about_7 rfl ?_
  refine z_cV1s mX5_has gRX9_88 dX9_about_8 (s_has at_q) (by decide) (by first | assumption | rfl) (by rfl) (Nat.le_of_ble_eq_true rfl) (Nat.le_refl _) (Nat.le_refl _) ?_
  rw [hq1]
  rcases z_dom y (anq A) (by omega) with ⟨q, hq, rfl, hy⟩ | ⟨hy, hyq⟩
  · rw [if_neg hy]
    refine z_if_ne (tgt := 18) dX9_about_11 (by decide) (fun _ => ?_) (fun hb => absurd hb (by decide))
    refine z_aload_n dX9_about_18 rfl ?_
    refine z_getR fRX9_10 dX9_about_19 (by first | assumption | rfl) (by rfl) ?_
    refine z_getR fRX9_76 dX9_about_22 (by first | assumption | rfl) (by rfl) ?_
    refine z_iload_n dX9_about_25 rfl ?_
    refine z_iconst (v := 1) dX9_about_26 rfl ?_
    refine z_cV2s mX5_number gRX9_95 dX9_about_27 (s_number at_q h.1.1 hn rfl (show (1 : Int32) = nI 1 from rfl) hq (by decide)) (by decide) (by first | assumption | rfl) (by rfl) (Nat.le_of_ble_eq_true rfl) (Nat.le_refl _) (Nat.le_refl _) ?_
    refine z_ist3 dX9_about_30 (by decide) rfl ?_
    refine z_aload_n dX9_about_31 rfl ?_
    refine z_getR fRX9_10 dX9_about_32 (by first | assumption | rfl) (by rfl) ?_
    refine z_getR fRX9_66 dX9_about_35 (by first | assumption | rfl) (by rfl) ?_
    refine z_iload_n dX9_about_38 rfl ?_
    refine z_iload_n dX9_about_39 rfl ?_
    refine z_cV2s mX7_pickers gRX9_200 dX9_about_40 (s_pickers hs hcnt hns rfl (show q < 20 by omega)) (by decide) (by first | assumption | rfl) (by rfl) (Nat.le_of_ble_eq_true rfl) (Nat.le_refl _) (Nat.le_refl _) ?_
    rw [sc_eqc h.1 hq]
    refine z_ist4 dX9_about_43 (by decide) rfl ?_
    refine z_aload_n dX9_about_45 rfl ?_
    refine z_getR fRX9_10 dX9_about_46 (by first | assumption | rfl) (by rfl) ?_
    refine z_getR fRX9_66 dX9_about_49 (by first | assumption | rfl) (by rfl) ?_
    refine z_iload_n dX9_about_52 rfl ?_
    refine z_iconst (v := -1) dX9_about_53 rfl ?_
    refine z_cV2s mX7_pickers gRX9_200 dX9_about_54 (s_pickers hs hcnt hns rfl (show q < 20 by omega)) (by decide) (by first | assumption | rfl) (by rfl) (Nat.le_of_ble_eq_true rfl) (Nat.le_refl _) (Nat.le_refl _) ?_
    rw [sc_eqc h.1 hq]
    refine z_ist5 dX9_about_57 (by decide) rfl ?_
    refine z_iload_n dX9_about_59 rfl ?_
    rcases z_sw4 w with rfl | rfl | rfl | rfl | hw
    · refine z_tableIn (off := 32) (tgt := 92) dX9_about_60 (by decide) (by decide) (by decide) (by decide) ?_
      refine z_iload dX9_about_92 rfl ?_
      exact z_iret hE dX9_about_94 ⟨rfl, ⟨_, rfl, Or.inl ⟨q, hq, rfl, Or.inl rfl, rfl⟩⟩, rfl⟩
    · refine z_tableIn (off := 35) (tgt := 95) dX9_about_60 (by decide) (by decide) (by decide) (by decide) ?_
      refine z_aload_n dX9_about_95 rfl ?_
      refine z_getR fRX9_10 dX9_about_96 (by first | assumption | rfl) (by rfl) ?_
      refine z_getR fRX9_66 dX9_about_99 (by first | assumption | rfl) (by rfl) ?_
      refine z_getI fRX9_70 dX9_about_102 (by first | assumption | rfl) (by rfl) ?_
      refine z_iload dX9_about_105 rfl ?_
      refine z_isub dX9_about_107 ?_
      refine z_iload dX9_about_108 rfl ?_
      refine z_isub dX9_about_110 ?_
      rw [hcnt]
      exact z_iret hE dX9_about_111 ⟨rfl, ⟨_, rfl, Or.inl ⟨q, hq, rfl, Or.inr (Or.inl rfl), rfl⟩⟩, rfl⟩
    · refine z_tableIn (off := 52) (tgt := 112) dX9_about_60 (by decide) (by decide) (by decide) (by decide) ?_
      refine z_iload dX9_about_112 rfl ?_
      exact z_iret hE dX9_about_114 ⟨rfl, ⟨_, rfl, Or.inl ⟨q, hq, rfl, Or.inr (Or.inr (Or.inl rfl)), rfl⟩⟩, rfl⟩
    · refine z_tableIn (off := 55) (tgt := 115) dX9_about_60 (by decide) (by decide) (by decide) (by decide) ?_
      refine z_aload_n dX9_about_115 rfl ?_
      refine z_iload_n dX9_about_116 rfl ?_
      refine z_iload_n dX9_about_117 rfl ?_
      refine z_cV2s mX9_favoriteWrong gRX9_203 dX9_about_118 (s_favorite h.1 h.2.1 rfl hq rfl) (by decide) (by first | assumption | rfl) (by rfl) (Nat.le_of_ble_eq_true rfl) (Nat.le_refl _) (Nat.le_refl _) ?_
      exact z_iret hE dX9_about_121 ⟨rfl, ⟨_, rfl, Or.inl ⟨q, hq, rfl, Or.inr (Or.inr (Or.inr rfl)), rfl⟩⟩, rfl⟩
    · refine z_tableOut (tgt := 122) dX9_about_60 (hw) (by decide) ?_
      refine z_sipush (v := -1001) dX9_about_122 rfl ?_
      exact z_iret hE dX9_about_125 ⟨rfl, ⟨_, rfl, Or.inr ⟨Or.inr (by rintro (rfl | rfl | rfl | rfl) <;> exact absurd hw (by decide)), rfl⟩⟩, rfl⟩
  · rw [if_pos hy]
    refine z_if_ne (tgt := 18) dX9_about_11 (by decide) (fun hb => absurd (rfl) hb) (fun _ => ?_)
    refine z_sipush (v := -1001) dX9_about_14 rfl ?_
    exact z_iret hE dX9_about_17 ⟨rfl, ⟨_, rfl, Or.inr ⟨Or.inl hyq, rfl⟩⟩, rfl⟩

