/-! ===== the class's questions about versions ===== -/
theorem z_dom (x : Int32) (n : Nat) (hn : n < 1000) : (∃ k, k < n ∧ x = nI k ∧ ¬ (x < 0 ∨ nI n ≤ x)) ∨ ((x < 0 ∨ nI n ≤ x) ∧ ¬ ∃ k, k < n ∧ x = nI k) := by
  by_cases h : x < 0 ∨ nI n ≤ x
  · refine Or.inr ⟨h, ?_⟩
    rintro ⟨k, hk, rfl⟩
    rcases h with h | h
    · exact nI_pos (by omega) h
    · have := (nI_leI (by omega) (by omega)).mp h
      omega
  · obtain ⟨k, hk, e⟩ := r_ix hn (fun q => h (Or.inl q)) (fun q => h (Or.inr q))
    exact Or.inl ⟨k, hk, e, h⟩
/-- the page of a place: the last one that begins at it or ahead of it -/
def pgo (P : Nat → Nat) (p : Nat) : Nat → Nat
  | 0 => 0
  | m + 1 => if P m ≤ p then m else pgo P p m
theorem pgo_eq {P : Nat → Nat} {M i k : Nat} (hP : ∀ j, j < M → P j < P (j + 1)) (hi : i < M) (hk : k < P (i + 1) - P i) : pgo P (P i + k) M = i := by
  have mono : ∀ d, i + 1 + d ≤ M → P (i + 1) ≤ P (i + 1 + d) := by
    intro d
    induction d with
    | zero => intro _; exact Nat.le_refl _
    | succ d ih =>
      intro hd
      have a := ih (by omega)
      have b := hP (i + 1 + d) (by omega)
      rw [show i + 1 + d + 1 = i + 1 + (d + 1) by omega] at b
      omega
  have key : ∀ m, i < m → m ≤ M → pgo P (P i + k) m = i := by
    intro m
    induction m with
    | zero => intro h; exact absurd h (Nat.not_lt_zero i)
    | succ m ih =>
      intro h1 h2
      rw [pgo]
      by_cases hm : m = i
      · rw [hm, if_pos (Nat.le_add_right _ _)]
      · have a := mono (m - (i + 1)) (by omega)
        rw [show i + 1 + (m - (i + 1)) = m by omega] at a
        rw [if_neg (by omega)]
        exact ih (by omega) (by omega)
  exact key M hi (Nat.le_refl _)
def vP (A : AS) (v : Nat) : Nat → Nat := Ps (anq A) (aqd A) (asd A v) (aln A)
def vN (A : AS) (v : Nat) : Nat := Pn (anq A) (aqd A) (asd A v) (aln A)
def vH (A : AS) (v : Nat) : Nat → Nat := Hq (anq A) (aqd A) (asd A v)
def atF (A : AS) (v p : Nat) (w : Int32) : Int32 := if w = 0 then nI (vO A v p) else if w = 1 then nI (vK A v p) else if w = 2 then nI (pgo (vP A v) p (vN A v)) else nI (smh (vH A v) (vP A v (pgo (vP A v) p (vN A v))) (p - vP A v (pgo (vP A v) p (vN A v))))
abbrev isV (A : AS) (x : Int32) : Prop := ∃ v, v < anv A ∧ x = nI v
abbrev isQ (A : AS) (x : Int32) : Prop := ∃ q, q < anq A ∧ x = nI q
abbrev isT (A : AS) (x : Int32) : Prop := ∃ t, t < ans A ∧ x = nI t
abbrev is03 (w : Int32) : Prop := w = 0 ∨ w = 1 ∨ w = 2 ∨ w = 3
def aAt (A : AS) (x y w r : Int32) : Prop := (∃ v p, v < anv A ∧ x = nI v ∧ p < anq A ∧ y = nI p ∧ is03 w ∧ r = atF A v p w) ∨ ((¬ isV A x ∨ ¬ isQ A y ∨ ¬ is03 w) ∧ r = -1001)
def aWhere (A : AS) (x y r : Int32) : Prop := (∃ v p, v < anv A ∧ x = nI v ∧ p < anq A ∧ y = nI (vO A v p) ∧ r = nI p) ∨ ((¬ isV A x ∨ ¬ isQ A y) ∧ r = -1001)
def aChoice (A : AS) (x y z r : Int32) : Prop := (∃ v p k, v < anv A ∧ x = nI v ∧ p < anq A ∧ y = nI p ∧ k < aqd A (vO A v p) 4 ∧ z = nI k ∧ r = nI (vC A v p k)) ∨ ((¬ isV A x ∨ ¬ isQ A y ∨ ∃ v p, v < anv A ∧ x = nI v ∧ p < anq A ∧ y = nI p ∧ ¬ ∃ k, k < aqd A (vO A v p) 4 ∧ z = nI k) ∧ r = -1001)
/-- how many of the first n places are the same -/
def cnt (P : Nat → Prop) [DecidablePred P] : Nat → Nat
  | 0 => 0
  | k + 1 => cnt P k + (if P k then 1 else 0)
theorem cnt_le (P : Nat → Prop) [DecidablePred P] : ∀ n, cnt P n ≤ n
  | 0 => Nat.le_refl _
  | n + 1 => by
    have := cnt_le P n
    rw [cnt]
    by_cases h : P n
    · rw [if_pos h]; omega
    · rw [if_neg h]; omega
theorem cnt_congr {P Q : Nat → Prop} [DecidablePred P] [DecidablePred Q] : ∀ {n : Nat}, (∀ k, k < n → (P k ↔ Q k)) → cnt P n = cnt Q n
  | 0, _ => rfl
  | n + 1, h => by
    rw [cnt, cnt, cnt_congr (fun k hk => h k (by omega))]
    have := h n (Nat.lt_succ_self n)
    by_cases hp : P n
    · rw [if_pos hp, if_pos (this.mp hp)]
    · rw [if_neg hp, if_neg (fun q => hp (this.mpr q))]
theorem s_pNumber {I : ZI} {p i : Nat} {x w : Int32} (h : PpAt p) (hx : x = nI i) (hi : i < 20) (hw : is03 w) : ZE yX4_number cX4_number 3 (some FieldType.int) 1 [.ref p, .int x, .int w] Sg I (some (.int (if w = 0 then I (p + 1 + 1) i else if w = 1 then I (p + 5 + 1) i else if w = 2 then I (p + 9 + 3 + 1) i else I (p + 9 + 5 + 1) i))) I := by
  obtain ⟨h0, h1, h2, h3, h4, h5⟩ := h
  have g1 := h1.1
  have g3 := h3.1
  obtain ⟨y0, y1, y2, y3, y4, y5⟩ := h5
  have k2 := y2.1
  have k3 := y3.1
  subst hx
  refine ZSp.of (own := RX4) (L := [.ref p, .int (nI i), .int w]) mX4_number rfl (List.all_eq_true.mp rfl) (Nat.le_of_ble_eq_true rfl) rfl (fun X hE hN => ?_)
  refine z_iload_n dX4_number_0 rfl ?_
  rcases hw with rfl | rfl | rfl | rfl
  · refine z_tableIn (off := 27) (tgt := 28) dX4_number_1 (by decide) (by decide) (by decide) (by decide) ?_
    refine z_aload_n dX4_number_28 rfl ?_
    refine z_getR fRX4_14 dX4_number_29 (by first | assumption | rfl) (by rfl) ?_
    refine z_iload_n dX4_number_32 rfl ?_
    refine z_cV1s mX6_get gRX4_44 dX4_number_33 (s_getN h1 rfl hi) (by decide) (by first | assumption | rfl) (by rfl) (Nat.le_of_ble_eq_true rfl) (Nat.le_refl _) (Nat.le_refl _) ?_
    exact z_eireturn hE dX4_number_36 rfl rfl
  · refine z_tableIn (off := 36) (tgt := 37) dX4_number_1 (by decide) (by decide) (by decide) (by decide) ?_
    refine z_aload_n dX4_number_37 rfl ?_
    refine z_getR fRX4_23 dX4_number_38 (by first | assumption | rfl) (by rfl) ?_
    refine z_iload_n dX4_number_41 rfl ?_
    refine z_cV1s mX6_get gRX4_44 dX4_number_42 (s_getN h3 rfl hi) (by decide) (by first | assumption | rfl) (by rfl) (Nat.le_of_ble_eq_true rfl) (Nat.le_refl _) (Nat.le_refl _) ?_
    exact z_eireturn hE dX4_number_45 rfl rfl
  · refine z_tableIn (off := 45) (tgt := 46) dX4_number_1 (by decide) (by decide) (by decide) (by decide) ?_
    refine z_aload_n dX4_number_46 rfl ?_
    refine z_getR fRX4_32 dX4_number_47 (by first | assumption | rfl) (by rfl) ?_
    refine z_getR fRX4_48 dX4_number_50 (by first | assumption | rfl) (by rfl) ?_
    refine z_iload_n dX4_number_53 rfl ?_
    refine z_cV1s mX6_get gRX4_44 dX4_number_54 (s_getN y2 rfl hi) (by decide) (by first | assumption | rfl) (by rfl) (Nat.le_of_ble_eq_true rfl) (Nat.le_refl _) (Nat.le_refl _) ?_
    exact z_eireturn hE dX4_number_57 rfl rfl
  · refine z_tableOut (tgt := 58) dX4_number_1 (Or.inr (by decide)) (by decide) ?_
    refine z_aload_n dX4_number_58 rfl ?_
    refine z_getR fRX4_32 dX4_number_59 (by first | assumption | rfl) (by rfl) ?_
    refine z_getR fRX4_51 dX4_number_62 (by first | assumption | rfl) (by rfl) ?_
    refine z_iload_n dX4_number_65 rfl ?_
    refine z_cV1s mX6_get gRX4_44 dX4_number_66 (s_getN y3 rfl hi) (by decide) (by first | assumption | rfl) (by rfl) (Nat.le_of_ble_eq_true rfl) (Nat.le_refl _) (Nat.le_refl _) ?_
    exact z_eireturn hE dX4_number_69 rfl rfl
theorem s_sameAs {I : ZI} {a c n m : Nat} {x : Int32} (ha : RowAt a n) (hc : RowAt c n) (hx : x = nI m) (hm : m ≤ n) : ZE yX6_countSame cX6_countSame 5 (some FieldType.int) 1 [.ref a, .ref c, .int x] Sg I (some (.int (nI (cnt (fun k => I (a + 1) k = I (c + 1) k) m)))) I := by
  have h1 := ha.1
  have h2 := hc.1
  have hn := ha.2.2
  subst hx
  refine ZSp.of (own := RX6) (L := [.ref a, .ref c, .int (nI m), zj, zj]) mX6_countSame rfl (List.all_eq_true.mp rfl) (Nat.le_of_ble_eq_true rfl) rfl (fun X hE hN => ?_)
  have loop : ∀ (d k : Nat), k + d = m → (ZG X RX6 cX6_countSame 5 1 0 0 0 0 5 [.ref a, .ref c, .int (nI m), .int (nI (cnt (fun k => I (a + 1) k = I (c + 1) k) k)), .int (nI k)] [] Sg I) := by
    intro d
    induction d with
    | zero =>
      intro k hk
      have e : k = m := by omega
      subst e
      refine z_iload dX6_countSame_5 rfl ?_
      refine z_iload_n dX6_countSame_7 rfl ?_
      refine z_icmp_ge (tgt := 35) dX6_countSame_8 (by decide) (fun _ => ?_) (fun hb => absurd (nI_le (Nat.le_refl _) (by omega)) hb)
      refine z_iload_n dX6_countSame_35 rfl ?_
      exact z_eireturn hE dX6_countSame_36 rfl rfl
    | succ d ih =>
      intro k hk
      have e1 : cnt (fun k => I (a + 1) k = I (c + 1) k) (k + 1) = cnt (fun k => I (a + 1) k = I (c + 1) k) k + (if I (a + 1) k = I (c + 1) k then 1 else 0) := rfl
      have := ih (k + 1) (by omega)
      rw [e1] at this
      refine z_iload dX6_countSame_5 rfl ?_
      refine z_iload_n dX6_countSame_7 rfl ?_
      refine z_icmp_ge (tgt := 35) dX6_countSame_8 (by decide) (fun hb => absurd hb (nI_ge (by omega) (by omega))) (fun _ => ?_)
      refine z_aload_n dX6_countSame_11 rfl ?_
      refine z_iload dX6_countSame_12 rfl ?_
      refine z_cV1s mX6_get gRX6_25 dX6_countSame_14 (s_getN ha rfl (show k < n by omega)) (by decide) (by first | assumption | rfl) (by rfl) (Nat.le_of_ble_eq_true rfl) (Nat.le_refl _) (Nat.le_refl _) ?_
      refine z_aload_n dX6_countSame_17 rfl ?_
      refine z_iload dX6_countSame_18 rfl ?_
      refine z_cV1s mX6_get gRX6_25 dX6_countSame_20 (s_getN hc rfl (show k < n by omega)) (by decide) (by first | assumption | rfl) (by rfl) (Nat.le_of_ble_eq_true rfl) (Nat.le_refl _) (Nat.le_refl _) ?_
      refine z_icmp_ne (tgt := 29) dX6_countSame_23 (by decide) (fun hb => ?_) (fun hb => ?_)
      · refine z_inc4 (w := 1) dX6_countSame_29 rfl (by decide) rfl ?_
        refine z_goto (tgt := 5) dX6_countSame_32 (by decide) ?_
        rw [if_neg hb, Nat.add_zero] at this
        rw [nI_1]
        exact this
      · refine z_inc3 (w := 1) dX6_countSame_26 rfl (by decide) rfl ?_
        refine z_inc4 (w := 1) dX6_countSame_29 rfl (by decide) rfl ?_
        refine z_goto (tgt := 5) dX6_countSame_32 (by decide) ?_
        rw [if_pos hb] at this
        rw [nI_1, nI_1]
        exact this
  refine z_iconst (v := 0) dX6_countSame_0 rfl ?_
  refine z_ist3 dX6_countSame_1 (by decide) rfl ?_
  refine z_iconst (v := 0) dX6_countSame_2 rfl ?_
  refine z_ist4 dX6_countSame_3 (by decide) rfl ?_
  exact loop m 0 (by omega)
theorem s_at {I : ZI} {A : AS} {hc : Nat} {Hh : Nat → AS} {tc : Nat} {bf : Nat → Nat} {x y w : Int32} (h : CI I A hc Hh tc bf) : ZP yX9_at cX9_at 5 (some FieldType.int) 6 [.ref 0, .int x, .int y, .int w] Sg I (fun r J => (∃ a, r = some (.int a) ∧ aAt A x y w a) ∧ (∀ a, 259 ≤ a → J a = I a) ∧ CI J A hc Hh tc bf) := by
  have hn := h.2.1.1.1
  have hnv := h.2.1.2.1
  refine ZSp.of (own := RX9) (L := [.ref 0, .int x, .int y, .int w, zj]) mX9_at rfl (List.all_eq_true.mp rfl) (Nat.le_of_ble_eq_true rfl) rfl (fun X hE hN => ?_)
  refine z_aload_n dX9_at_0 rfl ?_
  refine z_iload_n dX9_at_1 rfl ?_
  by_cases hv : isV A x
  · obtain ⟨v, hv1, rfl⟩ := hv
    have hv6 : v < 6 := by omega
    have hpp := at_paper hv6
    have hp0 := hpp.1
    refine z_cV1p mX9_paperOf gRX9_119 dX9_at_2 (s_paperOf h rfl hv1) (by decide) (by first | assumption | rfl) (by rfl) (Nat.le_of_ble_eq_true rfl) (Nat.le_refl _) (Nat.le_refl _) (fun r J hq => ?_)
    obtain ⟨rfl, b1, b2, b3, b4⟩ := hq
    have hfr : ∀ a, 259 ≤ a → J a = I a := fun a ha => b1 a (by omega)
    refine z_ast4 dX9_at_5 (by decide) rfl ?_
    refine z_aload dX9_at_7 rfl ?_
    refine z_ifnull dX9_at_9 ?_
    refine z_aload dX9_at_12 rfl ?_
    refine z_iload_n dX9_at_14 rfl ?_
    refine z_cV1s mX4_hasPlace gRX9_123 dX9_at_15 (s_hasPlace hpp) (by decide) (by first | assumption | rfl) (by rfl) (Nat.le_of_ble_eq_true rfl) (Nat.le_refl _) (Nat.le_refl _) ?_
    rw [b3.1]
    rcases z_dom y (anq A) (by omega) with ⟨p, hp, hyp, hy⟩ | ⟨hy, hyq⟩
    · rw [if_neg hy]
      refine z_if_eq (tgt := 30) dX9_at_18 (by decide) (fun hb => absurd hb (by decide)) (fun _ => ?_)
      refine z_iload_n dX9_at_21 rfl ?_
      have bad : ¬ is03 w → (ZG X RX9 cX9_at 5 6 0 0 0 0 30 [.ref 0, .int (nI v), .int y, .int w, .ref (139 + 20 * v)] [] Sg J) := by
        intro hw
        refine z_sipush (v := -1001) dX9_at_30 rfl ?_
        exact z_iret hE dX9_at_33 ⟨rfl, ⟨_, rfl, Or.inr ⟨Or.inr (Or.inr hw), rfl⟩⟩, hfr, b2⟩
      refine z_if_lt (tgt := 30) dX9_at_22 (by decide) (fun hb => ?_) (fun hb => ?_)
      · exact bad (by rintro (rfl | rfl | rfl | rfl) <;> exact absurd hb (by decide))
      · refine z_iload_n dX9_at_25 rfl ?_
        refine z_iconst (v := 3) dX9_at_26 rfl ?_
        refine z_icmp_le (tgt := 34) dX9_at_27 (by decide) (fun hd => ?_) (fun hd => ?_)
        · refine z_aload dX9_at_34 rfl ?_
          refine z_iload_n dX9_at_36 rfl ?_
          refine z_iload_n dX9_at_37 rfl ?_
          have hw : is03 w := by
            obtain ⟨k, hk, rfl⟩ := nI_of2 (M := 3) (n := 3) rfl hb hd
            match k, hk with
            | 0, _ => exact Or.inl rfl
            | 1, _ => exact Or.inr (Or.inl rfl)
            | 2, _ => exact Or.inr (Or.inr (Or.inl rfl))
            | 3, _ => exact Or.inr (Or.inr (Or.inr rfl))
          refine z_cV2s mX4_number gRX9_126 dX9_at_38 (s_pNumber hpp hyp (show p < 20 by omega) hw) (by decide) (by first | assumption | rfl) (by rfl) (Nat.le_of_ble_eq_true rfl) (Nat.le_refl _) (Nat.le_refl _) ?_
          obtain ⟨i, k, hi, hk, hpk⟩ := Ps_page (seed := asd A v) h.2.1.1 h.2.1.2.2.1 hp
          have hpg : pgo (vP A v) p (vN A v) = i := by rw [hpk]; exact pgo_eq (fun j hj => ((Ps_spec h.2.1.1 h.2.1.2.2.1).1 j hj).1) hi hk
          obtain ⟨-, -, c3⟩ := b4.2 i hi
          obtain ⟨c4, c5⟩ := c3 k hk
          rw [← hpk] at c4 c5
          have hval : (if w = 0 then J (139 + 20 * v + 1 + 1) p else if w = 1 then J (139 + 20 * v + 5 + 1) p else if w = 2 then J (139 + 20 * v + 9 + 3 + 1) p else J (139 + 20 * v + 9 + 5 + 1) p) = atF A v p w := by
            rw [atF, hpg, b3.2.1 p hp, b3.2.2.2.2 p hp, c4, c5, show p - vP A v i = k from by rw [hpk]; exact Nat.add_sub_cancel_left _ _]
            rfl
          rw [hval]
          exact z_iret hE dX9_at_41 ⟨rfl, ⟨_, rfl, Or.inl ⟨v, p, hv1, rfl, hp, hyp, hw, rfl⟩⟩, hfr, b2⟩
        · refine z_eq rfl (bad ?_)
          rintro (rfl | rfl | rfl | rfl) <;> exact absurd hd (by decide)
    · rw [if_pos hy]
      refine z_if_eq (tgt := 30) dX9_at_18 (by decide) (fun _ => ?_) (fun hb => absurd (rfl) hb)
      refine z_sipush (v := -1001) dX9_at_30 rfl ?_
      exact z_iret hE dX9_at_33 ⟨rfl, ⟨_, rfl, Or.inr ⟨Or.inr (Or.inl hyq), rfl⟩⟩, hfr, b2⟩
  · refine z_cV1s mX9_paperOf gRX9_119 dX9_at_2 (s_paperOfN h hv) (by decide) (by first | assumption | rfl) (by rfl) (Nat.le_of_ble_eq_true rfl) (Nat.le_refl _) (Nat.le_refl _) ?_
    refine z_asn4 dX9_at_5 (by decide) rfl ?_
    refine z_aloadN dX9_at_7 rfl ?_
    refine z_ifnullN (tgt := 30) dX9_at_9 (by decide) ?_
    refine z_sipush (v := -1001) dX9_at_30 rfl ?_
    exact z_iret hE dX9_at_33 ⟨rfl, ⟨_, rfl, Or.inr ⟨Or.inl hv, rfl⟩⟩, fun _ _ => rfl, h⟩
theorem s_where {I : ZI} {A : AS} {hc : Nat} {Hh : Nat → AS} {tc : Nat} {bf : Nat → Nat} {x y : Int32} (h : CI I A hc Hh tc bf) : ZP yX9_where cX9_where 4 (some FieldType.int) 6 [.ref 0, .int x, .int y] Sg I (fun r J => (∃ a, r = some (.int a) ∧ aWhere A x y a) ∧ (∀ a, 259 ≤ a → J a = I a) ∧ CI J A hc Hh tc bf) := by
  have hn := h.2.1.1.1
  have hnv := h.2.1.2.1
  have h0 := at_tv
  have hn1 := at_now.1
  refine ZSp.of (own := RX9) (L := [.ref 0, .int x, .int y, zj]) mX9_where rfl (List.all_eq_true.mp rfl) (Nat.le_of_ble_eq_true rfl) rfl (fun X hE hN => ?_)
  refine z_aload_n dX9_where_0 rfl ?_
  refine z_iload_n dX9_where_1 rfl ?_
  by_cases hv : isV A x
  · obtain ⟨v, hv1, rfl⟩ := hv
    have hv6 : v < 6 := by omega
    have hpp := at_paper hv6
    have hp0 := hpp.1
    have hp2 := hpp.2.2.1.1
    refine z_cV1p mX9_paperOf gRX9_119 dX9_where_2 (s_paperOf h rfl hv1) (by decide) (by first | assumption | rfl) (by rfl) (Nat.le_of_ble_eq_true rfl) (Nat.le_refl _) (Nat.le_refl _) (fun r J hq => ?_)
    obtain ⟨rfl, b1, b2, b3, b4⟩ := hq
    have hfr : ∀ a, 259 ≤ a → J a = I a := fun a ha => b1 a (by omega)
    refine z_ast3 dX9_where_5 (by decide) rfl ?_
    refine z_aload_n dX9_where_6 rfl ?_
    refine z_ifnull dX9_where_7 ?_
    refine z_aload_n dX9_where_10 rfl ?_
    refine z_getR fRX9_10 dX9_where_11 (by first | assumption | rfl) (by rfl) ?_
    refine z_getR fRX9_76 dX9_where_14 (by first | assumption | rfl) (by rfl) ?_
    refine z_iload_n dX9_where_17 rfl ?_
    refine z_cV1s mX5_has gRX9_88 dX9_where_18 (s_has at_q) (by decide) (by first | assumption | rfl) (by rfl) (Nat.le_of_ble_eq_true rfl) (Nat.le_refl _) (Nat.le_refl _) ?_
    rw [b2.1.1.1]
    rcases z_dom y (anq A) (by omega) with ⟨q, hq, hyq, hy⟩ | ⟨hy, hyq⟩
    · rw [if_neg hy]
      refine z_if_ne (tgt := 28) dX9_where_21 (by decide) (fun _ => ?_) (fun hb => absurd hb (by decide))
      refine z_aload_n dX9_where_28 rfl ?_
      refine z_getR fRX9_127 dX9_where_29 (by first | assumption | rfl) (by rfl) ?_
      refine z_iload_n dX9_where_32 rfl ?_
      refine z_cV1s mX6_get gRX9_115 dX9_where_33 (s_getN hpp.2.2.1 hyq (show q < 20 by omega)) (by decide) (by first | assumption | rfl) (by rfl) (Nat.le_of_ble_eq_true rfl) (Nat.le_refl _) (Nat.le_refl _) ?_
      obtain ⟨p, hp, hpq⟩ := (Od_en (anq A) (aqd A) (asd A v)).2.1 q hq
      rw [show J (139 + 20 * v + 3 + 1) q = nI p by rw [← hpq]; exact b3.2.2.1 p hp]
      exact z_iret hE dX9_where_36 ⟨rfl, ⟨_, rfl, Or.inl ⟨v, p, hv1, rfl, hp, by rw [hyq, ← hpq]; rfl, rfl⟩⟩, hfr, b2⟩
    · rw [if_pos hy]
      refine z_if_ne (tgt := 28) dX9_where_21 (by decide) (fun hb => absurd (rfl) hb) (fun _ => ?_)
      refine z_sipush (v := -1001) dX9_where_24 rfl ?_
      exact z_iret hE dX9_where_27 ⟨rfl, ⟨_, rfl, Or.inr ⟨Or.inr hyq, rfl⟩⟩, hfr, b2⟩
  · refine z_cV1s mX9_paperOf gRX9_119 dX9_where_2 (s_paperOfN h hv) (by decide) (by first | assumption | rfl) (by rfl) (Nat.le_of_ble_eq_true rfl) (Nat.le_refl _) (Nat.le_refl _) ?_
    refine z_asn3 dX9_where_5 (by decide) rfl ?_
    refine z_aload_nN dX9_where_6 rfl ?_
    refine z_ifnullN (tgt := 24) dX9_where_7 (by decide) ?_
    refine z_sipush (v := -1001) dX9_where_24 rfl ?_
    exact z_iret hE dX9_where_27 ⟨rfl, ⟨_, rfl, Or.inr ⟨Or.inl hv, rfl⟩⟩, fun _ _ => rfl, h⟩
theorem s_choice {I : ZI} {A : AS} {hc : Nat} {Hh : Nat → AS} {tc : Nat} {bf : Nat → Nat} {x y z : Int32} (h : CI I A hc Hh tc bf) : ZP yX9_choice cX9_choice 5 (some FieldType.int) 6 [.ref 0, .int x, .int y, .int z] Sg I (fun r J => (∃ a, r = some (.int a) ∧ aChoice A x y z a) ∧ (∀ a, 259 ≤ a → J a = I a) ∧ CI J A hc Hh tc bf) := by
  have hn := h.2.1.1.1
  have hnv := h.2.1.2.1
  refine ZSp.of (own := RX9) (L := [.ref 0, .int x, .int y, .int z, zj]) mX9_choice rfl (List.all_eq_true.mp rfl) (Nat.le_of_ble_eq_true rfl) rfl (fun X hE hN => ?_)
  refine z_aload_n dX9_choice_0 rfl ?_
  refine z_iload_n dX9_choice_1 rfl ?_
  by_cases hv : isV A x
  · obtain ⟨v, hv1, rfl⟩ := hv
    have hv6 : v < 6 := by omega
    have hpp := at_paper hv6
    have hp0 := hpp.1
    have h0 := at_tv
    refine z_cV1p mX9_paperOf gRX9_119 dX9_choice_2 (s_paperOf h rfl hv1) (by decide) (by first | assumption | rfl) (by rfl) (Nat.le_of_ble_eq_true rfl) (Nat.le_refl _) (Nat.le_refl _) (fun r J hq => ?_)
    obtain ⟨rfl, b1, b2, b3, b4⟩ := hq
    have hfr : ∀ a, 259 ≤ a → J a = I a := fun a ha => b1 a (by omega)
    refine z_ast4 dX9_choice_5 (by decide) rfl ?_
    refine z_aload dX9_choice_7 rfl ?_
    refine z_ifnull dX9_choice_9 ?_
    refine z_aload dX9_choice_12 rfl ?_
    refine z_iload_n dX9_choice_14 rfl ?_
    refine z_cV1s mX4_hasPlace gRX9_123 dX9_choice_15 (s_hasPlace hpp) (by decide) (by first | assumption | rfl) (by rfl) (Nat.le_of_ble_eq_true rfl) (Nat.le_refl _) (Nat.le_refl _) ?_
    rw [b3.1]
    rcases z_dom y (anq A) (by omega) with ⟨p, hp, rfl, hy⟩ | ⟨hy, hyq⟩
    · rw [if_neg hy]
      have hO := (Od_en (anq A) (aqd A) (asd A v)).1 p hp
      have hO5 : aqd A (vO A v p) 4 ≤ 5 := (h.2.1.1.2 _ hO).2.2.2.1
      refine z_if_eq (tgt := 36) dX9_choice_18 (by decide) (fun hb => absurd hb (by decide)) (fun _ => ?_)
      refine z_iload_n dX9_choice_21 rfl ?_
      have bad : (¬ ∃ k, k < aqd A (vO A v p) 4 ∧ z = nI k) → (ZG X RX9 cX9_choice 5 6 0 0 0 0 36 [.ref 0, .int (nI v), .int (nI p), .int z, .ref (139 + 20 * v)] [] Sg J) := by
        intro hz
        refine z_sipush (v := -1001) dX9_choice_36 rfl ?_
        exact z_iret hE dX9_choice_39 ⟨rfl, ⟨_, rfl, Or.inr ⟨Or.inr (Or.inr ⟨v, p, hv1, rfl, hp, rfl, hz⟩), rfl⟩⟩, hfr, b2⟩
      rcases z_dom z (aqd A (vO A v p) 4) (by omega) with ⟨k, hk, rfl, hz⟩ | ⟨hz, hzk⟩
      · refine z_if_lt (tgt := 36) dX9_choice_22 (by decide) (fun hb => absurd hb (fun q => hz (Or.inl q))) (fun _ => ?_)
        refine z_iload_n dX9_choice_25 rfl ?_
        refine z_aload_n dX9_choice_26 rfl ?_
        refine z_aload dX9_choice_27 rfl ?_
        refine z_iload_n dX9_choice_29 rfl ?_
        refine z_cV2s mX9_choicesAt gRX9_130 dX9_choice_30 (s_choicesAt b2.1 b2.2.1 hv6 b3 rfl hp) (by decide) (by first | assumption | rfl) (by rfl) (Nat.le_of_ble_eq_true rfl) (Nat.le_refl _) (Nat.le_refl _) ?_
        refine z_icmp_lt (tgt := 40) dX9_choice_33 (by decide) (fun _ => ?_) (fun hb => absurd (nI_lt hk (by omega)) hb)
        refine z_aload dX9_choice_40 rfl ?_
        refine z_iload_n dX9_choice_42 rfl ?_
        refine z_iload_n dX9_choice_43 rfl ?_
        refine z_cV2s mX4_choiceAt gRX9_134 dX9_choice_44 (s_choiceAt hpp rfl rfl (show p < 20 by omega) (show k < 5 by omega)) (by decide) (by first | assumption | rfl) (by rfl) (Nat.le_of_ble_eq_true rfl) (Nat.le_refl _) (Nat.le_refl _) ?_
        rw [b3.2.2.2.1 p hp k hk]
        exact z_iret hE dX9_choice_47 ⟨rfl, ⟨_, rfl, Or.inl ⟨v, p, k, hv1, rfl, hp, rfl, hk, rfl, rfl⟩⟩, hfr, b2⟩
      · refine z_if_lt (tgt := 36) dX9_choice_22 (by decide) (fun hz0 => ?_) (fun hz0 => ?_)
        · exact bad hzk
        · refine z_iload_n dX9_choice_25 rfl ?_
          refine z_aload_n dX9_choice_26 rfl ?_
          refine z_aload dX9_choice_27 rfl ?_
          refine z_iload_n dX9_choice_29 rfl ?_
          refine z_cV2s mX9_choicesAt gRX9_130 dX9_choice_30 (s_choicesAt b2.1 b2.2.1 hv6 b3 rfl hp) (by decide) (by first | assumption | rfl) (by rfl) (Nat.le_of_ble_eq_true rfl) (Nat.le_refl _) (Nat.le_refl _) ?_
          refine z_icmp_lt (tgt := 40) dX9_choice_33 (by decide) (fun hb => absurd hb (Int32.not_lt.mpr (hz.resolve_left hz0))) (fun _ => ?_)
          exact bad hzk
    · rw [if_pos hy]
      refine z_if_eq (tgt := 36) dX9_choice_18 (by decide) (fun _ => ?_) (fun hb => absurd (rfl) hb)
      refine z_sipush (v := -1001) dX9_choice_36 rfl ?_
      exact z_iret hE dX9_choice_39 ⟨rfl, ⟨_, rfl, Or.inr ⟨Or.inr (Or.inl hyq), rfl⟩⟩, hfr, b2⟩
  · refine z_cV1s mX9_paperOf gRX9_119 dX9_choice_2 (s_paperOfN h hv) (by decide) (by first | assumption | rfl) (by rfl) (Nat.le_of_ble_eq_true rfl) (Nat.le_refl _) (Nat.le_refl _) ?_
    refine z_asn4 dX9_choice_5 (by decide) rfl ?_
    refine z_aloadN dX9_choice_7 rfl ?_
    refine z_ifnullN (tgt := 36) dX9_choice_9 (by decide) ?_
    refine z_sipush (v := -1001) dX9_choice_36 rfl ?_
    exact z_iret hE dX9_choice_39 ⟨rfl, ⟨_, rfl, Or.inr ⟨Or.inl hv, rfl⟩⟩, fun _ _ => rfl, h⟩

