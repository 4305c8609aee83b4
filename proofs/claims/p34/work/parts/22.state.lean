/-! ===== states and the history ===== -/
/-- an abstract state: questions (how many, their numbers), versions (how many, their seeds), lines, sheets (how many, their versions, their marks by places) -/
abbrev AS : Type := Nat × Qd × Nat × (Nat → Int32) × Nat × Nat × (Nat → Nat) × (Nat → Nat → Option Nat)
abbrev anq (A : AS) : Nat := A.1
abbrev aqd (A : AS) : Qd := A.2.1
abbrev anv (A : AS) : Nat := A.2.2.1
abbrev asd (A : AS) : Nat → Int32 := A.2.2.2.1
abbrev aln (A : AS) : Nat := A.2.2.2.2.1
abbrev ans (A : AS) : Nat := A.2.2.2.2.2.1
abbrev asv (A : AS) : Nat → Nat := A.2.2.2.2.2.2.1
abbrev amk (A : AS) : Nat → Nat → Option Nat := A.2.2.2.2.2.2.2
/-- the order, the choices and the key of a version of the state -/
def vO (A : AS) (v : Nat) : Nat → Nat := Od (anq A) (aqd A) (asd A v)
def vC (A : AS) (v : Nat) : Nat → Nat → Nat := Ch (anq A) (aqd A) (asd A v)
def vK (A : AS) (v : Nat) : Nat → Nat := Ky (anq A) (aqd A) (asd A v)
def AV (A : AS) : Prop := QV (anq A) (aqd A) ∧ anv A ≤ 6 ∧ 9 ≤ aln A ∧ aln A ≤ 60 ∧ ans A ≤ 20 ∧ ∀ t, t < ans A → asv A t < anv A ∧ ∀ p, p < anq A → ∀ k, amk A t p = some k → k < aqd A (vO A (asv A t) p) 4
def shR (A : AS) (t : Nat) : Nat := cR (amk A t) (vK A (asv A t)) (anq A)
def shW (A : AS) (t : Nat) : Nat := cW (amk A t) (vK A (asv A t)) (anq A)
/-- the class's state at s holds A -/
def Sc (I : ZI) (s : Nat) (A : AS) : Prop := Qs I (s + 1) (anq A) (aqd A) ∧ I s 3 = nI (anv A) ∧ (∀ v, v < anv A → I (s + 4 + 1) v = asd A v) ∧ I s 4 = nI (aln A) ∧ I (s + 6) 5 = nI (ans A) ∧ ∀ t, t < ans A → I (s + 6 + 1 + 1) t = nI (asv A t) ∧ I (s + 6 + 3 + 1) t = nI (shR A t) ∧ I (s + 6 + 5 + 1) t = nI (shW A t)
  ∧ ∀ p, p < anq A → I (s + 6 + 7 + 1) (20 * t + p) = mkI (amk A t p) ∧ I (s + 6 + 9 + 1) (20 * t + vO A (asv A t) p) = pkI (vC A (asv A t) p) (amk A t p)
theorem Sc.keep {I J : ZI} {s : Nat} {A : AS} (h : Sc I s A) (hJ : ∀ a, s ≤ a → a < s + 17 → J a = I a) : Sc J s A := by
  obtain ⟨h1, h2, h3, h4, h5, h6⟩ := h
  refine ⟨h1.keep (hJ _ (by omega) (by omega)) (hJ _ (by omega) (by omega)), ?_, fun v hv => ?_, ?_, ?_, fun t ht => ?_⟩
  · rw [hJ _ (by omega) (by omega)]; exact h2
  · rw [hJ _ (by omega) (by omega)]; exact h3 v hv
  · rw [hJ _ (by omega) (by omega)]; exact h4
  · rw [hJ _ (by omega) (by omega)]; exact h5
  · rw [hJ (s + 6 + 1 + 1) (by omega) (by omega), hJ (s + 6 + 3 + 1) (by omega) (by omega), hJ (s + 6 + 5 + 1) (by omega) (by omega), hJ (s + 6 + 7 + 1) (by omega) (by omega), hJ (s + 6 + 9 + 1) (by omega) (by omega)]
    exact h6 t ht
def ShEq (I J : ZI) (h o : Nat) : Prop := J h 5 = I o 5 ∧ (∀ k, k < 20 → J (h + 1 + 1) k = I (o + 1 + 1) k) ∧ (∀ k, k < 20 → J (h + 3 + 1) k = I (o + 3 + 1) k) ∧ (∀ k, k < 20 → J (h + 5 + 1) k = I (o + 5 + 1) k) ∧ (∀ k, k < 400 → J (h + 7 + 1) k = I (o + 7 + 1) k) ∧ ∀ k, k < 400 → J (h + 9 + 1) k = I (o + 9 + 1) k
def StEq (I J : ZI) (s o : Nat) : Prop := J s 3 = I o 3 ∧ J s 4 = I o 4 ∧ J (s + 1) 1 = I (o + 1) 1 ∧ (∀ k, k < 100 → J (s + 1 + 1 + 1) k = I (o + 1 + 1 + 1) k) ∧ (∀ k, k < 6 → J (s + 4 + 1) k = I (o + 4 + 1) k) ∧ ShEq I J (s + 6) (o + 6)
theorem Sc.copy {I J : ZI} {s o : Nat} {A : AS} (h : Sc I o A) (hV : AV A) (hE : StEq I J s o) : Sc J s A := by
  obtain ⟨h1, h2, h3, h4, h5, h6⟩ := h
  obtain ⟨e1, e2, e3, e4, e5, f1, f2, f3, f4, f5, f6⟩ := hE
  obtain ⟨v1, v2, v3, v4, v5, v6⟩ := hV
  have hn := v1.1
  refine ⟨⟨by rw [e3]; exact h1.1, fun i hi w hw => ?_⟩, by rw [e1]; exact h2, fun v hv => by rw [e5 v (by omega)]; exact h3 v hv, by rw [e2]; exact h4, by rw [f1]; exact h5, fun t ht => ?_⟩
  · rw [e4 _ (by omega)]; exact h1.2 i hi w hw
  · obtain ⟨g1, g2, g3, g4⟩ := h6 t ht
    refine ⟨by rw [f2 t (by omega)]; exact g1, by rw [f3 t (by omega)]; exact g2, by rw [f4 t (by omega)]; exact g3, fun p hp => ?_⟩
    have hO : vO A (asv A t) p < anq A := (Od_en (anq A) (aqd A) (asd A (asv A t))).1 p hp
    rw [f5 _ (by omega), f6 _ (by omega)]
    exact g4 p hp
theorem s_shCopy {I : ZI} {h o : Nat} (hh : ShAt h) (ho : ShAt o) (hd : h + 11 ≤ o ∨ o + 11 ≤ h) : ZP yX7_copy cX7_copy 2 none 2 [.ref h, .ref o] Sg I (fun r J => r = none ∧ (∀ a, (a < h ∨ h + 11 ≤ a) → J a = I a) ∧ ShEq I J h o) := by
  obtain ⟨h0, h1, h2, h3, h4, h5⟩ := hh
  obtain ⟨o0, o1, o2, o3, o4, o5⟩ := ho
  have g1 := h1.1
  have g2 := h2.1
  have g3 := h3.1
  have g4 := h4.1
  have g5 := h5.1
  refine ZSp.of (own := RX7) (L := [.ref h, .ref o]) mX7_copy rfl (List.all_eq_true.mp rfl) (Nat.le_of_ble_eq_true rfl) rfl (fun X hE hN => ?_)
  refine z_aload_n dX7_copy_0 rfl ?_
  refine z_getR fRX7_14 dX7_copy_1 (by first | assumption | rfl) (by rfl) ?_
  refine z_aload_n dX7_copy_4 rfl ?_
  refine z_getR fRX7_14 dX7_copy_5 (by first | assumption | rfl) (by rfl) ?_
  refine z_cV1n mX6_copy gRX7_66 dX7_copy_8 (s_rowCopy h1 o1) (by decide) (by first | assumption | rfl) (by rfl) (Nat.le_of_ble_eq_true rfl) (Nat.le_refl _) (Nat.le_refl _) ?_
  refine z_aload_n dX7_copy_11 rfl ?_
  refine z_getR fRX7_20 dX7_copy_12 (by first | assumption | rfl) (by rfl) ?_
  refine z_aload_n dX7_copy_15 rfl ?_
  refine z_getR fRX7_20 dX7_copy_16 (by first | assumption | rfl) (by rfl) ?_
  refine z_cV1n mX6_copy gRX7_66 dX7_copy_19 (s_rowCopy h2 o2) (by decide) (by first | assumption | rfl) (by rfl) (Nat.le_of_ble_eq_true rfl) (Nat.le_refl _) (Nat.le_refl _) ?_
  refine z_aload_n dX7_copy_22 rfl ?_
  refine z_getR fRX7_23 dX7_copy_23 (by first | assumption | rfl) (by rfl) ?_
  refine z_aload_n dX7_copy_26 rfl ?_
  refine z_getR fRX7_23 dX7_copy_27 (by first | assumption | rfl) (by rfl) ?_
  refine z_cV1n mX6_copy gRX7_66 dX7_copy_30 (s_rowCopy h3 o3) (by decide) (by first | assumption | rfl) (by rfl) (Nat.le_of_ble_eq_true rfl) (Nat.le_refl _) (Nat.le_refl _) ?_
  refine z_aload_n dX7_copy_33 rfl ?_
  refine z_getR fRX7_26 dX7_copy_34 (by first | assumption | rfl) (by rfl) ?_
  refine z_aload_n dX7_copy_37 rfl ?_
  refine z_getR fRX7_26 dX7_copy_38 (by first | assumption | rfl) (by rfl) ?_
  refine z_cV1n mX6_copy gRX7_66 dX7_copy_41 (s_rowCopy h4 o4) (by decide) (by first | assumption | rfl) (by rfl) (Nat.le_of_ble_eq_true rfl) (Nat.le_refl _) (Nat.le_refl _) ?_
  refine z_aload_n dX7_copy_44 rfl ?_
  refine z_getR fRX7_29 dX7_copy_45 (by first | assumption | rfl) (by rfl) ?_
  refine z_aload_n dX7_copy_48 rfl ?_
  refine z_getR fRX7_29 dX7_copy_49 (by first | assumption | rfl) (by rfl) ?_
  refine z_cV1n mX6_copy gRX7_66 dX7_copy_52 (s_rowCopy h5 o5) (by decide) (by first | assumption | rfl) (by rfl) (Nat.le_of_ble_eq_true rfl) (Nat.le_refl _) (Nat.le_refl _) ?_
  refine z_aload_n dX7_copy_55 rfl ?_
  refine z_aload_n dX7_copy_56 rfl ?_
  refine z_getI fRX7_32 dX7_copy_57 (by first | assumption | rfl) (by rfl) ?_
  refine z_putI fRX7_32 dX7_copy_60 (by first | assumption | rfl) (by rfl) ?_
  exact z_vret hE dX7_copy_63 ⟨rfl, rfl, fun a ha => by (repeat first | rw [zup_ne _ _ _ (by omega)] | rw [zcp_ne _ _ (by omega)]), by rw [zup_at, upd_at]; (repeat rw [zcp_ne _ _ (by omega)]), fun k hk => by (rw [zup_ne _ _ _ (by omega)]; repeat first | rw [zcp_at] | rw [rcopy_in hk] | rw [zcp_ne _ _ (by omega)]), fun k hk => by (rw [zup_ne _ _ _ (by omega)]; repeat first | rw [zcp_at] | rw [rcopy_in hk] | rw [zcp_ne _ _ (by omega)]), fun k hk => by (rw [zup_ne _ _ _ (by omega)]; repeat first | rw [zcp_at] | rw [rcopy_in hk] | rw [zcp_ne _ _ (by omega)]), fun k hk => by (rw [zup_ne _ _ _ (by omega)]; repeat first | rw [zcp_at] | rw [rcopy_in hk] | rw [zcp_ne _ _ (by omega)]), fun k hk => by (rw [zup_ne _ _ _ (by omega)]; repeat first | rw [zcp_at] | rw [rcopy_in hk] | rw [zcp_ne _ _ (by omega)])⟩
theorem s_stCopy {I : ZI} {s o : Nat} (hs : StAt s) (ho : StAt o) (hd : s + 17 ≤ o ∨ o + 17 ≤ s) : ZP yX8_copy cX8_copy 2 none 3 [.ref s, .ref o] Sg I (fun r J => r = none ∧ (∀ a, (a < s ∨ s + 17 ≤ a) → J a = I a) ∧ StEq I J s o) := by
  obtain ⟨h0, h1, h2, h3⟩ := hs
  obtain ⟨o0, o1, o2, o3⟩ := ho
  have g1 := h1.1
  have g2 := h2.1
  have g3 := h3.1
  refine ZSp.of (own := RX8) (L := [.ref s, .ref o]) mX8_copy rfl (List.all_eq_true.mp rfl) (Nat.le_of_ble_eq_true rfl) rfl (fun X hE hN => ?_)
  refine z_aload_n dX8_copy_0 rfl ?_
  refine z_getR fRX8_12 dX8_copy_1 (by first | assumption | rfl) (by rfl) ?_
  refine z_aload_n dX8_copy_4 rfl ?_
  refine z_getR fRX8_12 dX8_copy_5 (by first | assumption | rfl) (by rfl) ?_
  refine z_cV1n mX5_copy gRX8_38 dX8_copy_8 (s_qCopy h1 o1 (by omega)) (by decide) (by first | assumption | rfl) (by rfl) (Nat.le_of_ble_eq_true rfl) (Nat.le_refl _) (Nat.le_refl _) ?_
  refine z_aload_n dX8_copy_11 rfl ?_
  refine z_getR fRX8_23 dX8_copy_12 (by first | assumption | rfl) (by rfl) ?_
  refine z_aload_n dX8_copy_15 rfl ?_
  refine z_getR fRX8_23 dX8_copy_16 (by first | assumption | rfl) (by rfl) ?_
  refine z_cV1n mX6_copy gRX8_42 dX8_copy_19 (s_rowCopy h2 o2) (by decide) (by first | assumption | rfl) (by rfl) (Nat.le_of_ble_eq_true rfl) (Nat.le_refl _) (Nat.le_refl _) ?_
  refine z_aload_n dX8_copy_22 rfl ?_
  refine z_getR fRX8_30 dX8_copy_23 (by first | assumption | rfl) (by rfl) ?_
  refine z_aload_n dX8_copy_26 rfl ?_
  refine z_getR fRX8_30 dX8_copy_27 (by first | assumption | rfl) (by rfl) ?_
  refine z_cV1p mX7_copy gRX8_45 dX8_copy_30 (s_shCopy h3 o3 (by omega)) (by decide) (by first | assumption | rfl) (by rfl) (Nat.le_of_ble_eq_true rfl) (Nat.le_refl _) (Nat.le_refl _) (fun r J hq => ?_)
  obtain ⟨rfl, hJ, f1, f2, f3, f4, f5, f6⟩ := hq
  refine z_aload_n dX8_copy_33 rfl ?_
  refine z_aload_n dX8_copy_34 rfl ?_
  refine z_getI fRX8_48 dX8_copy_35 (by first | assumption | rfl) (by rfl) ?_
  refine z_putI fRX8_48 dX8_copy_38 (by first | assumption | rfl) (by rfl) ?_
  refine z_aload_n dX8_copy_41 rfl ?_
  refine z_aload_n dX8_copy_42 rfl ?_
  refine z_getI fRX8_34 dX8_copy_43 (by first | assumption | rfl) (by rfl) ?_
  refine z_putI fRX8_34 dX8_copy_46 (by first | assumption | rfl) (by rfl) ?_
  have e0 : ∀ a, (a < s + 6 ∨ s + 6 + 11 ≤ a) → a ≠ s + 4 + 1 → a ≠ s + 1 → a ≠ s + 1 + 1 + 1 → J a = I a := fun a b1 b2 b3 b4 => by rw [hJ a b1, zcp_ne _ _ b2, zup_ne _ _ _ b3, zcp_ne _ _ b4]
  have e1 : ∀ a, (a < s ∨ s + 17 ≤ a) → zcp (zup (zcp I (s + 1 + 1 + 1) (rcopy 100 (I (o + 1 + 1 + 1)) (I (s + 1 + 1 + 1)))) (s + 1) 1 (I (o + 1) 1)) (s + 4 + 1) (rcopy 6 (zup (zcp I (s + 1 + 1 + 1) (rcopy 100 (I (o + 1 + 1 + 1)) (I (s + 1 + 1 + 1)))) (s + 1) 1 (I (o + 1) 1) (o + 4 + 1)) (zup (zcp I (s + 1 + 1 + 1) (rcopy 100 (I (o + 1 + 1 + 1)) (I (s + 1 + 1 + 1)))) (s + 1) 1 (I (o + 1) 1) (s + 4 + 1))) a = I a := fun a ha => by rw [zcp_ne _ _ (by omega), zup_ne _ _ _ (by omega), zcp_ne _ _ (by omega)]
  rw [e0 o (by omega) (by omega) (by omega) (by omega)]
  rw [zup_ne _ _ _ (show o ≠ s by omega), e0 o (by omega) (by omega) (by omega) (by omega)]
  rw [e1 _ (by omega)] at f1
  have f2 := fun k hk => (f2 k hk).trans (congrFun (e1 (o + 6 + 1 + 1) (by omega)) k)
  have f3 := fun k hk => (f3 k hk).trans (congrFun (e1 (o + 6 + 3 + 1) (by omega)) k)
  have f4 := fun k hk => (f4 k hk).trans (congrFun (e1 (o + 6 + 5 + 1) (by omega)) k)
  have f5 := fun k hk => (f5 k hk).trans (congrFun (e1 (o + 6 + 7 + 1) (by omega)) k)
  have f6 := fun k hk => (f6 k hk).trans (congrFun (e1 (o + 6 + 9 + 1) (by omega)) k)
  have z : ∀ a, a ≠ s → zup (zup J s 3 (I o 3)) s 4 (I o 4) a = J a := fun a ha => by rw [zup_ne _ _ _ ha, zup_ne _ _ _ ha]
  exact z_vret hE dX8_copy_49 ⟨rfl, rfl, fun a ha => by rw [z a (by omega), e0 a (by omega) (by omega) (by omega) (by omega)], by rw [zup_at, upd_ne _ _ (by decide), zup_at, upd_at], by rw [zup_at, upd_at], by rw [z _ (by omega), hJ _ (by omega), zcp_ne _ _ (by omega), zup_at, upd_at], fun k hk => by rw [z _ (by omega), hJ _ (by omega), zcp_ne _ _ (by omega), zup_ne _ _ _ (by omega), zcp_at, rcopy_in hk], fun k hk => by rw [z _ (by omega), hJ _ (by omega), zcp_at, rcopy_in hk, zup_ne _ _ _ (by omega), zcp_ne _ _ (by omega)], by rw [z _ (by omega)]; exact f1, fun k hk => by rw [z _ (by omega)]; exact f2 k hk, fun k hk => by rw [z _ (by omega)]; exact f3 k hk, fun k hk => by rw [z _ (by omega)]; exact f4 k hk, fun k hk => by rw [z _ (by omega)]; exact f5 k hk, fun k hk => by rw [z _ (by omega)]; exact f6 k hk⟩
theorem at_now : StAt 1 := ⟨rfl, at_q, ⟨rfl, rfl, by decide⟩, rfl, ⟨rfl, rfl, by decide⟩, ⟨rfl, rfl, by decide⟩, ⟨rfl, rfl, by decide⟩, ⟨rfl, rfl, by decide⟩, ⟨rfl, rfl, by decide⟩⟩
theorem at_past {i : Nat} (hi : i < 5) : StAt (20 + 17 * i) :=
  ⟨(by decide +kernel : ∀ i, i < 5 → Sg[20 + 17 * i]? = some (0, 8, [20 + 17 * i + 3, 20 + 17 * i + 6, 20 + 17 * i + 8, 0, 0])) i hi,
   ⟨(by decide +kernel : ∀ i, i < 5 → Sg[20 + 17 * i + 1]? = some (0, 5, [20 + 17 * i + 1 + 3, 0])) i hi, ⟨(by decide +kernel : ∀ i, i < 5 → Sg[20 + 17 * i + 1 + 1]? = some (0, 6, [20 + 17 * i + 1 + 1 + 3])) i hi, (by decide +kernel : ∀ i, i < 5 → Sg[20 + 17 * i + 1 + 1 + 1]? = some (1, 100, [])) i hi, by decide⟩⟩,
   ⟨(by decide +kernel : ∀ i, i < 5 → Sg[20 + 17 * i + 4]? = some (0, 6, [20 + 17 * i + 4 + 3])) i hi, (by decide +kernel : ∀ i, i < 5 → Sg[20 + 17 * i + 4 + 1]? = some (1, 6, [])) i hi, by decide⟩,
   (by decide +kernel : ∀ i, i < 5 → Sg[20 + 17 * i + 6]? = some (0, 7, [20 + 17 * i + 6 + 3, 20 + 17 * i + 6 + 5, 20 + 17 * i + 6 + 7, 20 + 17 * i + 6 + 9, 20 + 17 * i + 6 + 11, 0])) i hi,
   ⟨(by decide +kernel : ∀ i, i < 5 → Sg[20 + 17 * i + 6 + 1]? = some (0, 6, [20 + 17 * i + 6 + 1 + 3])) i hi, (by decide +kernel : ∀ i, i < 5 → Sg[20 + 17 * i + 6 + 1 + 1]? = some (1, 20, [])) i hi, by decide⟩,
   ⟨(by decide +kernel : ∀ i, i < 5 → Sg[20 + 17 * i + 6 + 3]? = some (0, 6, [20 + 17 * i + 6 + 3 + 3])) i hi, (by decide +kernel : ∀ i, i < 5 → Sg[20 + 17 * i + 6 + 3 + 1]? = some (1, 20, [])) i hi, by decide⟩,
   ⟨(by decide +kernel : ∀ i, i < 5 → Sg[20 + 17 * i + 6 + 5]? = some (0, 6, [20 + 17 * i + 6 + 5 + 3])) i hi, (by decide +kernel : ∀ i, i < 5 → Sg[20 + 17 * i + 6 + 5 + 1]? = some (1, 20, [])) i hi, by decide⟩,
   ⟨(by decide +kernel : ∀ i, i < 5 → Sg[20 + 17 * i + 6 + 7]? = some (0, 6, [20 + 17 * i + 6 + 7 + 3])) i hi, (by decide +kernel : ∀ i, i < 5 → Sg[20 + 17 * i + 6 + 7 + 1]? = some (1, 400, [])) i hi, by decide⟩,
   ⟨(by decide +kernel : ∀ i, i < 5 → Sg[20 + 17 * i + 6 + 9]? = some (0, 6, [20 + 17 * i + 6 + 9 + 3])) i hi, (by decide +kernel : ∀ i, i < 5 → Sg[20 + 17 * i + 6 + 9 + 1]? = some (1, 400, [])) i hi, by decide⟩⟩
theorem s_stateAt {I : ZI} {old k : Nat} {x : Int32} (ho : I 18 1 = nI old) (ho5 : old < 5) (hx : x = nI k) (hk : k < 100) : ZE yX0_stateAt cX0_stateAt 3 (some (FieldType.object "TestVersions$State")) 0 [.ref 18, .int x] Sg I (some (.ref (20 + 17 * ((old + k) % 5)))) I := by
  have h18 : Sg[18]? = some (0, 0, [21, 0, 0]) := rfl
  have h19 : Sg[19]? = some (2, 0 + 1 + 1, [22, 39, 56, 73, 90]) := rfl
  have hj : ∀ j, j < 5 → ([22, 39, 56, 73, 90] : List Nat)[j]? = some (20 + 17 * j + 2) := by decide
  have hm : (old + k) % 5 < 5 := Nat.mod_lt _ (by decide)
  subst hx
  refine ZSp.of (own := RX0) (L := [.ref 18, .int (nI k), zj]) mX0_stateAt rfl (List.all_eq_true.mp rfl) (Nat.le_of_ble_eq_true rfl) rfl (fun X hE hN => ?_)
  refine z_aload_n dX0_stateAt_0 rfl ?_
  refine z_getI fRX0_22 dX0_stateAt_1 (by first | assumption | rfl) (by rfl) ?_
  refine z_iload_n dX0_stateAt_4 rfl ?_
  refine z_iadd dX0_stateAt_5 ?_
  refine z_iconst (v := 5) dX0_stateAt_6 rfl ?_
  rw [ho, nI_add]
  refine z_irem dX0_stateAt_7 (by decide) ?_
  rw [show nI (old + k) - nI (old + k) / 5 * 5 = nI ((old + k) % 5) from pk_rem (d := 5) (by omega) (by decide) (by decide)]
  refine z_ist2 dX0_stateAt_8 (by decide) rfl ?_
  refine z_iload_n dX0_stateAt_9 rfl ?_
  refine z_if_lt (tgt := 31) dX0_stateAt_10 (by decide) (fun hb => absurd hb (nI_pos (by omega))) (fun _ => ?_)
  refine z_iload_n dX0_stateAt_13 rfl ?_
  refine z_aload_n dX0_stateAt_14 rfl ?_
  refine z_getR fRX0_11 dX0_stateAt_15 (by first | assumption | rfl) (by rfl) ?_
  refine z_alenq (t := 1) (by decide) dX0_stateAt_18 h19 ?_
  refine z_icmp_ge (tgt := 31) dX0_stateAt_19 (by decide) (fun hb => absurd hb (nI_ge (b := 5) hm (by decide))) (fun _ => ?_)
  refine z_aload_n dX0_stateAt_22 rfl ?_
  refine z_getR fRX0_11 dX0_stateAt_23 (by first | assumption | rfl) (by rfl) ?_
  refine z_iload_n dX0_stateAt_26 rfl ?_
  refine z_aald (t := 1) (by decide) dX0_stateAt_27 h19 rfl (hj _ hm) (by decide) ?_
  refine z_goto (tgt := 32) dX0_stateAt_28 (by decide) ?_
  exact z_aret hE dX0_stateAt_32 ⟨rfl, rfl, rfl⟩
/-- the history: how many states, the oldest first -/
def HiC (I : ZI) (hc : Nat) (Hh : Nat → AS) : Prop := ∃ old, old < 5 ∧ I 18 1 = nI old ∧ I 18 2 = nI hc ∧ hc ≤ 5 ∧ ∀ i, i < hc → Sc I (20 + 17 * ((old + i) % 5)) (Hh i) ∧ AV (Hh i)
def phc (hc : Nat) : Nat := if hc = 5 then 5 else hc + 1
def pHh (hc : Nat) (Hh : Nat → AS) (A : AS) : Nat → AS := if hc = 5 then (fun i => if i = 4 then A else Hh (i + 1)) else (fun i => if i = hc then A else Hh i)
theorem HiC.keep {I J : ZI} {hc : Nat} {Hh : Nat → AS} (h : HiC I hc Hh) (hJ : ∀ a, 18 ≤ a → a < 105 → J a = I a) : HiC J hc Hh := by
  obtain ⟨old, h1, h2, h3, h4, h5⟩ := h
  refine ⟨old, h1, by rw [hJ 18 (by decide) (by decide)]; exact h2, by rw [hJ 18 (by decide) (by decide)]; exact h3, h4, fun i hi => ⟨(h5 i hi).1.keep (fun a b c => ?_), (h5 i hi).2⟩⟩
  have := Nat.mod_lt (old + i) (show 0 < 5 by decide)
  exact hJ a (by omega) (by omega)
theorem s_keep {I : ZI} {hc : Nat} {Hh : Nat → AS} {A : AS} (hS : Sc I 1 A) (hV : AV A) (hH : HiC I hc Hh) : ZP yX0_keep cX0_keep 3 none 4 [.ref 18, .ref 1] Sg I (fun r J => r = none ∧ (∀ a, (a < 18 ∨ 105 ≤ a) → J a = I a) ∧ HiC J (phc hc) (pHh hc Hh A)) := by
  obtain ⟨old, h1, h2, h3, h4, h5⟩ := hH
  have h18 : Sg[18]? = some (0, 0, [21, 0, 0]) := rfl
  refine ZSp.of (own := RX0) (L := [.ref 18, .ref 1, zj]) mX0_keep rfl (List.all_eq_true.mp rfl) (Nat.le_of_ble_eq_true rfl) rfl (fun X hE hN => ?_)
  have body : ∀ (J : ZI) (o c : Nat), o < 5 → c < 5 → (∀ a, a ≠ 18 → J a = I a) → J 18 1 = nI o → J 18 2 = nI c → (∀ J' : ZI, (∀ a, (a < 18 ∨ 105 ≤ a) → J' a = I a) → J' 18 1 = nI o → J' 18 2 = nI (c + 1) → (∀ a, a ≠ 18 → (a < 20 + 17 * ((o + c) % 5) ∨ 20 + 17 * ((o + c) % 5) + 17 ≤ a) → J' a = I a) → Sc J' (20 + 17 * ((o + c) % 5)) A → HiC J' (phc hc) (pHh hc Hh A)) → (ZG X RX0 cX0_keep 3 4 0 0 0 0 30 [.ref 18, .ref 1, zj] [] Sg J) := by
    intro K o c ho hc5 a1 a2 a3 kk
    have hm := Nat.mod_lt (o + c) (show 0 < 5 by decide)
    refine z_aload_n dX0_keep_30 rfl ?_
    refine z_aload_n dX0_keep_31 rfl ?_
    refine z_getI fRX0_18 dX0_keep_32 (by first | assumption | rfl) (by rfl) ?_
    rw [a3]
    refine z_cV1s mX0_stateAt gRX0_25 dX0_keep_35 (s_stateAt a2 ho rfl (show c < 100 by omega)) (by decide) (by first | assumption | rfl) (by rfl) (Nat.le_of_ble_eq_true rfl) (Nat.le_refl _) (Nat.le_refl _) ?_
    refine z_ast2 dX0_keep_38 (by decide) rfl ?_
    refine z_aload_n dX0_keep_39 rfl ?_
    refine z_ifnull dX0_keep_40 ?_
    refine z_aload_n dX0_keep_43 rfl ?_
    refine z_aload_n dX0_keep_44 rfl ?_
    have hpa := (at_past hm).1
    refine z_cV1p mX8_copy gRX0_29 dX0_keep_45 (s_stCopy (at_past hm) at_now (by omega)) (by decide) (by first | assumption | rfl) (by rfl) (Nat.le_of_ble_eq_true rfl) (Nat.le_refl _) (Nat.le_refl _) (fun r J hq => ?_)
    obtain ⟨rfl, hJ2, hQE⟩ := hq
    refine z_aload_n dX0_keep_48 rfl ?_
    refine z_dup dX0_keep_49 rfl ?_
    refine z_getI fRX0_18 dX0_keep_50 (by first | assumption | rfl) (by rfl) ?_
    refine z_iconst (v := 1) dX0_keep_53 rfl ?_
    refine z_iadd dX0_keep_54 ?_
    refine z_putI fRX0_18 dX0_keep_55 (by first | assumption | rfl) (by rfl) ?_
    rw [hJ2 18 (by omega), a3, nI_1]
    have hS2 : Sc K 1 A := hS.keep (fun a b c => a1 a (by omega))
    have hS3 := hS2.copy hV hQE
    have e : ∀ a, a ≠ 18 → zup J 18 2 (nI (c + 1)) a = J a := fun a ha => zup_ne _ _ _ ha
    exact z_vret hE dX0_keep_58 ⟨rfl, rfl, fun a ha => by rw [e a (by omega), hJ2 a (by omega), a1 a (by omega)], kk _ (fun a ha => by rw [e a (by omega), hJ2 a (by omega), a1 a (by omega)]) (by rw [zup_at, upd_ne _ _ (by decide), hJ2 18 (by omega), a2]) (by rw [zup_at, upd_at]) (fun a h18 ha => by rw [e a h18, hJ2 a ha, a1 a h18]) (hS3.keep (fun a b c => e a (by omega)))⟩
  refine z_aload_n dX0_keep_0 rfl ?_
  refine z_getI fRX0_18 dX0_keep_1 (by first | assumption | rfl) (by rfl) ?_
  refine z_iconst (v := 5) dX0_keep_4 rfl ?_
  rw [h3]
  by_cases hc5 : hc = 5
  · subst hc5
    refine z_icmp_ne (tgt := 30) dX0_keep_5 (by decide) (fun hb => absurd (rfl) hb) (fun _ => ?_)
    refine z_aload_n dX0_keep_8 rfl ?_
    refine z_aload_n dX0_keep_9 rfl ?_
    refine z_getI fRX0_22 dX0_keep_10 (by first | assumption | rfl) (by rfl) ?_
    refine z_iconst (v := 1) dX0_keep_13 rfl ?_
    refine z_iadd dX0_keep_14 ?_
    refine z_iconst (v := 5) dX0_keep_15 rfl ?_
    rw [h2, nI_1]
    refine z_irem dX0_keep_16 (by decide) ?_
    rw [show nI (old + 1) - nI (old + 1) / 5 * 5 = nI ((old + 1) % 5) from pk_rem (d := 5) (by omega) (by decide) (by decide)]
    refine z_putI fRX0_22 dX0_keep_17 (by first | assumption | rfl) (by rfl) ?_
    refine z_aload_n dX0_keep_20 rfl ?_
    refine z_dup dX0_keep_21 rfl ?_
    refine z_getI fRX0_18 dX0_keep_22 (by first | assumption | rfl) (by rfl) ?_
    refine z_iconst (v := 1) dX0_keep_25 rfl ?_
    refine z_isub dX0_keep_26 ?_
    refine z_putI fRX0_18 dX0_keep_27 (by first | assumption | rfl) (by rfl) ?_
    rw [show zup I 18 1 (nI ((old + 1) % 5)) 18 2 - 1 = nI 4 by rw [zup_at, upd_ne _ _ (by decide), h3]; exact nI_pred 4]
    have hm := Nat.mod_lt (old + 1) (show 0 < 5 by decide)
    refine body _ ((old + 1) % 5) 4 hm (by decide) (fun a ha => by rw [zup_ne _ _ _ ha, zup_ne _ _ _ ha]) (by rw [zup_at, upd_ne _ _ (by decide), zup_at, upd_at]) (by rw [zup_at, upd_at]) (fun J' b1 b2 b3 b4 b5 => ?_)
    refine ⟨(old + 1) % 5, hm, b2, b3, Nat.le_refl _, fun i hi => ?_⟩
    have hi : i < 5 := hi
    show Sc J' _ (if i = 4 then A else Hh (i + 1)) ∧ AV (if i = 4 then A else Hh (i + 1))
    by_cases hi4 : i = 4
    · rw [if_pos hi4, hi4]; exact ⟨b5, hV⟩
    · rw [if_neg hi4]
      have e1 : ((old + 1) % 5 + i) % 5 = (old + (i + 1)) % 5 := by omega
      rw [e1]
      have := h5 (i + 1) (by omega)
      exact ⟨this.1.keep (fun a b c => b4 a (by omega) (by omega)), this.2⟩
  · refine z_icmp_ne (tgt := 30) dX0_keep_5 (by decide) (fun _ => ?_) (fun hb => absurd hb (fun e => hc5 ((nI_eq (b := 5) (by omega) (by decide)).mp e)))
    refine body I old hc h1 (by omega) (fun _ _ => rfl) h2 h3 (fun J' b1 b2 b3 b4 b5 => ?_)
    refine ⟨old, h1, b2, by rw [phc, if_neg hc5]; exact b3, by rw [phc, if_neg hc5]; omega, fun i hi => ?_⟩
    rw [phc, if_neg hc5] at hi
    rw [pHh, if_neg hc5]
    show Sc J' _ (if i = hc then A else Hh i) ∧ AV (if i = hc then A else Hh i)
    by_cases hi4 : i = hc
    · rw [if_pos hi4, hi4]; exact ⟨b5, hV⟩
    · rw [if_neg hi4]
      have := h5 i (by omega)
      exact ⟨this.1.keep (fun a b c => b4 a (by omega) (by omega)), this.2⟩
theorem s_restore {I : ZI} {hc : Nat} {Hh : Nat → AS} (hH : HiC I (hc + 1) Hh) : ZP yX0_restore cX0_restore 3 none 4 [.ref 18, .ref 1] Sg I (fun r J => r = none ∧ (∀ a, (a = 0 ∨ 105 ≤ a) → J a = I a) ∧ Sc J 1 (Hh hc) ∧ HiC J hc Hh) := by
  obtain ⟨old, h1, h2, h3, h4, h5⟩ := hH
  have h18 : Sg[18]? = some (0, 0, [21, 0, 0]) := rfl
  have hm := Nat.mod_lt (old + hc) (show 0 < 5 by decide)
  have hn1 : Sg[1]? = some (0, 8, [4, 7, 9, 0, 0]) := rfl
  refine ZSp.of (own := RX0) (L := [.ref 18, .ref 1, zj]) mX0_restore rfl (List.all_eq_true.mp rfl) (Nat.le_of_ble_eq_true rfl) rfl (fun X hE hN => ?_)
  refine z_aload_n dX0_restore_0 rfl ?_
  refine z_aload_n dX0_restore_1 rfl ?_
  refine z_getI fRX0_18 dX0_restore_2 (by first | assumption | rfl) (by rfl) ?_
  refine z_iconst (v := 1) dX0_restore_5 rfl ?_
  refine z_isub dX0_restore_6 ?_
  rw [h3, nI_pred]
  refine z_cV1s mX0_stateAt gRX0_25 dX0_restore_7 (s_stateAt h2 h1 rfl (show hc < 100 by omega)) (by decide) (by first | assumption | rfl) (by rfl) (Nat.le_of_ble_eq_true rfl) (Nat.le_refl _) (Nat.le_refl _) ?_
  refine z_ast2 dX0_restore_10 (by decide) rfl ?_
  refine z_aload_n dX0_restore_11 rfl ?_
  refine z_ifnull dX0_restore_12 ?_
  refine z_aload_n dX0_restore_15 rfl ?_
  refine z_aload_n dX0_restore_16 rfl ?_
  refine z_cV1p mX8_copy gRX0_29 dX0_restore_17 (s_stCopy at_now (at_past hm) (by omega)) (by decide) (by first | assumption | rfl) (by rfl) (Nat.le_of_ble_eq_true rfl) (Nat.le_refl _) (Nat.le_refl _) (fun r J hq => ?_)
  obtain ⟨rfl, hJ2, hQE⟩ := hq
  refine z_aload_n dX0_restore_20 rfl ?_
  refine z_dup dX0_restore_21 rfl ?_
  refine z_getI fRX0_18 dX0_restore_22 (by first | assumption | rfl) (by rfl) ?_
  refine z_iconst (v := 1) dX0_restore_25 rfl ?_
  refine z_isub dX0_restore_26 ?_
  refine z_putI fRX0_18 dX0_restore_27 (by first | assumption | rfl) (by rfl) ?_
  rw [hJ2 18 (by omega), h3, nI_pred]
  have e : ∀ a, a ≠ 18 → zup J 18 2 (nI hc) a = J a := fun a ha => zup_ne _ _ _ ha
  have hh := h5 hc (by omega)
  exact z_vret hE dX0_restore_30 ⟨rfl, rfl, fun a ha => by rw [e a (by omega), hJ2 a (by omega)], (hh.1.copy hh.2 hQE).keep (fun a b c => e a (by omega)), ⟨old, h1, by rw [zup_at, upd_ne _ _ (by decide), hJ2 18 (by omega), h2], by rw [zup_at, upd_at], by omega, fun i hi => ⟨(h5 i (by omega)).1.keep (fun a b c => by rw [e a (by omega), hJ2 a (by omega)]), (h5 i (by omega)).2⟩⟩⟩

