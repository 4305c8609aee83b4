/-! ===== the class: its papers, its acts ===== -/
theorem at_paper {v : Nat} (hv : v < 6) : PpAt (139 + 20 * v) :=
  ⟨(by decide +kernel : ∀ v, v < 6 → Sg[139 + 20 * v]? = some (0, 4, [139 + 20 * v + 3, 139 + 20 * v + 5, 139 + 20 * v + 7, 139 + 20 * v + 9, 139 + 20 * v + 11, 0, 0])) v hv,
   ⟨(by decide +kernel : ∀ v, v < 6 → Sg[139 + 20 * v + 1]? = some (0, 6, [139 + 20 * v + 1 + 3])) v hv, (by decide +kernel : ∀ v, v < 6 → Sg[139 + 20 * v + 1 + 1]? = some (1, 20, [])) v hv, by decide⟩,
   ⟨(by decide +kernel : ∀ v, v < 6 → Sg[139 + 20 * v + 3]? = some (0, 6, [139 + 20 * v + 3 + 3])) v hv, (by decide +kernel : ∀ v, v < 6 → Sg[139 + 20 * v + 3 + 1]? = some (1, 20, [])) v hv, by decide⟩,
   ⟨(by decide +kernel : ∀ v, v < 6 → Sg[139 + 20 * v + 5]? = some (0, 6, [139 + 20 * v + 5 + 3])) v hv, (by decide +kernel : ∀ v, v < 6 → Sg[139 + 20 * v + 5 + 1]? = some (1, 20, [])) v hv, by decide⟩,
   ⟨(by decide +kernel : ∀ v, v < 6 → Sg[139 + 20 * v + 7]? = some (0, 6, [139 + 20 * v + 7 + 3])) v hv, (by decide +kernel : ∀ v, v < 6 → Sg[139 + 20 * v + 7 + 1]? = some (1, 100, [])) v hv, by decide⟩,
   (by decide +kernel : ∀ v, v < 6 → Sg[139 + 20 * v + 9]? = some (0, 1, [139 + 20 * v + 9 + 3, 139 + 20 * v + 9 + 5, 139 + 20 * v + 9 + 7, 139 + 20 * v + 9 + 9, 139 + 20 * v + 9 + 11, 0, 0])) v hv,
   ⟨(by decide +kernel : ∀ v, v < 6 → Sg[139 + 20 * v + 9 + 1]? = some (0, 6, [139 + 20 * v + 9 + 1 + 3])) v hv, (by decide +kernel : ∀ v, v < 6 → Sg[139 + 20 * v + 9 + 1 + 1]? = some (1, 20, [])) v hv, by decide⟩,
   ⟨(by decide +kernel : ∀ v, v < 6 → Sg[139 + 20 * v + 9 + 3]? = some (0, 6, [139 + 20 * v + 9 + 3 + 3])) v hv, (by decide +kernel : ∀ v, v < 6 → Sg[139 + 20 * v + 9 + 3 + 1]? = some (1, 20, [])) v hv, by decide⟩,
   ⟨(by decide +kernel : ∀ v, v < 6 → Sg[139 + 20 * v + 9 + 5]? = some (0, 6, [139 + 20 * v + 9 + 5 + 3])) v hv, (by decide +kernel : ∀ v, v < 6 → Sg[139 + 20 * v + 9 + 5 + 1]? = some (1, 20, [])) v hv, by decide⟩,
   ⟨(by decide +kernel : ∀ v, v < 6 → Sg[139 + 20 * v + 9 + 7]? = some (0, 6, [139 + 20 * v + 9 + 7 + 3])) v hv, (by decide +kernel : ∀ v, v < 6 → Sg[139 + 20 * v + 9 + 7 + 1]? = some (1, 20, [])) v hv, by decide⟩,
   ⟨(by decide +kernel : ∀ v, v < 6 → Sg[139 + 20 * v + 9 + 9]? = some (0, 6, [139 + 20 * v + 9 + 9 + 3])) v hv, (by decide +kernel : ∀ v, v < 6 → Sg[139 + 20 * v + 9 + 9 + 1]? = some (1, 20, [])) v hv, by decide⟩⟩
theorem at_cand : PpAt 114 := ⟨rfl, ⟨rfl, rfl, by decide⟩, ⟨rfl, rfl, by decide⟩, ⟨rfl, rfl, by decide⟩, ⟨rfl, rfl, by decide⟩, rfl, ⟨rfl, rfl, by decide⟩, ⟨rfl, rfl, by decide⟩, ⟨rfl, rfl, by decide⟩, ⟨rfl, rfl, by decide⟩, ⟨rfl, rfl, by decide⟩⟩
theorem at_tv : Sg[0]? = some (0, 9, [3, 20, 107, 115, 116, 136, 137, 139, 0]) := rfl
theorem at_paps : Sg[113]? = some (2, 0 + 1, [141, 161, 181, 201, 221, 241]) := rfl
theorem paps_get : ∀ v, v < 6 → ([141, 161, 181, 201, 221, 241] : List Nat)[v]? = some (139 + 20 * v + 2) := by decide
theorem at_seeds : RowAt 5 6 := ⟨rfl, rfl, by decide⟩
theorem at_draft : RowAt 135 20 := ⟨rfl, rfl, by decide⟩
theorem at_typed : RowAt 137 20 := ⟨rfl, rfl, by decide⟩
theorem at_sheets : ShAt 7 := at_now.2.2.2
theorem Pm.keep {I J : ZI} {p nq : Nat} {qd : Qd} {seed : Int32} (h : Pm I p nq qd seed) (hJ : ∀ a, p ≤ a → a < p + 9 → J a = I a) : Pm J p nq qd seed := by
  obtain ⟨h1, h2, h3, h4, h5⟩ := h
  refine ⟨by rw [hJ _ (by omega) (by omega)]; exact h1, by rw [hJ _ (by omega) (by omega)]; exact h2, fun i hi => by rw [hJ _ (by omega) (by omega)]; exact h3 i hi, fun i hi k hk => by rw [hJ _ (by omega) (by omega)]; exact h4 i hi k hk, by rw [hJ _ (by omega) (by omega)]; exact h5⟩
theorem Ly.keep {I J : ZI} {y nq : Nat} {qd : Qd} {seed : Int32} {lines : Nat} (h : Ly I y nq qd seed lines) (hJ : ∀ a, y ≤ a → a < y + 11 → J a = I a) : Ly J y nq qd seed lines := by
  obtain ⟨h1, h2⟩ := h
  refine ⟨by rw [hJ _ (by omega) (by omega)]; exact h1, fun i hi => ?_⟩
  rw [hJ (y + 7 + 1) (by omega) (by omega), hJ (y + 9 + 1) (by omega) (by omega), hJ (y + 3 + 1) (by omega) (by omega), hJ (y + 5 + 1) (by omega) (by omega)]
  exact h2 i hi
/-- the papers: each is out of date, or its version's -/
def PaC (I : ZI) (A : AS) : Prop := ∀ v, v < 6 → I (139 + 20 * v) 6 = 0 ∨ (I (139 + 20 * v) 6 = 1 ∧ v < anv A ∧ Pm I (139 + 20 * v) (anq A) (aqd A) (asd A v) ∧ Ly I (139 + 20 * v + 9) (anq A) (aqd A) (asd A v) (aln A))
def BfC (I : ZI) (tc : Nat) (bf : Nat → Nat) : Prop := I 0 8 = nI tc ∧ tc ≤ 20 ∧ ∀ k, k < tc → I (137 + 1) k = nI (bf k) ∧ 32 ≤ bf k ∧ bf k ≤ 126
/-- the class holds the state A, the history and the buffer -/
def CI (I : ZI) (A : AS) (hc : Nat) (Hh : Nat → AS) (tc : Nat) (bf : Nat → Nat) : Prop := Sc I 1 A ∧ AV A ∧ HiC I hc Hh ∧ PaC I A ∧ BfC I tc bf
theorem BfC.keep {I J : ZI} {tc : Nat} {bf : Nat → Nat} (h : BfC I tc bf) (h0 : J 0 = I 0) (h1 : J 138 = I 138) : BfC J tc bf := ⟨by rw [h0]; exact h.1, h.2.1, fun k hk => by rw [h1]; exact h.2.2 k hk⟩
theorem CI.keep {I J : ZI} {A : AS} {hc : Nat} {Hh : Nat → AS} {tc : Nat} {bf : Nat → Nat} (h : CI I A hc Hh tc bf) (hJ : ∀ a, a < 105 → J a = I a) (h1 : J 138 = I 138) (hP : PaC J A) : CI J A hc Hh tc bf :=
  ⟨h.1.keep (fun a b c => hJ a (by omega)), h.2.1, h.2.2.1.keep (fun a b c => hJ a c), hP, h.2.2.2.2.keep (hJ 0 (by decide)) h1⟩
theorem s_outdate {I : ZI} : ZP yX9_outdatePapers cX9_outdatePapers 3 none 0 [.ref 0] Sg I (fun r J => r = none ∧ (∀ a, (∀ v, v < 6 → a ≠ 139 + 20 * v) → J a = I a) ∧ (∀ v, v < 6 → J (139 + 20 * v) 6 = 0) ∧ ∀ v k, v < 6 → k ≠ 6 → J (139 + 20 * v) k = I (139 + 20 * v) k) := by
  have h0 := at_tv
  refine ZSp.of (own := RX9) (L := [.ref 0, zj, zj]) mX9_outdatePapers rfl (List.all_eq_true.mp rfl) (Nat.le_of_ble_eq_true rfl) rfl (fun X hE hN => ?_)
  have loop : ∀ (n i : Nat) (J : ZI), i + n = 6 → (∀ a, (∀ v, v < 6 → a ≠ 139 + 20 * v) → J a = I a) → (∀ v, v < i → J (139 + 20 * v) 6 = 0) → (∀ v k, v < 6 → k ≠ 6 → J (139 + 20 * v) k = I (139 + 20 * v) k) → (ZG X RX9 cX9_outdatePapers 3 0 0 0 0 0 2 [.ref 0, .int (nI i), zj] [] Sg J) := by
    intro n
    induction n with
    | zero =>
      intro i J hi a1 a2 a3
      refine z_iload_n dX9_outdatePapers_2 rfl ?_
      refine z_aload_n dX9_outdatePapers_3 rfl ?_
      refine z_getR fRX9_32 dX9_outdatePapers_4 (by first | assumption | rfl) (by rfl) ?_
      refine z_alenq (t := 0) (by decide) dX9_outdatePapers_7 at_paps ?_
      refine z_icmp_ge (tgt := 33) dX9_outdatePapers_8 (by decide) (fun _ => ?_) (fun hb => absurd (nI_le (a := 6) (by omega) (by omega)) hb)
      exact z_vret hE dX9_outdatePapers_33 ⟨rfl, rfl, a1, fun v hv => a2 v (by omega), a3⟩
    | succ n ih =>
      intro i J hi a1 a2 a3
      have hp := (at_paper (show i < 6 by omega)).1
      refine z_iload_n dX9_outdatePapers_2 rfl ?_
      refine z_aload_n dX9_outdatePapers_3 rfl ?_
      refine z_getR fRX9_32 dX9_outdatePapers_4 (by first | assumption | rfl) (by rfl) ?_
      refine z_alenq (t := 0) (by decide) dX9_outdatePapers_7 at_paps ?_
      refine z_icmp_ge (tgt := 33) dX9_outdatePapers_8 (by decide) (fun hb => absurd hb (nI_ge (b := 6) (by omega) (by decide))) (fun _ => ?_)
      refine z_aload_n dX9_outdatePapers_11 rfl ?_
      refine z_getR fRX9_32 dX9_outdatePapers_12 (by first | assumption | rfl) (by rfl) ?_
      refine z_iload_n dX9_outdatePapers_15 rfl ?_
      refine z_aald (t := 0) (by decide) dX9_outdatePapers_16 at_paps rfl (paps_get i (by omega)) (by decide) ?_
      refine z_ast2 dX9_outdatePapers_17 (by decide) rfl ?_
      refine z_aload_n dX9_outdatePapers_18 rfl ?_
      refine z_ifnull dX9_outdatePapers_19 ?_
      refine z_aload_n dX9_outdatePapers_22 rfl ?_
      refine z_iconst (v := 0) dX9_outdatePapers_23 rfl ?_
      refine z_putZ fRX9_238 ⟨rfl, rfl⟩ dX9_outdatePapers_24 (by first | assumption | rfl) (by rfl) ?_
      refine z_inc1 (w := 1) dX9_outdatePapers_27 rfl (by decide) rfl ?_
      refine z_goto (tgt := 2) dX9_outdatePapers_30 (by decide) ?_
      rw [nI_1]
      refine z_fg2 ?_
      refine ih (i + 1) _ (by omega) (fun a ha => ?_) (fun v hv => ?_) (fun v k hv hk => ?_)
      · rw [zup_ne _ _ _ (ha i (by omega)), a1 a ha]
      · by_cases hvi : v = i
        · rw [hvi, zup_at, upd_at]
        · rw [zup_ne _ _ _ (by omega), a2 v (by omega)]
      · by_cases hvi : v = i
        · rw [hvi, zup_at, upd_ne _ _ hk, a3 i k (by omega) hk]
        · rw [zup_ne _ _ _ (by omega), a3 v k hv hk]
  refine z_iconst (v := 0) dX9_outdatePapers_0 rfl ?_
  refine z_ist1 dX9_outdatePapers_1 (by decide) rfl ?_
  exact loop 6 0 I rfl (fun _ _ => rfl) (fun v hv => absurd hv (Nat.not_lt_zero v)) (fun _ _ _ _ => rfl)
/-- behind an act's beginning: the state is in the history, no paper is up to date -/
def CB (I : ZI) (A : AS) (hc : Nat) (Hh : Nat → AS) (tc : Nat) (bf : Nat → Nat) : Prop := Sc I 1 A ∧ AV A ∧ HiC I hc Hh ∧ (∀ v, v < 6 → I (139 + 20 * v) 6 = 0) ∧ BfC I tc bf
theorem s_beginChange {I : ZI} {A : AS} {hc : Nat} {Hh : Nat → AS} {tc : Nat} {bf : Nat → Nat} (h : CI I A hc Hh tc bf) : ZP yX9_beginChange cX9_beginChange 1 none 5 [.ref 0] Sg I (fun r J => r = none ∧ (∀ a, (a < 18 ∨ (105 ≤ a ∧ a < 139) ∨ 259 ≤ a) → J a = I a) ∧ CB J A (phc hc) (pHh hc Hh A) tc bf) := by
  obtain ⟨h1, h2, h3, h4, h5⟩ := h
  have h0 := at_tv
  have h18 : Sg[18]? = some (0, 0, [21, 0, 0]) := rfl
  refine ZSp.of (own := RX9) (L := [.ref 0]) mX9_beginChange rfl (List.all_eq_true.mp rfl) (Nat.le_of_ble_eq_true rfl) rfl (fun X hE hN => ?_)
  refine z_aload_n dX9_beginChange_0 rfl ?_
  refine z_getR fRX9_19 dX9_beginChange_1 (by first | assumption | rfl) (by rfl) ?_
  refine z_aload_n dX9_beginChange_4 rfl ?_
  refine z_getR fRX9_10 dX9_beginChange_5 (by first | assumption | rfl) (by rfl) ?_
  refine z_cV1p mX0_keep gRX9_191 dX9_beginChange_8 (s_keep h1 h2 h3) (by decide) (by first | assumption | rfl) (by rfl) (Nat.le_of_ble_eq_true rfl) (Nat.le_refl _) (Nat.le_refl _) (fun r J hq => ?_)
  obtain ⟨rfl, b1, b2⟩ := hq
  refine z_aload_n dX9_beginChange_11 rfl ?_
  refine z_cV0p mX9_outdatePapers gRX9_223 dX9_beginChange_12 (s_outdate) (by decide) (by first | assumption | rfl) (by rfl) (Nat.le_of_ble_eq_true rfl) (Nat.le_refl _) (Nat.le_refl _) (fun r J hq => ?_)
  obtain ⟨rfl, c1, c2, c3⟩ := hq
  have fr : ∀ a, (a < 18 ∨ (105 ≤ a ∧ a < 139) ∨ 259 ≤ a) → J a = I a := fun a ha => by rw [c1 a (fun v hv => by omega), b1 a (by omega)]
  exact z_vret hE dX9_beginChange_15 ⟨rfl, rfl, fr, h1.keep (fun a x y => fr a (by omega)), h2, b2.keep (fun a x y => c1 a (fun v hv => by omega)), c2, h5.keep (fr 0 (by decide)) (fr 138 (by decide))⟩
/-- no such version: null -/
theorem s_paperOfN {I : ZI} {A : AS} {hc : Nat} {Hh : Nat → AS} {tc : Nat} {bf : Nat → Nat} {x : Int32} (h : CI I A hc Hh tc bf) (hx : ¬ ∃ v, v < anv A ∧ x = nI v) : ZE yX9_paperOf cX9_paperOf 3 (some (FieldType.object "TestVersions$Paper")) 5 [.ref 0, .int x] Sg I (some .null) I := by
  obtain ⟨h1, h2, h3, h4, h5⟩ := h
  have h0 := at_tv
  have hn1 := at_now.1
  have hnv := h2.2.1
  refine ZSp.of (own := RX9) (L := [.ref 0, .int x, zj]) mX9_paperOf rfl (List.all_eq_true.mp rfl) (Nat.le_of_ble_eq_true rfl) rfl (fun X hE hN => ?_)
  refine z_iload_n dX9_paperOf_0 rfl ?_
  refine z_if_lt (tgt := 24) dX9_paperOf_1 (by decide) (fun hb => ?_) (fun hb => ?_)
  · refine z_null dX9_paperOf_24 ?_
    exact z_aretN hE dX9_paperOf_25 ⟨rfl, rfl, rfl⟩
  · refine z_iload_n dX9_paperOf_4 rfl ?_
    refine z_aload_n dX9_paperOf_5 rfl ?_
    refine z_getR fRX9_10 dX9_paperOf_6 (by first | assumption | rfl) (by rfl) ?_
    refine z_getI fRX9_103 dX9_paperOf_9 (by first | assumption | rfl) (by rfl) ?_
    rw [h1.2.1]
    refine z_icmp_ge (tgt := 24) dX9_paperOf_12 (by decide) (fun hc => ?_) (fun hc => ?_)
    · refine z_null dX9_paperOf_24 ?_
      exact z_aretN hE dX9_paperOf_25 ⟨rfl, rfl, rfl⟩
    · obtain ⟨k, hk, e⟩ := r_ix (show anv A < 1000 by omega) hb hc
      exact absurd ⟨k, hk, e⟩ hx
theorem s_paperOf {I : ZI} {A : AS} {hc : Nat} {Hh : Nat → AS} {tc : Nat} {bf : Nat → Nat} {v : Nat} {x : Int32} (h : CI I A hc Hh tc bf) (hx : x = nI v) (hv : v < anv A) : ZP yX9_paperOf cX9_paperOf 3 (some (FieldType.object "TestVersions$Paper")) 5 [.ref 0, .int x] Sg I (fun r J => r = some (.ref (139 + 20 * v)) ∧ (∀ a, (a < 106 ∨ (113 ≤ a ∧ (a < 139 + 20 * v ∨ 139 + 20 * v + 20 ≤ a))) → J a = I a) ∧ CI J A hc Hh tc bf ∧ Pm J (139 + 20 * v) (anq A) (aqd A) (asd A v) ∧ Ly J (139 + 20 * v + 9) (anq A) (aqd A) (asd A v) (aln A)) := by
  have hCI := h
  obtain ⟨h1, h2, h3, h4, h5⟩ := h
  have h0 := at_tv
  have hn1 := at_now.1
  have hnv := h2.2.1
  have hv6 : v < 6 := by omega
  have hpp := at_paper hv6
  have hp0 := hpp.1
  have hp9 := hpp.2.2.2.2.2.1
  have h105 : Sg[105]? = some (0, 3, [108, 109, 111, 113]) := rfl
  subst hx
  refine ZSp.of (own := RX9) (L := [.ref 0, .int (nI v), zj]) mX9_paperOf rfl (List.all_eq_true.mp rfl) (Nat.le_of_ble_eq_true rfl) rfl (fun X hE hN => ?_)
  refine z_iload_n dX9_paperOf_0 rfl ?_
  refine z_if_lt (tgt := 24) dX9_paperOf_1 (by decide) (fun hb => absurd hb (nI_pos (by omega))) (fun _ => ?_)
  refine z_iload_n dX9_paperOf_4 rfl ?_
  refine z_aload_n dX9_paperOf_5 rfl ?_
  refine z_getR fRX9_10 dX9_paperOf_6 (by first | assumption | rfl) (by rfl) ?_
  refine z_getI fRX9_103 dX9_paperOf_9 (by first | assumption | rfl) (by rfl) ?_
  rw [h1.2.1]
  refine z_icmp_ge (tgt := 24) dX9_paperOf_12 (by decide) (fun hb => absurd hb (nI_ge hv (by omega))) (fun _ => ?_)
  refine z_iload_n dX9_paperOf_15 rfl ?_
  refine z_aload_n dX9_paperOf_16 rfl ?_
  refine z_getR fRX9_32 dX9_paperOf_17 (by first | assumption | rfl) (by rfl) ?_
  refine z_alenq (t := 0) (by decide) dX9_paperOf_20 at_paps ?_
  refine z_icmp_lt (tgt := 26) dX9_paperOf_21 (by decide) (fun _ => ?_) (fun hb => absurd (nI_lt (b := 6) hv6 (by decide)) hb)
  refine z_aload_n dX9_paperOf_26 rfl ?_
  refine z_getR fRX9_32 dX9_paperOf_27 (by first | assumption | rfl) (by rfl) ?_
  refine z_iload_n dX9_paperOf_30 rfl ?_
  refine z_aald (t := 0) (by decide) dX9_paperOf_31 at_paps rfl (paps_get v hv6) (by decide) ?_
  refine z_ast2 dX9_paperOf_32 (by decide) rfl ?_
  refine z_aload_n dX9_paperOf_33 rfl ?_
  refine z_ifnull dX9_paperOf_34 ?_
  refine z_aload_n dX9_paperOf_37 rfl ?_
  refine z_getI fRX9_238 dX9_paperOf_38 (by first | assumption | rfl) (by rfl) ?_
  rcases h4 v hv6 with hf | ⟨hf, hf2, hf3, hf4⟩
  · refine z_if_ne (tgt := 97) dX9_paperOf_41 (by decide) (fun hb => absurd (hf) hb) (fun _ => ?_)
    refine z_aload_n dX9_paperOf_44 rfl ?_
    refine z_getR fRX9_26 dX9_paperOf_45 (by first | assumption | rfl) (by rfl) ?_
    refine z_aload_n dX9_paperOf_48 rfl ?_
    refine z_getR fRX9_10 dX9_paperOf_49 (by first | assumption | rfl) (by rfl) ?_
    refine z_getR fRX9_76 dX9_paperOf_52 (by first | assumption | rfl) (by rfl) ?_
    refine z_aload_n dX9_paperOf_55 rfl ?_
    refine z_getR fRX9_10 dX9_paperOf_56 (by first | assumption | rfl) (by rfl) ?_
    refine z_getR fRX9_106 dX9_paperOf_59 (by first | assumption | rfl) (by rfl) ?_
    refine z_iload_n dX9_paperOf_62 rfl ?_
    refine z_cV1s mX6_get gRX9_115 dX9_paperOf_63 (s_getN at_seeds rfl hv6) (by decide) (by first | assumption | rfl) (by rfl) (Nat.le_of_ble_eq_true rfl) (Nat.le_refl _) (Nat.le_refl _) ?_
    rw [h1.2.2.1 v hv]
    refine z_aload_n dX9_paperOf_66 rfl ?_
    refine z_cV3p mX3_mix gRX9_242 dX9_paperOf_67 (s_mix h1.1 h2.1 hpp (by omega)) (by decide) (by first | assumption | rfl) (by rfl) (Nat.le_of_ble_eq_true rfl) (Nat.le_refl _) (Nat.le_refl _) (fun r J hq => ?_)
    obtain ⟨rfl, b1, b2, b3⟩ := hq
    have hlow : ∀ a, a < 106 → J a = I a := fun a ha => b1 a (by omega) (by omega) (by omega) (by omega) (by omega) (by omega) (by omega) (by omega) (by omega)
    refine z_aload_n dX9_paperOf_70 rfl ?_
    refine z_getR fRX9_160 dX9_paperOf_71 (by first | assumption | rfl) (by rfl) ?_
    refine z_aload_n dX9_paperOf_74 rfl ?_
    refine z_getR fRX9_10 dX9_paperOf_75 (by first | assumption | rfl) (by rfl) ?_
    refine z_getR fRX9_76 dX9_paperOf_78 (by first | assumption | rfl) (by rfl) ?_
    refine z_aload_n dX9_paperOf_81 rfl ?_
    refine z_aload_n dX9_paperOf_82 rfl ?_
    refine z_getR fRX9_10 dX9_paperOf_83 (by first | assumption | rfl) (by rfl) ?_
    refine z_getI fRX9_157 dX9_paperOf_86 (by first | assumption | rfl) (by rfl) ?_
    rw [hlow 1 (by decide), h1.2.2.2.1]
    refine z_cV3p mX1_lay gRX9_246 dX9_paperOf_89 (s_lay (h1.1.keep (hlow 2 (by decide)) (hlow 4 (by decide))) h2.1 hpp (by omega) b3 rfl h2.2.2.1 h2.2.2.2.1) (by decide) (by first | assumption | rfl) (by rfl) (Nat.le_of_ble_eq_true rfl) (Nat.le_refl _) (Nat.le_refl _) (fun r J hq => ?_)
    obtain ⟨rfl, c1, c2⟩ := hq
    refine z_aload_n dX9_paperOf_92 rfl ?_
    refine z_iconst (v := 1) dX9_paperOf_93 rfl ?_
    refine z_putZ fRX9_238 ⟨rfl, rfl⟩ dX9_paperOf_94 (by first | assumption | rfl) (by rfl) ?_
    refine z_aload_n dX9_paperOf_97 rfl ?_
    rename_i K
    have fr : ∀ a, (a < 106 ∨ (113 ≤ a ∧ (a < 139 + 20 * v ∨ 139 + 20 * v + 20 ≤ a))) → zup J (139 + 20 * v) 6 1 a = I a := fun a ha => by
      rw [zup_ne _ _ _ (by omega), c1 a (by omega) (by omega) (by omega) (by omega) (by omega) (by omega), b1 a (by omega) (by omega) (by omega) (by omega) (by omega) (by omega) (by omega) (by omega) (by omega)]
    have hPm : Pm (zup J (139 + 20 * v) 6 1) (139 + 20 * v) (anq A) (aqd A) (asd A v) := by
      have c1' : ∀ a, 139 + 20 * v ≤ a → a < 139 + 20 * v + 9 → J a = K a := fun a x y => c1 a (by omega) (by omega) (by omega) (by omega) (by omega) (by omega)
      obtain ⟨d1, d2, d3, d4, d5⟩ := b3.keep c1'
      exact ⟨by rw [zup_at, upd_ne _ _ (by decide)]; exact d1, by rw [zup_ne _ _ _ (by omega)]; exact d2, fun i hi => by rw [zup_ne _ _ _ (by omega)]; exact d3 i hi, fun i hi k hk => by rw [zup_ne _ _ _ (by omega)]; exact d4 i hi k hk, by rw [zup_ne _ _ _ (by omega)]; exact d5⟩
    have hLy : Ly (zup J (139 + 20 * v) 6 1) (139 + 20 * v + 9) (anq A) (aqd A) (asd A v) (aln A) := c2.keep (fun a x y => zup_ne _ _ _ (by omega))
    have hPa : PaC (zup J (139 + 20 * v) 6 1) A := by
      intro w hw
      by_cases hwv : w = v
      · subst hwv
        exact Or.inr ⟨by rw [zup_at, upd_at], hv, hPm, hLy⟩
      · have fw : ∀ a, 139 + 20 * w ≤ a → a < 139 + 20 * w + 20 → zup J (139 + 20 * v) 6 1 a = I a := fun a x y => fr a (by omega)
        rcases h4 w hw with g | ⟨g1, g2, g3, g4⟩
        · exact Or.inl (by rw [fw _ (by omega) (by omega)]; exact g)
        · exact Or.inr ⟨by rw [fw _ (by omega) (by omega)]; exact g1, g2, g3.keep (fun a x y => fw a (by omega) (by omega)), g4.keep (fun a x y => fw a (by omega) (by omega))⟩
    exact z_aret hE dX9_paperOf_98 ⟨rfl, rfl, fr, hCI.keep (fun a ha => fr a (by omega)) (fr 138 (by omega)) hPa, hPm, hLy⟩
  · refine z_if_ne (tgt := 97) dX9_paperOf_41 (by decide) (fun _ => ?_) (fun hb => absurd hb (by rw [hf]; decide))
    refine z_aload_n dX9_paperOf_97 rfl ?_
    exact z_aret hE dX9_paperOf_98 ⟨rfl, rfl, fun _ _ => rfl, hCI, hf3, hf4⟩
theorem s_choicesAt {I : ZI} {A : AS} {v i : Nat} {x : Int32} (hS : Sc I 1 A) (hV : AV A) (hv : v < 6) (hP : Pm I (139 + 20 * v) (anq A) (aqd A) (asd A v)) (hx : x = nI i) (hi : i < anq A) : ZE yX9_choicesAt cX9_choicesAt 3 (some FieldType.int) 2 [.ref 0, .ref (139 + 20 * v), .int x] Sg I (some (.int (nI (aqd A (vO A v i) 4)))) I := by
  have h0 := at_tv
  have hn1 := at_now.1
  have hp := at_paper hv
  have hp0 := hp.1
  have hp1 := hp.2.1.1
  have hn := hV.1.1
  subst hx
  refine ZSp.of (own := RX9) (L := [.ref 0, .ref (139 + 20 * v), .int (nI i)]) mX9_choicesAt rfl (List.all_eq_true.mp rfl) (Nat.le_of_ble_eq_true rfl) rfl (fun X hE hN => ?_)
  refine z_aload_n dX9_choicesAt_0 rfl ?_
  refine z_getR fRX9_10 dX9_choicesAt_1 (by first | assumption | rfl) (by rfl) ?_
  refine z_getR fRX9_76 dX9_choicesAt_4 (by first | assumption | rfl) (by rfl) ?_
  refine z_aload_n dX9_choicesAt_7 rfl ?_
  refine z_getR fRX9_137 dX9_choicesAt_8 (by first | assumption | rfl) (by rfl) ?_
  refine z_iload_n dX9_choicesAt_11 rfl ?_
  refine z_cV1s mX6_get gRX9_115 dX9_choicesAt_12 (s_getN hp.2.1 rfl (show i < 20 by omega)) (by decide) (by first | assumption | rfl) (by rfl) (Nat.le_of_ble_eq_true rfl) (Nat.le_refl _) (Nat.le_refl _) ?_
  rw [hP.2.1 i hi]
  refine z_iconst (v := 4) dX9_choicesAt_15 rfl ?_
  refine z_cV2s mX5_number gRX9_95 dX9_choicesAt_16 (s_number at_q hS.1 hn rfl (show (4 : Int32) = nI 4 from rfl) ((Od_en _ _ _).1 i hi) (by decide)) (by decide) (by first | assumption | rfl) (by rfl) (Nat.le_of_ble_eq_true rfl) (Nat.le_refl _) (Nat.le_refl _) ?_
  exact z_eireturn hE dX9_choicesAt_19 rfl rfl

