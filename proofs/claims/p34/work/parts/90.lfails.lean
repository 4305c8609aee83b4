/-! ===== the law's fails: what must be refused changes nothing ===== -/
theorem b_add1 : ¬ ∃ f, vQ 0 2 0 0 0 f := by
  rintro ⟨f, ⟨a1, a2, a3, a4, a5, a6, a7⟩, h0, h4, h1, h2, h3⟩
  have e0 := nI_inj (a := 0) (b := f 0) (m := 100) (by decide) (by omega) (by decide) h0
  omega
theorem b_add2 : ¬ ∃ f, vQ 10 2 0 0 0 f := by
  rintro ⟨f, ⟨a1, a2, a3, a4, a5, a6, a7⟩, h0, h4, h1, h2, h3⟩
  have e0 := nI_inj (a := 10) (b := f 0) (m := 100) (by decide) (by omega) (by decide) h0
  omega
theorem b_add3 : ¬ ∃ f, vQ 1 6 0 0 0 f := by
  rintro ⟨f, ⟨a1, a2, a3, a4, a5, a6, a7⟩, h0, h4, h1, h2, h3⟩
  have e4 := nI_inj (a := 6) (b := f 4) (m := 100) (by decide) (by omega) (by decide) h4
  omega
theorem b_add4 : ¬ ∃ f, vQ 1 3 3 0 0 f := by
  rintro ⟨f, ⟨a1, a2, a3, a4, a5, a6, a7⟩, h0, h4, h1, h2, h3⟩
  have e4 := nI_inj (a := 3) (b := f 4) (m := 100) (by decide) (by omega) (by decide) h4
  have e1 := nI_inj (a := 3) (b := f 1) (m := 100) (by decide) (by omega) (by decide) h1
  omega
theorem b_add5 : ¬ ∃ f, vQ 1 3 0 8 0 f := by
  rintro ⟨f, ⟨a1, a2, a3, a4, a5, a6, a7⟩, h0, h4, h1, h2, h3⟩
  have e4 := nI_inj (a := 3) (b := f 4) (m := 100) (by decide) (by omega) (by decide) h4
  rw [← e4] at a6
  have a6 : f 2 < 8 := a6
  have e2 := nI_inj (a := 8) (b := f 2) (m := 100) (by decide) (by omega) (by decide) h2
  omega
theorem b_add6 : ¬ ∃ f, vQ 1 3 0 0 6 f := by
  rintro ⟨f, ⟨a1, a2, a3, a4, a5, a6, a7⟩, h0, h4, h1, h2, h3⟩
  have e3 := nI_inj (a := 6) (b := f 3) (m := 100) (by decide) (by omega) (by decide) h3
  omega
theorem g_add : ∃ f, vQ 1 2 0 0 0 f := ⟨fun i => if i = 0 then 1 else if i = 4 then 2 else 0, ⟨by decide, by decide, by decide, by decide, by decide, by decide, by decide⟩, rfl, rfl, rfl, rfl, rfl⟩
theorem b_ch1 {A : AS} {x y z : Int32} (h : ¬ isQ A x) : ¬ ∃ q j n, vC2 A x y z q j n := by
  rintro ⟨q, j, n, h1, h2, -⟩
  exact h ⟨q, h1, h2⟩
theorem b_ch2 {A : AS} {x z : Int32} : ¬ ∃ q j n, vC2 A x 4 z q j n := by
  rintro ⟨q, j, n, h1, h2, h3, h4, -⟩
  have := nI_inj (a := 4) (b := j) (m := 100) (by decide) (by omega) (by decide) h4
  omega
theorem b_ch3 {A : AS} {x : Int32} : ¬ ∃ q j n, vC2 A x 0 10 q j n := by
  rintro ⟨q, j, n, h1, h2, h3, h4, h5, h6⟩
  have e := nI_inj (a := 0) (b := j) (m := 100) (by decide) (by omega) (by decide) h4
  rcases h6 with ⟨-, -, h7⟩ | ⟨h7, -⟩ | ⟨h7, -⟩ | ⟨h7, -⟩
  · have e := nI_inj (a := 10) (b := n) (m := 100) (by decide) (by omega) (by decide) h5
    omega
  · omega
  · omega
  · omega
theorem g_ch {A : AS} (h : 0 < anq A) : ∃ q j n, vC2 A 0 0 1 q j n := ⟨0, 0, 1, h, rfl, by decide, rfl, rfl, Or.inl ⟨rfl, by decide, by decide⟩⟩
theorem b_range {a b n : Nat} (hn : n < a ∨ b < n) (hb : b < 500) (hn5 : n < 500) : ¬ ∃ k, a ≤ k ∧ k ≤ b ∧ nI n = nI k := by
  rintro ⟨k, h1, h2, h3⟩
  have := nI_inj (a := n) (b := k) (m := 1000) (by omega) (by omega) (by decide) h3
  omega
theorem b_K : ¬ isK 11 := by
  rintro ⟨n, h1, h2⟩
  have := nI_inj (a := 11) (b := n) (m := 1000) (by decide) (by omega) (by decide) h2
  omega
theorem b_choice {A : AS} (hV : AV A) : ¬ isV A 0 ∨ ¬ isQ A 0 ∨ ∃ v p, v < anv A ∧ (0 : Int32) = nI v ∧ p < anq A ∧ (0 : Int32) = nI p ∧ ¬ ∃ k, k < aqd A (vO A v p) 4 ∧ (5 : Int32) = nI k := by
  by_cases hv : 0 < anv A
  · by_cases hq : 0 < anq A
    · exact Or.inr (Or.inr ⟨0, 0, hv, rfl, hq, rfl, nb_no (n := 5) (aqd5 hV (vO_lt (v := 0) hq)).1 (by decide)⟩)
    · exact Or.inr (Or.inl (fun ⟨q, h, _⟩ => by omega))
  · exact Or.inl (fun ⟨q, h, _⟩ => by omega)
theorem lc_same (x : Int64) : lg_cmp x x = 0 := by
  unfold lg_cmp
  rw [if_neg (Int64.lt_irrefl), if_pos rfl]
theorem l_fails {T : CT} {I : ZI} (h : KI T I) (h0 : ans T.1 ≠ 0 → 0 < anq T.1) : ZK yL_fails cL_fails 7 (some FieldType.boolean) 8 [.ref 0, .int (nI (anq T.1)), .int (nI (anv T.1)), .int (nI (ans T.1))] T I (.int 1) := by
  have hV := h.av
  have h20 := hV.n20
  have htv := at_tv
  have hQ : ¬ isQ T.1 (nI (anq T.1)) := nb_no (Nat.le_refl _) (by omega)
  have hVv : ¬ isV T.1 (nI (anv T.1)) := nb_no (Nat.le_refl _) (by omega)
  have hT : ¬ isT T.1 (nI (ans T.1)) := nb_no (Nat.le_refl _) (by omega)
  refine ZSp.of (own := RL) (L := [.ref 0, .int (nI (anq T.1)), .int (nI (anv T.1)), .int (nI (ans T.1)), zj, zj, zj]) mL_fails rfl (List.all_eq_true.mp rfl) (Nat.le_of_ble_eq_true rfl) rfl (fun X hE hN => ?_)
  have K664 : ∀ (J : ZI), KI T J → (ZG X RL cL_fails 7 8 0 0 0 0 664 [.ref 0, .int (nI (anq T.1)), .int (nI (anv T.1)), .int (nI (ans T.1)), .long (fpF T.1), zj, .int 1] [] Sg J) := by
    intro J hK
    refine z_iconst (v := 1) dL_fails_664 rfl ?_
    refine z_goto (tgt := 669) dL_fails_665 (by decide) ?_
    refine z_ist6 dL_fails_669 (by decide) rfl ?_
    refine z_iload dL_fails_671 rfl ?_
    refine z_if_eq (tgt := 690) dL_fails_673 (by decide) (fun hb => absurd hb ((by decide))) (fun _ => ?_)
    refine z_aload_n dL_fails_676 rfl ?_
    refine z_cV0p mX9_fingerprint gRL_9 dL_fails_677 (k_fingerprint hK) (by decide) (by first | assumption | rfl) (by rfl) (Nat.le_of_ble_eq_true rfl) (Nat.le_refl _) (Nat.le_refl _) (fun r J hq => ?_)
    obtain ⟨rfl, hK⟩ := hq
    refine z_lload dL_fails_680 rfl ?_
    refine z_lcmp dL_fails_682 ?_
    refine z_if_ne (tgt := 690) dL_fails_683 (by decide) (fun hb => absurd (lc_same _) hb) (fun _ => ?_)
    refine z_iconst (v := 1) dL_fails_686 rfl ?_
    refine z_goto (tgt := 691) dL_fails_687 (by decide) ?_
    exact z_zret hE dL_fails_691 rfl ⟨rfl, rfl, hK⟩
  have K418 : ∀ (J : ZI), KI T J → (ZG X RL cL_fails 7 8 0 0 0 0 413 [.ref 0, .int (nI (anq T.1)), .int (nI (anv T.1)), .int (nI (ans T.1)), .long (fpF T.1), zj, .int 1] [] Sg J) := by
    intro J hK
    refine z_iload dL_fails_413 rfl ?_
    refine z_if_eq (tgt := 591) dL_fails_415 (by decide) (fun hb => absurd hb ((by decide))) (fun _ => ?_)
    refine z_aload_n dL_fails_418 rfl ?_
    refine z_bipush (v := 31) dL_fails_419 rfl ?_
    refine z_cV1p mX9_type gRL_60 dL_fails_421 (k_typeB hK (b_range (n := 31) (Or.inl (by decide)) (by decide) (by decide))) (by decide) (by first | assumption | rfl) (by rfl) (Nat.le_of_ble_eq_true rfl) (Nat.le_refl _) (Nat.le_refl _) (fun r J hq => ?_)
    obtain ⟨rfl, hK⟩ := hq
    refine z_sipush (v := -1001) dL_fails_424 rfl ?_
    refine z_icmp_ne (tgt := 591) dL_fails_427 (by decide) (fun hb => absurd (rfl) hb) (fun _ => ?_)
    refine z_aload_n dL_fails_430 rfl ?_
    refine z_iload_n dL_fails_431 rfl ?_
    refine z_cV1p mX9_sheet gRL_63 dL_fails_432 (k_sheetB hK hVv) (by decide) (by first | assumption | rfl) (by rfl) (Nat.le_of_ble_eq_true rfl) (Nat.le_refl _) (Nat.le_refl _) (fun r J hq => ?_)
    obtain ⟨rfl, hK⟩ := hq
    refine z_sipush (v := -1001) dL_fails_435 rfl ?_
    refine z_icmp_ne (tgt := 591) dL_fails_438 (by decide) (fun hb => absurd (rfl) hb) (fun _ => ?_)
    refine z_aload_n dL_fails_441 rfl ?_
    refine z_iload_n dL_fails_442 rfl ?_
    refine z_iconst (v := 1) dL_fails_443 rfl ?_
    refine z_iconst (v := 1) dL_fails_444 rfl ?_
    refine z_cV3p mX9_guess gRL_66 dL_fails_445 (k_guessB hK (Or.inl hVv)) (by decide) (by first | assumption | rfl) (by rfl) (Nat.le_of_ble_eq_true rfl) (Nat.le_refl _) (Nat.le_refl _) (fun r J hq => ?_)
    obtain ⟨rfl, hK⟩ := hq
    refine z_sipush (v := -1001) dL_fails_448 rfl ?_
    refine z_icmp_ne (tgt := 591) dL_fails_451 (by decide) (fun hb => absurd (rfl) hb) (fun _ => ?_)
    refine z_aload_n dL_fails_454 rfl ?_
    refine z_iconst (v := 0) dL_fails_455 rfl ?_
    refine z_iconst (v := 1) dL_fails_456 rfl ?_
    refine z_bipush (v := 11) dL_fails_457 rfl ?_
    refine z_cV3p mX9_guess gRL_66 dL_fails_459 (k_guessB hK (Or.inr b_K)) (by decide) (by first | assumption | rfl) (by rfl) (Nat.le_of_ble_eq_true rfl) (Nat.le_refl _) (Nat.le_refl _) (fun r J hq => ?_)
    obtain ⟨rfl, hK⟩ := hq
    refine z_sipush (v := -1001) dL_fails_462 rfl ?_
    refine z_icmp_ne (tgt := 591) dL_fails_465 (by decide) (fun hb => absurd (rfl) hb) (fun _ => ?_)
    refine z_aload_n dL_fails_468 rfl ?_
    refine z_iload_n dL_fails_469 rfl ?_
    refine z_iconst (v := 0) dL_fails_470 rfl ?_
    refine z_cV2p mX9_result gRL_69 dL_fails_471 (k_resultB hK (Or.inl hT)) (by decide) (by first | assumption | rfl) (by rfl) (Nat.le_of_ble_eq_true rfl) (Nat.le_refl _) (Nat.le_refl _) (fun r J hq => ?_)
    obtain ⟨rfl, hK⟩ := hq
    refine z_sipush (v := -1001) dL_fails_474 rfl ?_
    refine z_icmp_ne (tgt := 591) dL_fails_477 (by decide) (fun hb => absurd (rfl) hb) (fun _ => ?_)
    refine z_aload_n dL_fails_480 rfl ?_
    refine z_iconst (v := 0) dL_fails_481 rfl ?_
    refine z_iconst (v := 5) dL_fails_482 rfl ?_
    refine z_cV2p mX9_result gRL_69 dL_fails_483 (k_resultB hK (Or.inr (by decide))) (by decide) (by first | assumption | rfl) (by rfl) (Nat.le_of_ble_eq_true rfl) (Nat.le_refl _) (Nat.le_refl _) (fun r J hq => ?_)
    obtain ⟨rfl, hK⟩ := hq
    refine z_sipush (v := -1001) dL_fails_486 rfl ?_
    refine z_icmp_ne (tgt := 591) dL_fails_489 (by decide) (fun hb => absurd (rfl) hb) (fun _ => ?_)
    refine z_aload_n dL_fails_492 rfl ?_
    refine z_iload_n dL_fails_493 rfl ?_
    refine z_iconst (v := 0) dL_fails_494 rfl ?_
    refine z_cV2p mX9_answer gRL_72 dL_fails_495 (k_answerB hK (Or.inl hT)) (by decide) (by first | assumption | rfl) (by rfl) (Nat.le_of_ble_eq_true rfl) (Nat.le_refl _) (Nat.le_refl _) (fun r J hq => ?_)
    obtain ⟨rfl, hK⟩ := hq
    refine z_sipush (v := -1001) dL_fails_498 rfl ?_
    refine z_icmp_ne (tgt := 591) dL_fails_501 (by decide) (fun hb => absurd (rfl) hb) (fun _ => ?_)
    refine z_aload_n dL_fails_504 rfl ?_
    refine z_iconst (v := 0) dL_fails_505 rfl ?_
    refine z_iload_n dL_fails_506 rfl ?_
    refine z_cV2p mX9_answer gRL_72 dL_fails_507 (k_answerB hK (Or.inr hQ)) (by decide) (by first | assumption | rfl) (by rfl) (Nat.le_of_ble_eq_true rfl) (Nat.le_refl _) (Nat.le_refl _) (fun r J hq => ?_)
    obtain ⟨rfl, hK⟩ := hq
    refine z_sipush (v := -1001) dL_fails_510 rfl ?_
    refine z_icmp_ne (tgt := 591) dL_fails_513 (by decide) (fun hb => absurd (rfl) hb) (fun _ => ?_)
    refine z_aload_n dL_fails_516 rfl ?_
    refine z_iload_n dL_fails_517 rfl ?_
    refine z_iconst (v := 0) dL_fails_518 rfl ?_
    refine z_cV2p mX9_about gRL_75 dL_fails_519 (k_aboutB hK (Or.inl hQ)) (by decide) (by first | assumption | rfl) (by rfl) (Nat.le_of_ble_eq_true rfl) (Nat.le_refl _) (Nat.le_refl _) (fun r J hq => ?_)
    obtain ⟨rfl, hK⟩ := hq
    refine z_sipush (v := -1001) dL_fails_522 rfl ?_
    refine z_icmp_ne (tgt := 591) dL_fails_525 (by decide) (fun hb => absurd (rfl) hb) (fun _ => ?_)
    refine z_aload_n dL_fails_528 rfl ?_
    refine z_iconst (v := 0) dL_fails_529 rfl ?_
    refine z_iconst (v := 4) dL_fails_530 rfl ?_
    refine z_cV2p mX9_about gRL_75 dL_fails_531 (k_aboutB hK (Or.inr (by decide))) (by decide) (by first | assumption | rfl) (by rfl) (Nat.le_of_ble_eq_true rfl) (Nat.le_refl _) (Nat.le_refl _) (fun r J hq => ?_)
    obtain ⟨rfl, hK⟩ := hq
    refine z_sipush (v := -1001) dL_fails_534 rfl ?_
    refine z_icmp_ne (tgt := 591) dL_fails_537 (by decide) (fun hb => absurd (rfl) hb) (fun _ => ?_)
    refine z_aload_n dL_fails_540 rfl ?_
    refine z_iload_n dL_fails_541 rfl ?_
    refine z_cV1p mX9_parting gRL_78 dL_fails_542 (k_partingB hK hQ) (by decide) (by first | assumption | rfl) (by rfl) (Nat.le_of_ble_eq_true rfl) (Nat.le_refl _) (Nat.le_refl _) (fun r J hq => ?_)
    obtain ⟨rfl, hK⟩ := hq
    refine z_ldcf kRL_82 dL_fails_545 ?_
    refine z_fcmp dL_fails_547 ?_
    refine z_if_ne (tgt := 591) dL_fails_548 (by decide) (fun hb => absurd ((by decide +kernel)) hb) (fun _ => ?_)
    refine z_aload_n dL_fails_551 rfl ?_
    refine z_iconst (v := 0) dL_fails_552 rfl ?_
    refine z_iload_n dL_fails_553 rfl ?_
    refine z_cV2p mX9_sameWrong gRL_83 dL_fails_554 (k_sameWrongB hK (Or.inr hT)) (by decide) (by first | assumption | rfl) (by rfl) (Nat.le_of_ble_eq_true rfl) (Nat.le_refl _) (Nat.le_refl _) (fun r J hq => ?_)
    obtain ⟨rfl, hK⟩ := hq
    refine z_sipush (v := -1001) dL_fails_557 rfl ?_
    refine z_icmp_ne (tgt := 591) dL_fails_560 (by decide) (fun hb => absurd (rfl) hb) (fun _ => ?_)
    refine z_aload_n dL_fails_563 rfl ?_
    refine z_iload_n dL_fails_564 rfl ?_
    refine z_iconst (v := 0) dL_fails_565 rfl ?_
    refine z_cV2p mX9_mistaken gRL_86 dL_fails_566 (k_mistakenB hK (Or.inl hT)) (by decide) (by first | assumption | rfl) (by rfl) (Nat.le_of_ble_eq_true rfl) (Nat.le_refl _) (Nat.le_refl _) (fun r J hq => ?_)
    obtain ⟨rfl, hK⟩ := hq
    refine z_sipush (v := -1001) dL_fails_569 rfl ?_
    refine z_icmp_ne (tgt := 591) dL_fails_572 (by decide) (fun hb => absurd (rfl) hb) (fun _ => ?_)
    refine z_aload_n dL_fails_575 rfl ?_
    refine z_iconst (v := 0) dL_fails_576 rfl ?_
    refine z_iload_n dL_fails_577 rfl ?_
    refine z_cV2p mX9_mistaken gRL_86 dL_fails_578 (k_mistakenB hK (Or.inr hVv)) (by decide) (by first | assumption | rfl) (by rfl) (Nat.le_of_ble_eq_true rfl) (Nat.le_refl _) (Nat.le_refl _) (fun r J hq => ?_)
    obtain ⟨rfl, hK⟩ := hq
    refine z_sipush (v := -1001) dL_fails_581 rfl ?_
    refine z_icmp_ne (tgt := 591) dL_fails_584 (by decide) (fun hb => absurd (rfl) hb) (fun _ => ?_)
    refine z_iconst (v := 1) dL_fails_587 rfl ?_
    refine z_goto (tgt := 592) dL_fails_588 (by decide) ?_
    refine z_ist6 dL_fails_592 (by decide) rfl ?_
    refine z_iload dL_fails_594 rfl ?_
    refine z_if_eq (tgt := 668) dL_fails_596 (by decide) (fun hb => absurd hb ((by decide))) (fun _ => ?_)
    refine z_iload_n dL_fails_599 rfl ?_
    by_cases hs : ans T.1 = 0
    · refine z_if_eq (tgt := 664) dL_fails_600 (by decide) (fun _ => ?_) (fun hb => absurd ((by rw [hs]; rfl)) hb)
      exact K664 _ hK
    · refine z_if_eq (tgt := 664) dL_fails_600 (by decide) (fun hb => absurd hb (nI_ne0 (by omega) (by omega))) (fun _ => ?_)
      refine z_aload_n dL_fails_603 rfl ?_
      refine z_iconst (v := 1) dL_fails_604 rfl ?_
      refine z_iconst (v := 2) dL_fails_605 rfl ?_
      refine z_iconst (v := 0) dL_fails_606 rfl ?_
      refine z_iconst (v := 0) dL_fails_607 rfl ?_
      refine z_iconst (v := 0) dL_fails_608 rfl ?_
      refine z_cV5p mX9_add gRL_15 dL_fails_609 (k_addS hK g_add hs) (by decide) (by first | assumption | rfl) (by rfl) (Nat.le_of_ble_eq_true rfl) (Nat.le_refl _) (Nat.le_refl _) (fun r J hq => ?_)
      obtain ⟨rfl, hK⟩ := hq
      refine z_sipush (v := -1002) dL_fails_612 rfl ?_
      refine z_icmp_ne (tgt := 668) dL_fails_615 (by decide) (fun hb => absurd (rfl) hb) (fun _ => ?_)
      refine z_aload_n dL_fails_618 rfl ?_
      refine z_iconst (v := 0) dL_fails_619 rfl ?_
      refine z_cV1p mX9_remove gRL_21 dL_fails_620 (k_removeS hK ⟨0, h0 hs, rfl⟩ hs) (by decide) (by first | assumption | rfl) (by rfl) (Nat.le_of_ble_eq_true rfl) (Nat.le_refl _) (Nat.le_refl _) (fun r J hq => ?_)
      obtain ⟨rfl, hK⟩ := hq
      refine z_sipush (v := -1002) dL_fails_623 rfl ?_
      refine z_icmp_ne (tgt := 668) dL_fails_626 (by decide) (fun hb => absurd (rfl) hb) (fun _ => ?_)
      refine z_aload_n dL_fails_629 rfl ?_
      refine z_iconst (v := 0) dL_fails_630 rfl ?_
      refine z_iconst (v := 0) dL_fails_631 rfl ?_
      refine z_iconst (v := 1) dL_fails_632 rfl ?_
      refine z_cV3p mX9_change gRL_25 dL_fails_633 (k_changeS hK (g_ch (h0 hs)) hs) (by decide) (by first | assumption | rfl) (by rfl) (Nat.le_of_ble_eq_true rfl) (Nat.le_refl _) (Nat.le_refl _) (fun r J hq => ?_)
      obtain ⟨rfl, hK⟩ := hq
      refine z_sipush (v := -1002) dL_fails_636 rfl ?_
      refine z_icmp_ne (tgt := 668) dL_fails_639 (by decide) (fun hb => absurd (rfl) hb) (fun _ => ?_)
      refine z_aload_n dL_fails_642 rfl ?_
      refine z_iconst (v := 5) dL_fails_643 rfl ?_
      refine z_cV1p mX9_version gRL_89 dL_fails_644 (k_versionS hK hs) (by decide) (by first | assumption | rfl) (by rfl) (Nat.le_of_ble_eq_true rfl) (Nat.le_refl _) (Nat.le_refl _) (fun r J hq => ?_)
      obtain ⟨rfl, hK⟩ := hq
      refine z_sipush (v := -1002) dL_fails_647 rfl ?_
      refine z_icmp_ne (tgt := 668) dL_fails_650 (by decide) (fun hb => absurd (rfl) hb) (fun _ => ?_)
      refine z_aload_n dL_fails_653 rfl ?_
      refine z_cV0p mX9_drop gRL_92 dL_fails_654 (k_dropS hK (Or.inl hs)) (by decide) (by first | assumption | rfl) (by rfl) (Nat.le_of_ble_eq_true rfl) (Nat.le_refl _) (Nat.le_refl _) (fun r J hq => ?_)
      obtain ⟨rfl, hK⟩ := hq
      refine z_ldc2 kRL_95 dL_fails_657 ?_
      refine z_lcmp dL_fails_660 ?_
      refine z_if_ne (tgt := 668) dL_fails_661 (by decide) (fun hb => absurd (lc_same _) hb) (fun _ => ?_)
      exact K664 _ hK
  have K393 : ∀ (J : ZI), KI T J → (ZG X RL cL_fails 7 8 0 0 0 0 393 [.ref 0, .int (nI (anq T.1)), .int (nI (anv T.1)), .int (nI (ans T.1)), .long (fpF T.1), zj, .int 1] [] Sg J) := by
    intro J hK
    refine z_aload_n dL_fails_393 rfl ?_
    refine z_iconst (v := 0) dL_fails_394 rfl ?_
    refine z_iconst (v := 0) dL_fails_395 rfl ?_
    refine z_iconst (v := 2) dL_fails_396 rfl ?_
    refine z_cV3p mX9_page gRL_57 dL_fails_397 (k_pageB hK (Or.inr (Or.inr (by decide)))) (by decide) (by first | assumption | rfl) (by rfl) (Nat.le_of_ble_eq_true rfl) (Nat.le_refl _) (Nat.le_refl _) (fun r J hq => ?_)
    obtain ⟨rfl, hK⟩ := hq
    refine z_sipush (v := -1001) dL_fails_400 rfl ?_
    refine z_icmp_ne (tgt := 410) dL_fails_403 (by decide) (fun hb => absurd (rfl) hb) (fun _ => ?_)
    refine z_iconst (v := 1) dL_fails_406 rfl ?_
    refine z_goto (tgt := 411) dL_fails_407 (by decide) ?_
    refine z_ist6 dL_fails_411 (by decide) rfl ?_
    exact K418 _ hK
  have hK := h
  refine z_aload_n dL_fails_0 rfl ?_
  refine z_cV0p mX9_fingerprint gRL_9 dL_fails_1 (k_fingerprint hK) (by decide) (by first | assumption | rfl) (by rfl) (Nat.le_of_ble_eq_true rfl) (Nat.le_refl _) (Nat.le_refl _) (fun r J hq => ?_)
  obtain ⟨rfl, hK⟩ := hq
  refine z_lst4 dL_fails_4 (by decide) rfl ?_
  refine z_aload_n dL_fails_6 rfl ?_
  refine z_iconst (v := 0) dL_fails_7 rfl ?_
  refine z_iconst (v := 2) dL_fails_8 rfl ?_
  refine z_iconst (v := 0) dL_fails_9 rfl ?_
  refine z_iconst (v := 0) dL_fails_10 rfl ?_
  refine z_iconst (v := 0) dL_fails_11 rfl ?_
  refine z_cV5p mX9_add gRL_15 dL_fails_12 (k_addB hK b_add1) (by decide) (by first | assumption | rfl) (by rfl) (Nat.le_of_ble_eq_true rfl) (Nat.le_refl _) (Nat.le_refl _) (fun r J hq => ?_)
  obtain ⟨rfl, hK⟩ := hq
  refine z_sipush (v := -1001) dL_fails_15 rfl ?_
  refine z_icmp_ne (tgt := 218) dL_fails_18 (by decide) (fun hb => absurd (rfl) hb) (fun _ => ?_)
  refine z_aload_n dL_fails_21 rfl ?_
  refine z_bipush (v := 10) dL_fails_22 rfl ?_
  refine z_iconst (v := 2) dL_fails_24 rfl ?_
  refine z_iconst (v := 0) dL_fails_25 rfl ?_
  refine z_iconst (v := 0) dL_fails_26 rfl ?_
  refine z_iconst (v := 0) dL_fails_27 rfl ?_
  refine z_cV5p mX9_add gRL_15 dL_fails_28 (k_addB hK b_add2) (by decide) (by first | assumption | rfl) (by rfl) (Nat.le_of_ble_eq_true rfl) (Nat.le_refl _) (Nat.le_refl _) (fun r J hq => ?_)
  obtain ⟨rfl, hK⟩ := hq
  refine z_sipush (v := -1001) dL_fails_31 rfl ?_
  refine z_icmp_ne (tgt := 218) dL_fails_34 (by decide) (fun hb => absurd (rfl) hb) (fun _ => ?_)
  refine z_aload_n dL_fails_37 rfl ?_
  refine z_iconst (v := 1) dL_fails_38 rfl ?_
  refine z_bipush (v := 6) dL_fails_39 rfl ?_
  refine z_iconst (v := 0) dL_fails_41 rfl ?_
  refine z_iconst (v := 0) dL_fails_42 rfl ?_
  refine z_iconst (v := 0) dL_fails_43 rfl ?_
  refine z_cV5p mX9_add gRL_15 dL_fails_44 (k_addB hK b_add3) (by decide) (by first | assumption | rfl) (by rfl) (Nat.le_of_ble_eq_true rfl) (Nat.le_refl _) (Nat.le_refl _) (fun r J hq => ?_)
  obtain ⟨rfl, hK⟩ := hq
  refine z_sipush (v := -1001) dL_fails_47 rfl ?_
  refine z_icmp_ne (tgt := 218) dL_fails_50 (by decide) (fun hb => absurd (rfl) hb) (fun _ => ?_)
  refine z_aload_n dL_fails_53 rfl ?_
  refine z_iconst (v := 1) dL_fails_54 rfl ?_
  refine z_iconst (v := 3) dL_fails_55 rfl ?_
  refine z_iconst (v := 3) dL_fails_56 rfl ?_
  refine z_iconst (v := 0) dL_fails_57 rfl ?_
  refine z_iconst (v := 0) dL_fails_58 rfl ?_
  refine z_cV5p mX9_add gRL_15 dL_fails_59 (k_addB hK b_add4) (by decide) (by first | assumption | rfl) (by rfl) (Nat.le_of_ble_eq_true rfl) (Nat.le_refl _) (Nat.le_refl _) (fun r J hq => ?_)
  obtain ⟨rfl, hK⟩ := hq
  refine z_sipush (v := -1001) dL_fails_62 rfl ?_
  refine z_icmp_ne (tgt := 218) dL_fails_65 (by decide) (fun hb => absurd (rfl) hb) (fun _ => ?_)
  refine z_aload_n dL_fails_68 rfl ?_
  refine z_iconst (v := 1) dL_fails_69 rfl ?_
  refine z_iconst (v := 3) dL_fails_70 rfl ?_
  refine z_iconst (v := 0) dL_fails_71 rfl ?_
  refine z_bipush (v := 8) dL_fails_72 rfl ?_
  refine z_iconst (v := 0) dL_fails_74 rfl ?_
  refine z_cV5p mX9_add gRL_15 dL_fails_75 (k_addB hK b_add5) (by decide) (by first | assumption | rfl) (by rfl) (Nat.le_of_ble_eq_true rfl) (Nat.le_refl _) (Nat.le_refl _) (fun r J hq => ?_)
  obtain ⟨rfl, hK⟩ := hq
  refine z_sipush (v := -1001) dL_fails_78 rfl ?_
  refine z_icmp_ne (tgt := 218) dL_fails_81 (by decide) (fun hb => absurd (rfl) hb) (fun _ => ?_)
  refine z_aload_n dL_fails_84 rfl ?_
  refine z_iconst (v := 1) dL_fails_85 rfl ?_
  refine z_iconst (v := 3) dL_fails_86 rfl ?_
  refine z_iconst (v := 0) dL_fails_87 rfl ?_
  refine z_iconst (v := 0) dL_fails_88 rfl ?_
  refine z_bipush (v := 6) dL_fails_89 rfl ?_
  refine z_cV5p mX9_add gRL_15 dL_fails_91 (k_addB hK b_add6) (by decide) (by first | assumption | rfl) (by rfl) (Nat.le_of_ble_eq_true rfl) (Nat.le_refl _) (Nat.le_refl _) (fun r J hq => ?_)
  obtain ⟨rfl, hK⟩ := hq
  refine z_sipush (v := -1001) dL_fails_94 rfl ?_
  refine z_icmp_ne (tgt := 218) dL_fails_97 (by decide) (fun hb => absurd (rfl) hb) (fun _ => ?_)
  refine z_aload_n dL_fails_100 rfl ?_
  refine z_iload_n dL_fails_101 rfl ?_
  refine z_cV1p mX9_remove gRL_21 dL_fails_102 (k_removeB hK hQ) (by decide) (by first | assumption | rfl) (by rfl) (Nat.le_of_ble_eq_true rfl) (Nat.le_refl _) (Nat.le_refl _) (fun r J hq => ?_)
  obtain ⟨rfl, hK⟩ := hq
  refine z_sipush (v := -1001) dL_fails_105 rfl ?_
  refine z_icmp_ne (tgt := 218) dL_fails_108 (by decide) (fun hb => absurd (rfl) hb) (fun _ => ?_)
  refine z_aload_n dL_fails_111 rfl ?_
  refine z_iload_n dL_fails_112 rfl ?_
  refine z_iconst (v := 0) dL_fails_113 rfl ?_
  refine z_iconst (v := 1) dL_fails_114 rfl ?_
  refine z_cV3p mX9_change gRL_25 dL_fails_115 (k_changeB hK (b_ch1 hQ)) (by decide) (by first | assumption | rfl) (by rfl) (Nat.le_of_ble_eq_true rfl) (Nat.le_refl _) (Nat.le_refl _) (fun r J hq => ?_)
  obtain ⟨rfl, hK⟩ := hq
  refine z_sipush (v := -1001) dL_fails_118 rfl ?_
  refine z_icmp_ne (tgt := 218) dL_fails_121 (by decide) (fun hb => absurd (rfl) hb) (fun _ => ?_)
  refine z_aload_n dL_fails_124 rfl ?_
  refine z_iconst (v := 0) dL_fails_125 rfl ?_
  refine z_iconst (v := 4) dL_fails_126 rfl ?_
  refine z_iconst (v := 1) dL_fails_127 rfl ?_
  refine z_cV3p mX9_change gRL_25 dL_fails_128 (k_changeB hK b_ch2) (by decide) (by first | assumption | rfl) (by rfl) (Nat.le_of_ble_eq_true rfl) (Nat.le_refl _) (Nat.le_refl _) (fun r J hq => ?_)
  obtain ⟨rfl, hK⟩ := hq
  refine z_sipush (v := -1001) dL_fails_131 rfl ?_
  refine z_icmp_ne (tgt := 218) dL_fails_134 (by decide) (fun hb => absurd (rfl) hb) (fun _ => ?_)
  refine z_aload_n dL_fails_137 rfl ?_
  refine z_iconst (v := 0) dL_fails_138 rfl ?_
  refine z_iconst (v := 0) dL_fails_139 rfl ?_
  refine z_bipush (v := 10) dL_fails_140 rfl ?_
  refine z_cV3p mX9_change gRL_25 dL_fails_142 (k_changeB hK b_ch3) (by decide) (by first | assumption | rfl) (by rfl) (Nat.le_of_ble_eq_true rfl) (Nat.le_refl _) (Nat.le_refl _) (fun r J hq => ?_)
  obtain ⟨rfl, hK⟩ := hq
  refine z_sipush (v := -1001) dL_fails_145 rfl ?_
  refine z_icmp_ne (tgt := 218) dL_fails_148 (by decide) (fun hb => absurd (rfl) hb) (fun _ => ?_)
  refine z_aload_n dL_fails_151 rfl ?_
  refine z_iload_n dL_fails_152 rfl ?_
  refine z_iconst (v := 0) dL_fails_153 rfl ?_
  refine z_cV2p mX9_question gRL_29 dL_fails_154 (k_questionB hK (Or.inl hQ)) (by decide) (by first | assumption | rfl) (by rfl) (Nat.le_of_ble_eq_true rfl) (Nat.le_refl _) (Nat.le_refl _) (fun r J hq => ?_)
  obtain ⟨rfl, hK⟩ := hq
  refine z_sipush (v := -1001) dL_fails_157 rfl ?_
  refine z_icmp_ne (tgt := 218) dL_fails_160 (by decide) (fun hb => absurd (rfl) hb) (fun _ => ?_)
  refine z_aload_n dL_fails_163 rfl ?_
  refine z_iconst (v := 0) dL_fails_164 rfl ?_
  refine z_iconst (v := 5) dL_fails_165 rfl ?_
  refine z_cV2p mX9_question gRL_29 dL_fails_166 (k_questionB hK (Or.inr (nb_no (n := 5) (Nat.le_refl _) (by decide)))) (by decide) (by first | assumption | rfl) (by rfl) (Nat.le_of_ble_eq_true rfl) (Nat.le_refl _) (Nat.le_refl _) (fun r J hq => ?_)
  obtain ⟨rfl, hK⟩ := hq
  refine z_sipush (v := -1001) dL_fails_169 rfl ?_
  refine z_icmp_ne (tgt := 218) dL_fails_172 (by decide) (fun hb => absurd (rfl) hb) (fun _ => ?_)
  refine z_aload_n dL_fails_175 rfl ?_
  refine z_iload_n dL_fails_176 rfl ?_
  refine z_iconst (v := 0) dL_fails_177 rfl ?_
  refine z_iconst (v := 0) dL_fails_178 rfl ?_
  refine z_cV3p mX9_at gRL_33 dL_fails_179 (k_atB hK (Or.inl hVv)) (by decide) (by first | assumption | rfl) (by rfl) (Nat.le_of_ble_eq_true rfl) (Nat.le_refl _) (Nat.le_refl _) (fun r J hq => ?_)
  obtain ⟨rfl, hK⟩ := hq
  refine z_sipush (v := -1001) dL_fails_182 rfl ?_
  refine z_icmp_ne (tgt := 218) dL_fails_185 (by decide) (fun hb => absurd (rfl) hb) (fun _ => ?_)
  refine z_aload_n dL_fails_188 rfl ?_
  refine z_iconst (v := 0) dL_fails_189 rfl ?_
  refine z_iload_n dL_fails_190 rfl ?_
  refine z_iconst (v := 0) dL_fails_191 rfl ?_
  refine z_cV3p mX9_at gRL_33 dL_fails_192 (k_atB hK (Or.inr (Or.inl hQ))) (by decide) (by first | assumption | rfl) (by rfl) (Nat.le_of_ble_eq_true rfl) (Nat.le_refl _) (Nat.le_refl _) (fun r J hq => ?_)
  obtain ⟨rfl, hK⟩ := hq
  refine z_sipush (v := -1001) dL_fails_195 rfl ?_
  refine z_icmp_ne (tgt := 218) dL_fails_198 (by decide) (fun hb => absurd (rfl) hb) (fun _ => ?_)
  refine z_aload_n dL_fails_201 rfl ?_
  refine z_iconst (v := 0) dL_fails_202 rfl ?_
  refine z_iconst (v := 0) dL_fails_203 rfl ?_
  refine z_iconst (v := 4) dL_fails_204 rfl ?_
  refine z_cV3p mX9_at gRL_33 dL_fails_205 (k_atB hK (Or.inr (Or.inr (by decide)))) (by decide) (by first | assumption | rfl) (by rfl) (Nat.le_of_ble_eq_true rfl) (Nat.le_refl _) (Nat.le_refl _) (fun r J hq => ?_)
  obtain ⟨rfl, hK⟩ := hq
  refine z_sipush (v := -1001) dL_fails_208 rfl ?_
  refine z_icmp_ne (tgt := 218) dL_fails_211 (by decide) (fun hb => absurd (rfl) hb) (fun _ => ?_)
  refine z_iconst (v := 1) dL_fails_214 rfl ?_
  refine z_goto (tgt := 219) dL_fails_215 (by decide) ?_
  refine z_ist6 dL_fails_219 (by decide) rfl ?_
  refine z_iload dL_fails_221 rfl ?_
  refine z_if_eq (tgt := 410) dL_fails_223 (by decide) (fun hb => absurd hb ((by decide))) (fun _ => ?_)
  refine z_aload_n dL_fails_226 rfl ?_
  refine z_iconst (v := 0) dL_fails_227 rfl ?_
  refine z_iload_n dL_fails_228 rfl ?_
  refine z_cV2p mX9_where gRL_36 dL_fails_229 (k_whereB hK (Or.inr hQ)) (by decide) (by first | assumption | rfl) (by rfl) (Nat.le_of_ble_eq_true rfl) (Nat.le_refl _) (Nat.le_refl _) (fun r J hq => ?_)
  obtain ⟨rfl, hK⟩ := hq
  refine z_sipush (v := -1001) dL_fails_232 rfl ?_
  refine z_icmp_ne (tgt := 410) dL_fails_235 (by decide) (fun hb => absurd (rfl) hb) (fun _ => ?_)
  refine z_aload_n dL_fails_238 rfl ?_
  refine z_iconst (v := -1) dL_fails_239 rfl ?_
  refine z_iconst (v := 0) dL_fails_240 rfl ?_
  refine z_cV2p mX9_where gRL_36 dL_fails_241 (k_whereB hK (Or.inl (nb_m1 (by omega)))) (by decide) (by first | assumption | rfl) (by rfl) (Nat.le_of_ble_eq_true rfl) (Nat.le_refl _) (Nat.le_refl _) (fun r J hq => ?_)
  obtain ⟨rfl, hK⟩ := hq
  refine z_sipush (v := -1001) dL_fails_244 rfl ?_
  refine z_icmp_ne (tgt := 410) dL_fails_247 (by decide) (fun hb => absurd (rfl) hb) (fun _ => ?_)
  refine z_aload_n dL_fails_250 rfl ?_
  refine z_iload_n dL_fails_251 rfl ?_
  refine z_iconst (v := 0) dL_fails_252 rfl ?_
  refine z_iconst (v := 0) dL_fails_253 rfl ?_
  refine z_cV3p mX9_choice gRL_39 dL_fails_254 (k_choiceB hK (Or.inl hVv)) (by decide) (by first | assumption | rfl) (by rfl) (Nat.le_of_ble_eq_true rfl) (Nat.le_refl _) (Nat.le_refl _) (fun r J hq => ?_)
  obtain ⟨rfl, hK⟩ := hq
  refine z_sipush (v := -1001) dL_fails_257 rfl ?_
  refine z_icmp_ne (tgt := 410) dL_fails_260 (by decide) (fun hb => absurd (rfl) hb) (fun _ => ?_)
  refine z_aload_n dL_fails_263 rfl ?_
  refine z_iconst (v := 0) dL_fails_264 rfl ?_
  refine z_iconst (v := 0) dL_fails_265 rfl ?_
  refine z_iconst (v := 5) dL_fails_266 rfl ?_
  refine z_cV3p mX9_choice gRL_39 dL_fails_267 (k_choiceB hK (b_choice hV)) (by decide) (by first | assumption | rfl) (by rfl) (Nat.le_of_ble_eq_true rfl) (Nat.le_refl _) (Nat.le_refl _) (fun r J hq => ?_)
  obtain ⟨rfl, hK⟩ := hq
  refine z_sipush (v := -1001) dL_fails_270 rfl ?_
  refine z_icmp_ne (tgt := 410) dL_fails_273 (by decide) (fun hb => absurd (rfl) hb) (fun _ => ?_)
  refine z_aload_n dL_fails_276 rfl ?_
  refine z_iconst (v := 0) dL_fails_277 rfl ?_
  refine z_iload_n dL_fails_278 rfl ?_
  refine z_iconst (v := 0) dL_fails_279 rfl ?_
  refine z_cV3p mX9_alike gRL_42 dL_fails_280 (k_alikeB hK (Or.inr (Or.inl hVv))) (by decide) (by first | assumption | rfl) (by rfl) (Nat.le_of_ble_eq_true rfl) (Nat.le_refl _) (Nat.le_refl _) (fun r J hq => ?_)
  obtain ⟨rfl, hK⟩ := hq
  refine z_sipush (v := -1001) dL_fails_283 rfl ?_
  refine z_icmp_ne (tgt := 410) dL_fails_286 (by decide) (fun hb => absurd (rfl) hb) (fun _ => ?_)
  refine z_aload_n dL_fails_289 rfl ?_
  refine z_iconst (v := 0) dL_fails_290 rfl ?_
  refine z_iconst (v := 0) dL_fails_291 rfl ?_
  refine z_iconst (v := 3) dL_fails_292 rfl ?_
  refine z_cV3p mX9_alike gRL_42 dL_fails_293 (k_alikeB hK (Or.inr (Or.inr (by decide)))) (by decide) (by first | assumption | rfl) (by rfl) (Nat.le_of_ble_eq_true rfl) (Nat.le_refl _) (Nat.le_refl _) (fun r J hq => ?_)
  obtain ⟨rfl, hK⟩ := hq
  refine z_sipush (v := -1001) dL_fails_296 rfl ?_
  refine z_icmp_ne (tgt := 410) dL_fails_299 (by decide) (fun hb => absurd (rfl) hb) (fun _ => ?_)
  refine z_aload_n dL_fails_302 rfl ?_
  refine z_iconst (v := 1) dL_fails_303 rfl ?_
  refine z_iconst (v := 0) dL_fails_304 rfl ?_
  refine z_cV2p mX9_unlike gRL_45 dL_fails_305 (k_unlikeB hK (b_range (n := 0) (Or.inl (by decide)) (by decide) (by decide))) (by decide) (by first | assumption | rfl) (by rfl) (Nat.le_of_ble_eq_true rfl) (Nat.le_refl _) (Nat.le_refl _) (fun r J hq => ?_)
  obtain ⟨rfl, hK⟩ := hq
  refine z_ldc2 kRL_49 dL_fails_308 ?_
  refine z_lcmp dL_fails_311 ?_
  refine z_if_ne (tgt := 410) dL_fails_312 (by decide) (fun hb => absurd (lc_same _) hb) (fun _ => ?_)
  refine z_aload_n dL_fails_315 rfl ?_
  refine z_iconst (v := 1) dL_fails_316 rfl ?_
  refine z_bipush (v := 41) dL_fails_317 rfl ?_
  refine z_cV2p mX9_unlike gRL_45 dL_fails_319 (k_unlikeB hK (b_range (n := 41) (Or.inr (by decide)) (by decide) (by decide))) (by decide) (by first | assumption | rfl) (by rfl) (Nat.le_of_ble_eq_true rfl) (Nat.le_refl _) (Nat.le_refl _) (fun r J hq => ?_)
  obtain ⟨rfl, hK⟩ := hq
  refine z_ldc2 kRL_49 dL_fails_322 ?_
  refine z_lcmp dL_fails_325 ?_
  refine z_if_ne (tgt := 410) dL_fails_326 (by decide) (fun hb => absurd (lc_same _) hb) (fun _ => ?_)
  refine z_aload_n dL_fails_329 rfl ?_
  refine z_bipush (v := 8) dL_fails_330 rfl ?_
  refine z_cV1p mX9_setLines gRL_51 dL_fails_332 (k_setLinesB hK (b_range (n := 8) (Or.inl (by decide)) (by decide) (by decide))) (by decide) (by first | assumption | rfl) (by rfl) (Nat.le_of_ble_eq_true rfl) (Nat.le_refl _) (Nat.le_refl _) (fun r J hq => ?_)
  obtain ⟨rfl, hK⟩ := hq
  refine z_sipush (v := -1001) dL_fails_335 rfl ?_
  refine z_icmp_ne (tgt := 410) dL_fails_338 (by decide) (fun hb => absurd (rfl) hb) (fun _ => ?_)
  refine z_aload_n dL_fails_341 rfl ?_
  refine z_bipush (v := 61) dL_fails_342 rfl ?_
  refine z_cV1p mX9_setLines gRL_51 dL_fails_344 (k_setLinesB hK (b_range (n := 61) (Or.inr (by decide)) (by decide) (by decide))) (by decide) (by first | assumption | rfl) (by rfl) (Nat.le_of_ble_eq_true rfl) (Nat.le_refl _) (Nat.le_refl _) (fun r J hq => ?_)
  obtain ⟨rfl, hK⟩ := hq
  refine z_sipush (v := -1001) dL_fails_347 rfl ?_
  refine z_icmp_ne (tgt := 410) dL_fails_350 (by decide) (fun hb => absurd (rfl) hb) (fun _ => ?_)
  refine z_aload_n dL_fails_353 rfl ?_
  refine z_iload_n dL_fails_354 rfl ?_
  refine z_cV1p mX9_pages gRL_54 dL_fails_355 (k_pagesB hK hVv) (by decide) (by first | assumption | rfl) (by rfl) (Nat.le_of_ble_eq_true rfl) (Nat.le_refl _) (Nat.le_refl _) (fun r J hq => ?_)
  obtain ⟨rfl, hK⟩ := hq
  refine z_sipush (v := -1001) dL_fails_358 rfl ?_
  refine z_icmp_ne (tgt := 410) dL_fails_361 (by decide) (fun hb => absurd (rfl) hb) (fun _ => ?_)
  refine z_aload_n dL_fails_364 rfl ?_
  refine z_iconst (v := 0) dL_fails_365 rfl ?_
  refine z_aload_n dL_fails_366 rfl ?_
  refine z_iconst (v := 0) dL_fails_367 rfl ?_
  by_cases hv : 0 < anv T.1
  · refine z_cV1p mX9_pages gRL_54 dL_fails_368 (k_pages (v := 0) hK rfl hv) (by decide) (by first | assumption | rfl) (by rfl) (Nat.le_of_ble_eq_true rfl) (Nat.le_refl _) (Nat.le_refl _) (fun r J hq => ?_)
    obtain ⟨rfl, hK⟩ := hq
    refine z_if_ge (tgt := 378) dL_fails_371 (by decide) (fun _ => ?_) (fun hb => absurd (nI_pos' (by have := vN_le T.1 0; omega)) hb)
    refine z_aload_n dL_fails_378 rfl ?_
    refine z_iconst (v := 0) dL_fails_379 rfl ?_
    refine z_cV1p mX9_pages gRL_54 dL_fails_380 (k_pages (v := 0) hK rfl hv) (by decide) (by first | assumption | rfl) (by rfl) (Nat.le_of_ble_eq_true rfl) (Nat.le_refl _) (Nat.le_refl _) (fun r J hq => ?_)
    obtain ⟨rfl, hK⟩ := hq
    refine z_iconst (v := 0) dL_fails_383 rfl ?_
    refine z_cV3p mX9_page gRL_57 dL_fails_384 (k_pageB hK (Or.inr (Or.inl ⟨0, hv, rfl, nb_no (Nat.le_refl _) (by have := vN_le T.1 0; omega)⟩))) (by decide) (by first | assumption | rfl) (by rfl) (Nat.le_of_ble_eq_true rfl) (Nat.le_refl _) (Nat.le_refl _) (fun r J hq => ?_)
    obtain ⟨rfl, hK⟩ := hq
    refine z_sipush (v := -1001) dL_fails_387 rfl ?_
    refine z_icmp_ne (tgt := 410) dL_fails_390 (by decide) (fun hb => absurd (rfl) hb) (fun _ => ?_)
    exact K393 _ hK
  · have hv0 : ¬ isV T.1 0 := fun ⟨q, g, _⟩ => by omega
    refine z_cV1p mX9_pages gRL_54 dL_fails_368 (k_pagesB hK hv0) (by decide) (by first | assumption | rfl) (by rfl) (Nat.le_of_ble_eq_true rfl) (Nat.le_refl _) (Nat.le_refl _) (fun r J hq => ?_)
    obtain ⟨rfl, hK⟩ := hq
    refine z_if_ge (tgt := 378) dL_fails_371 (by decide) (fun hb => absurd hb ((by decide))) (fun _ => ?_)
    refine z_iconst (v := 0) dL_fails_374 rfl ?_
    refine z_goto (tgt := 383) dL_fails_375 (by decide) ?_
    refine z_iconst (v := 0) dL_fails_383 rfl ?_
    refine z_cV3p mX9_page gRL_57 dL_fails_384 (k_pageB hK (Or.inl hv0)) (by decide) (by first | assumption | rfl) (by rfl) (Nat.le_of_ble_eq_true rfl) (Nat.le_refl _) (Nat.le_refl _) (fun r J hq => ?_)
    obtain ⟨rfl, hK⟩ := hq
    refine z_sipush (v := -1001) dL_fails_387 rfl ?_
    refine z_icmp_ne (tgt := 410) dL_fails_390 (by decide) (fun hb => absurd (rfl) hb) (fun _ => ?_)
    exact K393 _ hK

