/-! ===== the law's walk ===== -/
def A0 : AS := (0, fun _ _ => 0, 0, fun _ => 0, 30, 0, fun _ => 0, fun _ _ => none)
theorem A0_av : AV A0 := ⟨⟨Nat.zero_le _, fun q hq => absurd hq (Nat.not_lt_zero q)⟩, Nat.zero_le _, by decide, by decide, Nat.zero_le _, fun t ht => absurd ht (Nat.not_lt_zero t)⟩
theorem b_init {J : ZI} (c1 : J 0 8 = 0) (c2 : J 1 3 = 0) (c3 : J 1 4 = 30) (c4 : J 2 1 = 0) (c5 : J 7 5 = 0) (c6 : J 18 1 = 0) (c7 : J 18 2 = 0) (c8 : ∀ v, v < 6 → J (139 + 20 * v) 6 = 0) : KI (A0, 0, fun _ => A0, 0, fun _ => 0) J := by
  have e30 : (30 : Int32) = nI 30 := by decide
  exact ⟨⟨⟨c4.trans nI_0.symm, fun i hi => absurd hi (Nat.not_lt_zero i)⟩, c2.trans nI_0.symm, fun v hv => absurd hv (Nat.not_lt_zero v), c3.trans e30, c5.trans nI_0.symm, fun t ht => absurd ht (Nat.not_lt_zero t)⟩, A0_av, ⟨0, by decide, c6.trans nI_0.symm, c7.trans nI_0.symm, Nat.zero_le _, fun i hi => absurd hi (Nat.not_lt_zero i)⟩, fun v hv => Or.inl (c8 v hv), c1.trans nI_0.symm, Nat.zero_le _, fun k hk => absurd hk (Nat.not_lt_zero k)⟩
/-- how many questions, versions, sheets; the buffer is empty -/
def GS (T : CT) (n v s : Nat) : Prop := anq T.1 = n ∧ anv T.1 = v ∧ ans T.1 = s ∧ T.2.2.2.1 = 0
theorem aqd_lt {A : AS} {q j : Nat} (hV : AV A) (hq : q < anq A) (hj : j < 4) : aqd A q j < 64 := by
  obtain ⟨a, b, c, d, e, f, g⟩ := aqd5 hV hq
  have hp : 2 ^ aqd A q 4 ≤ 2 ^ 5 := Nat.pow_le_pow_right (by decide) a
  match j, hj with
  | 0, _ => omega
  | 1, _ => omega
  | 2, _ => omega
  | 3, _ => omega
  | n + 4, h => omega
theorem g_add2 {k1 C k2 k4 k5 : Nat} (h1 : k1 < 9) (hC2 : 2 ≤ C) (hC5 : C ≤ 5) (h2 : k2 < C) (h4 : k4 < 2 ^ C) (h5 : k5 < 6) : ∃ f, vQ (nI (1 + k1)) (nI C) (nI k2) (nI k4) (nI k5) f :=
  ⟨fun i => if i = 0 then 1 + k1 else if i = 1 then k2 else if i = 2 then k4 else if i = 3 then k5 else C, ⟨show 1 ≤ 1 + k1 by omega, show 1 + k1 ≤ 9 by omega, hC2, hC5, h2, h4, show k5 ≤ 5 by omega⟩, rfl, rfl, rfl, rfl, rfl⟩
section LW
variable {bs Ls : Nat} {xs : Nat → Int32} {X : ZX}
theorem w_end (hY : YS bs Ls xs X) (hL : Ls ≤ 260) (fin : ∀ (pc : Nat), decode code pc = .ok (.ireturn, 1) → ∀ (L : List Value) (J : ZI), YG bs X RL code 9 11 600000 7302250 259 8016 pc L [.int 1] Sg J) {T : CT} {n v s : Nat} {J : ZI} (hK : KI T J) (hg : GS T n v s) (hs2 : 2 ≤ s) (hs6 : s ≤ 6) (hn1 : 1 ≤ n) (hn14 : n ≤ 14) (hv1 : 1 ≤ v) : YG bs X RL code 9 11 600000 7302250 259 8016 712 [zj, .ref 0, .int (nI n), .int (nI v), zj, zj, zj, .int (nI s), zj] [] Sg J := by
  have htv := at_tv
  obtain ⟨rfl, rfl, rfl, h4⟩ := hg
  refine y_aload_n dL_law_712 rfl ?_
  refine y_iload_n dL_law_713 rfl ?_
  refine y_iload dL_law_714 rfl ?_
  refine y_cS3p mL_sheets gRL_140 dL_law_716 (l_sheetsX hK hs2 hs6 rfl rfl) (by decide) (Nat.le_of_ble_eq_true rfl) (Nat.le_of_ble_eq_true rfl) (Nat.le_of_ble_eq_true rfl) (fun r J hq => ?_)
  obtain ⟨rfl, hK⟩ := hq
  refine y_if_eq (tgt := 802) dL_law_719 (by decide) (fun hb => absurd hb ((by decide))) (fun _ => ?_)
  refine y_aload_n dL_law_722 rfl ?_
  refine y_iload_n dL_law_723 rfl ?_
  refine y_iload_n dL_law_724 rfl ?_
  refine y_iload dL_law_725 rfl ?_
  refine y_cS4p mL_fails gRL_124 dL_law_727 (l_failsX hK (fun _ => hn1) rfl rfl rfl) (by decide) (Nat.le_of_ble_eq_true rfl) (Nat.le_of_ble_eq_true rfl) (Nat.le_of_ble_eq_true rfl) (fun r J hq => ?_)
  obtain ⟨rfl, hK⟩ := hq
  refine y_if_eq (tgt := 802) dL_law_730 (by decide) (fun hb => absurd hb ((by decide))) (fun _ => ?_)
  refine y_aload_n dL_law_733 rfl ?_
  refine y_cV0p mX9_forget gRL_119 dL_law_734 (k_forget hK) (by decide) (by first | assumption | rfl) (by rfl) (Nat.le_of_ble_eq_true rfl) (Nat.le_of_ble_eq_true rfl) (Nat.le_of_ble_eq_true rfl) (fun r J hq => ?_)
  obtain ⟨rfl, hK⟩ := hq
  refine y_iload dL_law_737 rfl ?_
  refine y_icmp_ne (tgt := 802) dL_law_739 (by decide) (fun hb => absurd (rfl) hb) (fun _ => ?_)
  refine y_aload_n dL_law_742 rfl ?_
  refine y_cV0p mX9_undo gRL_110 dL_law_743 (k_undo hK) (by decide) (by first | assumption | rfl) (by rfl) (Nat.le_of_ble_eq_true rfl) (Nat.le_of_ble_eq_true rfl) (Nat.le_of_ble_eq_true rfl) (fun r J hq => ?_)
  obtain ⟨c, Hh, rfl, hc, hK⟩ := hq
  have c5 : c ≤ 5 := hK.hc5
  refine y_if_lt (tgt := 802) dL_law_746 (by decide) (fun hb => absurd hb (nI_pos (by omega))) (fun _ => ?_)
  refine y_aload_n dL_law_749 rfl ?_
  refine y_cV0p mX9_mean gRL_105 dL_law_750 (k_mean hK) (by decide) (by first | assumption | rfl) (by rfl) (Nat.le_of_ble_eq_true rfl) (Nat.le_of_ble_eq_true rfl) (Nat.le_of_ble_eq_true rfl) (fun r J hq => ?_)
  obtain ⟨rfl, hK⟩ := hq
  refine y_iload_n dL_law_753 rfl ?_
  refine y_ineg dL_law_754 ?_
  refine y_i2f dL_law_755 ?_
  refine y_fcmp dL_law_756 ?_
  refine y_if_lt (tgt := 802) dL_law_757 (by decide) (fun hb => absurd hb (mn_ok (A := T.1) (by omega) (by omega) (by omega))) (fun _ => ?_)
  refine y_aload_n dL_law_760 rfl ?_
  refine y_iload_n dL_law_761 rfl ?_
  refine y_iload dL_law_762 rfl ?_
  refine y_cS3p mL_sheets gRL_140 dL_law_764 (l_sheetsX hK hs2 hs6 rfl rfl) (by decide) (Nat.le_of_ble_eq_true rfl) (Nat.le_of_ble_eq_true rfl) (Nat.le_of_ble_eq_true rfl) (fun r J hq => ?_)
  obtain ⟨rfl, hK⟩ := hq
  refine y_if_eq (tgt := 802) dL_law_767 (by decide) (fun hb => absurd hb ((by decide))) (fun _ => ?_)
  refine y_aload_n dL_law_770 rfl ?_
  refine y_bipush (v := 70) dL_law_771 rfl ?_
  refine y_cV1p mX9_type gRL_60 dL_law_773 (k_type hK h4) (by decide) (by first | assumption | rfl) (by rfl) (Nat.le_of_ble_eq_true rfl) (Nat.le_of_ble_eq_true rfl) (Nat.le_of_ble_eq_true rfl) (fun r J hq => ?_)
  obtain ⟨rfl, hK⟩ := hq
  refine y_iconst (v := 1) dL_law_776 rfl ?_
  refine y_icmp_ne (tgt := 802) dL_law_777 (by decide) (fun hb => absurd (rfl) hb) (fun _ => ?_)
  refine y_aload_n dL_law_780 rfl ?_
  refine y_iconst (v := 0) dL_law_781 rfl ?_
  refine y_cV1p mX9_sheet gRL_63 dL_law_782 (k_sheet hK hv1 hn1 (Nat.lt_of_le_of_lt hs6 (by decide))) (by decide) (by first | assumption | rfl) (by rfl) (Nat.le_of_ble_eq_true rfl) (Nat.le_of_ble_eq_true rfl) (Nat.le_of_ble_eq_true rfl) (fun r J hq => ?_)
  obtain ⟨rfl, hK⟩ := hq
  refine y_bipush (v := -100) dL_law_785 rfl ?_
  refine y_icmp_ne (tgt := 802) dL_law_787 (by decide) (fun hb => absurd (rfl) hb) (fun _ => ?_)
  refine y_aload_n dL_law_790 rfl ?_
  refine y_cV0p mX9_clear gRL_143 dL_law_791 (k_clear hK) (by decide) (by first | assumption | rfl) (by rfl) (Nat.le_of_ble_eq_true rfl) (Nat.le_of_ble_eq_true rfl) (Nat.le_of_ble_eq_true rfl) (fun r J hq => ?_)
  obtain ⟨rfl, -⟩ := hq
  refine y_iconst (v := 1) dL_law_794 rfl ?_
  refine y_icmp_ne (tgt := 802) dL_law_795 (by decide) (fun hb => absurd (rfl) hb) (fun _ => ?_)
  refine y_iconst (v := 1) dL_law_798 rfl ?_
  refine y_goto (tgt := 803) dL_law_799 (by decide) ?_
  exact fin 803 dL_law_803 _ _
theorem w_guess (hY : YS bs Ls xs X) (hL : Ls ≤ 260) (fin : ∀ (pc : Nat), decode code pc = .ok (.ireturn, 1) → ∀ (L : List Value) (J : ZI), YG bs X RL code 9 11 600000 7302250 259 8016 pc L [.int 1] Sg J) {n v s : Nat} (hs2 : 2 ≤ s) (hs6 : s ≤ 6) (hn1 : 1 ≤ n) (hn14 : n ≤ 14) (hv1 : 1 ≤ v) (hv6 : v ≤ 6) : ∀ (m k : Nat) (T : CT) (J : ZI), k + m = s → KI T J → GS T n v k → YG bs X RL code 9 11 600000 7302250 259 8016 649 [zj, .ref 0, .int (nI n), .int (nI v), zj, zj, zj, .int (nI s), .int (nI k)] [] Sg J := by
  have htv := at_tv
  intro m
  induction m with
  | zero =>
    intro k T J hk hK hg
    have e : k = s := by omega
    subst e
    refine y_iload dL_law_649 rfl ?_
    refine y_iload dL_law_651 rfl ?_
    refine y_icmp_ge (tgt := 712) dL_law_653 (by decide) (fun _ => ?_) (fun hb => absurd (nI_le (Nat.le_refl _) (by omega)) hb)
    refine y_fg8 ?_
    exact w_end hY hL fin hK hg hs2 hs6 hn1 hn14 hv1
  | succ m ih =>
    intro k T J hk hK hg
    obtain ⟨g1, g2, g3, g4⟩ := hg
    refine y_iload dL_law_649 rfl ?_
    refine y_iload dL_law_651 rfl ?_
    refine y_icmp_ge (tgt := 712) dL_law_653 (by decide) (fun hb => absurd hb (nI_ge (by omega) (by omega))) (fun _ => ?_)
    refine y_aload_n dL_law_656 rfl ?_
    refine y_cellD (k0 := 22) (k1 := k) hY hL (by omega) dL_law_657 dL_law_658 (by decide) dL_law_660 rfl dL_law_662 dL_law_663 gRL_128 (by decide) (Nat.le_of_ble_eq_true rfl) (Nat.le_of_ble_eq_true rfl) (Nat.le_of_ble_eq_true rfl) ?_
    refine y_iload_n dL_law_666 rfl ?_
    refine y_cS2p mL_up gRL_132 dL_law_667 (l_up (m := v) (by omega) (by omega)) (by decide) (Nat.le_of_ble_eq_true rfl) (Nat.le_of_ble_eq_true rfl) (Nat.le_of_ble_eq_true rfl) (fun r J hq => ?_)
    obtain ⟨⟨k1, hk1, rfl⟩, rfl⟩ := hq
    refine y_cellD (k0 := 22) (k1 := k) hY hL (by omega) dL_law_670 dL_law_671 (by decide) dL_law_673 rfl dL_law_675 dL_law_676 gRL_128 (by decide) (Nat.le_of_ble_eq_true rfl) (Nat.le_of_ble_eq_true rfl) (Nat.le_of_ble_eq_true rfl) ?_
    refine y_cellD (k0 := 22) (k1 := k) hY hL (by omega) dL_law_679 dL_law_680 (by decide) dL_law_682 rfl dL_law_684 dL_law_685 gRL_128 (by decide) (Nat.le_of_ble_eq_true rfl) (Nat.le_of_ble_eq_true rfl) (Nat.le_of_ble_eq_true rfl) ?_
    refine y_bipush (v := 7) dL_law_688 rfl ?_
    refine y_ishr dL_law_690 ?_
    refine y_bipush (v := 11) dL_law_691 rfl ?_
    refine y_cS2p mL_up gRL_132 dL_law_693 (l_up (m := 11) (by decide) (by decide)) (by decide) (Nat.le_of_ble_eq_true rfl) (Nat.le_of_ble_eq_true rfl) (Nat.le_of_ble_eq_true rfl) (fun r J hq => ?_)
    obtain ⟨⟨k2, hk2, rfl⟩, rfl⟩ := hq
    refine y_cV3p mX9_guess gRL_66 dL_law_696 (k_guess hK rfl (show k1 < anv T.1 by omega) rfl (show k2 ≤ 10 by omega) (by omega)) (by decide) (by first | assumption | rfl) (by rfl) (Nat.le_of_ble_eq_true rfl) (Nat.le_of_ble_eq_true rfl) (Nat.le_of_ble_eq_true rfl) (fun r J hq => ?_)
    obtain ⟨v', m', rfl, hK⟩ := hq
    refine y_iload dL_law_699 rfl ?_
    refine y_icmp_eq (tgt := 706) dL_law_701 (by decide) (fun _ => ?_) (fun hb => absurd ((by rw [g3])) hb)
    refine y_inc8 (w := 1) dL_law_706 rfl (by decide) rfl ?_
    refine y_goto (tgt := 649) dL_law_709 (by decide) ?_
    rw [nI_1]
    exact ih (k + 1) _ _ (by omega) hK ⟨g1, g2, (show ans T.1 + 1 = k + 1 by omega), g4⟩
theorem w_C (hY : YS bs Ls xs X) (hL : Ls ≤ 260) (fin : ∀ (pc : Nat), decode code pc = .ok (.ireturn, 1) → ∀ (L : List Value) (J : ZI), YG bs X RL code 9 11 600000 7302250 259 8016 pc L [.int 1] Sg J) {n v : Nat} {x2 : Int32} {T : CT} {J : ZI} (hK : KI T J) (hg : GS T n v 0) (hn1 : 1 ≤ n) (hn14 : n ≤ 14) (hv1 : 1 ≤ v) (hv6 : v ≤ 6) : YG bs X RL code 9 11 600000 7302250 259 8016 627 [zj, .ref 0, .int x2, .int (nI v), zj, zj, zj, zj, zj] [] Sg J := by
  have htv := at_tv
  refine y_aload_n dL_law_627 rfl ?_
  refine y_cV0p mX9_questions gRL_113 dL_law_628 (k_questions hK) (by decide) (by first | assumption | rfl) (by rfl) (Nat.le_of_ble_eq_true rfl) (Nat.le_of_ble_eq_true rfl) (Nat.le_of_ble_eq_true rfl) (fun r J hq => ?_)
  obtain ⟨rfl, hK⟩ := hq
  rw [hg.1]
  refine y_ist2 dL_law_631 (by decide) rfl ?_
  refine y_iconst (v := 2) dL_law_632 rfl ?_
  refine y_cellB (k := 21) hY hL (by decide) dL_law_633 dL_law_634 (by decide) dL_law_636 gRL_128 (by decide) (Nat.le_of_ble_eq_true rfl) (Nat.le_of_ble_eq_true rfl) (Nat.le_of_ble_eq_true rfl) ?_
  refine y_iconst (v := 5) dL_law_639 rfl ?_
  refine y_cS2p mL_up gRL_132 dL_law_640 (l_up (m := 5) (by decide) (by decide)) (by decide) (Nat.le_of_ble_eq_true rfl) (Nat.le_of_ble_eq_true rfl) (Nat.le_of_ble_eq_true rfl) (fun r J hq => ?_)
  obtain ⟨⟨k, hk, rfl⟩, rfl⟩ := hq
  refine y_iadd dL_law_643 ?_
  rw [show (2 : Int32) + nI k = nI (2 + k) from nI_add 2 k]
  refine y_ist7 dL_law_644 (by decide) rfl ?_
  refine y_iconst (v := 0) dL_law_646 rfl ?_
  refine y_ist8 dL_law_647 (by decide) rfl ?_
  exact w_guess hY hL fin (by omega) (by omega) hn1 hn14 hv1 hv6 (2 + k) 0 T _ (by omega) hK hg
theorem w_B2 (hY : YS bs Ls xs X) (hL : Ls ≤ 260) (fin : ∀ (pc : Nat), decode code pc = .ok (.ireturn, 1) → ∀ (L : List Value) (J : ZI), YG bs X RL code 9 11 600000 7302250 259 8016 pc L [.int 1] Sg J) {n v : Nat} {T : CT} {J : ZI} (hK : KI T J) (hg : GS T n v 0) (hn1 : 1 ≤ n) (hn14 : n ≤ 14) (hv1 : 1 ≤ v) (hv6 : v ≤ 6) : YG bs X RL code 9 11 600000 7302250 259 8016 540 [zj, .ref 0, .int (nI n), .int (nI v), zj, zj, zj, zj, zj] [] Sg J := by
  have htv := at_tv
  have hV := hK.av
  obtain ⟨g1, g2, g3, g4⟩ := hg
  have en : nI n - 1 = nI (n - 1) := xI_sub (b := 1) (by omega)
  have ev : nI v - 1 = nI (v - 1) := xI_sub (b := 1) (by omega)
  refine y_cellB (k := 20) hY hL (by decide) dL_law_540 dL_law_541 (by decide) dL_law_543 gRL_128 (by decide) (Nat.le_of_ble_eq_true rfl) (Nat.le_of_ble_eq_true rfl) (Nat.le_of_ble_eq_true rfl) ?_
  refine y_iload_n dL_law_546 rfl ?_
  refine y_cS2p mL_up gRL_132 dL_law_547 (l_up (m := n) (by omega) (by omega)) (by decide) (Nat.le_of_ble_eq_true rfl) (Nat.le_of_ble_eq_true rfl) (Nat.le_of_ble_eq_true rfl) (fun r J hq => ?_)
  obtain ⟨⟨q, hq, rfl⟩, rfl⟩ := hq
  refine y_ist6 dL_law_550 (by decide) rfl ?_
  refine y_aload_n dL_law_552 rfl ?_
  refine y_iload dL_law_553 rfl ?_
  refine y_iconst (v := 3) dL_law_555 rfl ?_
  refine y_cellB (k := 20) hY hL (by decide) dL_law_556 dL_law_557 (by decide) dL_law_559 gRL_128 (by decide) (Nat.le_of_ble_eq_true rfl) (Nat.le_of_ble_eq_true rfl) (Nat.le_of_ble_eq_true rfl) ?_
  refine y_iconst (v := 5) dL_law_562 rfl ?_
  refine y_ishr dL_law_563 ?_
  refine y_bipush (v := 6) dL_law_564 rfl ?_
  refine y_cS2p mL_up gRL_132 dL_law_566 (l_up (m := 6) (by decide) (by decide)) (by decide) (Nat.le_of_ble_eq_true rfl) (Nat.le_of_ble_eq_true rfl) (Nat.le_of_ble_eq_true rfl) (fun r J hq => ?_)
  obtain ⟨⟨k, hk, rfl⟩, rfl⟩ := hq
  refine y_cV3p mX9_change gRL_25 dL_law_569 (k_change hK g3 ⟨q, 3, k, show q < anq T.1 by omega, rfl, by decide, rfl, rfl, Or.inr (Or.inr (Or.inr ⟨rfl, by omega⟩))⟩) (by decide) (by first | assumption | rfl) (by rfl) (Nat.le_of_ble_eq_true rfl) (Nat.le_of_ble_eq_true rfl) (Nat.le_of_ble_eq_true rfl) (fun r J hq => ?_)
  obtain ⟨q', j', n', hq', hj', rfl, hK⟩ := hq
  have hlt := aqd_lt hV hq' hj'
  refine y_if_lt (tgt := 625) dL_law_572 (by decide) (fun hb => absurd hb (nI_pos (by omega))) (fun _ => ?_)
  refine y_aload_n dL_law_575 rfl ?_
  refine y_iconst (v := 0) dL_law_576 rfl ?_
  refine y_iload_n dL_law_577 rfl ?_
  refine y_cS3p mL_version gRL_135 dL_law_578 (l_versionX (v := 0) hK rfl (show 0 < anv T.1 by omega) (show nI n = nI (anq T.1) by rw [g1])) (by decide) (Nat.le_of_ble_eq_true rfl) (Nat.le_of_ble_eq_true rfl) (Nat.le_of_ble_eq_true rfl) (fun r J hq => ?_)
  obtain ⟨rfl, hK⟩ := hq
  refine y_if_eq (tgt := 625) dL_law_581 (by decide) (fun hb => absurd hb ((by decide))) (fun _ => ?_)
  refine y_iload_n dL_law_584 rfl ?_
  refine y_iconst (v := 3) dL_law_585 rfl ?_
  by_cases c : n ≤ 3
  · refine y_icmp_le (tgt := 627) dL_law_586 (by decide) (fun _ => ?_) (fun hb => absurd (nI_le (a := n) (b := 3) c (by decide)) hb)
    refine y_fg6 ?_
    exact w_C hY hL fin hK ⟨g1, g2, rfl, g4⟩ hn1 hn14 hv1 hv6
  · refine y_icmp_le (tgt := 627) dL_law_586 (by decide) (fun hb => absurd hb (nI_ge (a := 3) (b := n) (by omega) (by omega))) (fun _ => ?_)
    refine y_aload_n dL_law_589 rfl ?_
    refine y_cellB (k := 20) hY hL (by decide) dL_law_590 dL_law_591 (by decide) dL_law_593 gRL_128 (by decide) (Nat.le_of_ble_eq_true rfl) (Nat.le_of_ble_eq_true rfl) (Nat.le_of_ble_eq_true rfl) ?_
    refine y_bipush (v := 9) dL_law_596 rfl ?_
    refine y_ishr dL_law_598 ?_
    refine y_iload_n dL_law_599 rfl ?_
    refine y_cS2p mL_up gRL_132 dL_law_600 (l_up (m := n) (by omega) (by omega)) (by decide) (Nat.le_of_ble_eq_true rfl) (Nat.le_of_ble_eq_true rfl) (Nat.le_of_ble_eq_true rfl) (fun r J hq => ?_)
    obtain ⟨⟨q2, hq2, rfl⟩, rfl⟩ := hq
    refine y_cV1p mX9_remove gRL_21 dL_law_603 (k_remove (k := q2) hK rfl rfl (show q2 < anq T.1 by omega)) (by decide) (by first | assumption | rfl) (by rfl) (Nat.le_of_ble_eq_true rfl) (Nat.le_of_ble_eq_true rfl) (Nat.le_of_ble_eq_true rfl) (fun r J hq => ?_)
    obtain ⟨q3, rfl, hK⟩ := hq
    refine y_iload_n dL_law_606 rfl ?_
    refine y_iconst (v := 1) dL_law_607 rfl ?_
    refine y_isub dL_law_608 ?_
    rw [en]
    refine y_icmp_ne (tgt := 625) dL_law_609 (by decide) (fun hb => absurd ((show nI (anq T.1 - 1) = nI (n - 1) by rw [g1])) hb) (fun _ => ?_)
    refine y_aload_n dL_law_612 rfl ?_
    refine y_iload_n dL_law_613 rfl ?_
    refine y_iconst (v := 1) dL_law_614 rfl ?_
    refine y_isub dL_law_615 ?_
    refine y_iload_n dL_law_616 rfl ?_
    refine y_iconst (v := 1) dL_law_617 rfl ?_
    refine y_isub dL_law_618 ?_
    refine y_cS3p mL_version gRL_135 dL_law_619 (l_versionX (v := v - 1) hK ev (show v - 1 < anv T.1 by omega) (show nI n - 1 = nI (anq T.1 - 1) by rw [g1, en])) (by decide) (Nat.le_of_ble_eq_true rfl) (Nat.le_of_ble_eq_true rfl) (Nat.le_of_ble_eq_true rfl) (fun r J hq => ?_)
    obtain ⟨rfl, hK⟩ := hq
    refine y_if_ne (tgt := 627) dL_law_622 (by decide) (fun _ => ?_) (fun hb => absurd hb ((by decide)))
    refine y_fg6 ?_
    exact w_C hY hL fin hK ⟨(show anq T.1 - 1 = n - 1 by omega), g2, rfl, g4⟩ (by omega) (by omega) hv1 hv6
theorem w_B1 (hY : YS bs Ls xs X) (hL : Ls ≤ 260) (fin : ∀ (pc : Nat), decode code pc = .ok (.ireturn, 1) → ∀ (L : List Value) (J : ZI), YG bs X RL code 9 11 600000 7302250 259 8016 pc L [.int 1] Sg J) {n v : Nat} {T : CT} {J : ZI} (hK : KI T J) (hg : GS T n v 0) (hn1 : 1 ≤ n) (hn14 : n ≤ 14) (hv1 : 1 ≤ v) (hv6 : v ≤ 6) : YG bs X RL code 9 11 600000 7302250 259 8016 423 [zj, .ref 0, .int (nI n), .int (nI v), zj, zj, zj, zj, zj] [] Sg J := by
  have htv := at_tv
  have g2 := hg.2.1
  have ev : nI v - 1 = nI (v - 1) := xI_sub (b := 1) (by omega)
  have K523 : ∀ (s : Int64) (J : ZI), ¬ cellF xs Ls 19 ≤ 2147483640 → (YG bs X RL code 9 11 600000 7302250 259 8016 523 [zj, .ref 0, .int (nI n), .int (nI v), .long s, zj, zj, zj, zj] [] Sg J) := by
    intro s J hx
    refine y_cellB (k := 19) hY hL (by decide) dL_law_523 dL_law_524 (by decide) dL_law_526 gRL_128 (by decide) (Nat.le_of_ble_eq_true rfl) (Nat.le_of_ble_eq_true rfl) (Nat.le_of_ble_eq_true rfl) ?_
    refine y_ldc kRL_139 dL_law_529 ?_
    refine y_icmp_le (tgt := 538) dL_law_531 (by decide) (fun hb => absurd hb (hx)) (fun _ => ?_)
    refine y_iconst (v := 1) dL_law_534 rfl ?_
    refine y_goto (tgt := 539) dL_law_535 (by decide) ?_
    exact fin 539 dL_law_539 _ _
  refine y_aload_n dL_law_423 rfl ?_
  refine y_cellB (k := 19) hY hL (by decide) dL_law_424 dL_law_425 (by decide) dL_law_427 gRL_128 (by decide) (Nat.le_of_ble_eq_true rfl) (Nat.le_of_ble_eq_true rfl) (Nat.le_of_ble_eq_true rfl) ?_
  refine y_iconst (v := 1) dL_law_430 rfl ?_
  refine y_cellB (k := 15) hY hL (by decide) dL_law_431 dL_law_432 (by decide) dL_law_434 gRL_128 (by decide) (Nat.le_of_ble_eq_true rfl) (Nat.le_of_ble_eq_true rfl) (Nat.le_of_ble_eq_true rfl) ?_
  refine y_bipush (v := 9) dL_law_437 rfl ?_
  refine y_ishr dL_law_439 ?_
  refine y_bipush (v := 6) dL_law_440 rfl ?_
  refine y_cS2p mL_up gRL_132 dL_law_442 (l_up (m := 6) (by decide) (by decide)) (by decide) (Nat.le_of_ble_eq_true rfl) (Nat.le_of_ble_eq_true rfl) (Nat.le_of_ble_eq_true rfl) (fun r J hq => ?_)
  obtain ⟨⟨k, hk, rfl⟩, rfl⟩ := hq
  refine y_iadd dL_law_445 ?_
  rw [show (1 : Int32) + nI k = nI (1 + k) from nI_add 1 k]
  refine y_cV2p mX9_unlike gRL_45 dL_law_446 (k_unlike (n := 1 + k) hK rfl (by omega) (by omega)) (by decide) (by first | assumption | rfl) (by rfl) (Nat.le_of_ble_eq_true rfl) (Nat.le_of_ble_eq_true rfl) (Nat.le_of_ble_eq_true rfl) (fun r J hq => ?_)
  obtain ⟨rfl, hK⟩ := hq
  obtain ⟨j, hj, ej⟩ := ul_in T.1 (cellF xs Ls 19) (n := 1 + k) (by omega)
  rw [ej]
  refine y_lst4 dL_law_449 (by decide) rfl ?_
  refine y_lload dL_law_451 rfl ?_
  refine y_cellB (k := 19) hY hL (by decide) dL_law_453 dL_law_454 (by decide) dL_law_456 gRL_128 (by decide) (Nat.le_of_ble_eq_true rfl) (Nat.le_of_ble_eq_true rfl) (Nat.le_of_ble_eq_true rfl) ?_
  refine y_i2l dL_law_459 ?_
  refine y_lcmp dL_law_460 ?_
  refine y_if_lt (tgt := 523) dL_law_461 (by decide) (fun hb => ?_) (fun hb => ?_)
  · exact K523 _ _ (ul_lt (by omega) hb)
  refine y_lload dL_law_464 rfl ?_
  refine y_cellB (k := 19) hY hL (by decide) dL_law_466 dL_law_467 (by decide) dL_law_469 gRL_128 (by decide) (Nat.le_of_ble_eq_true rfl) (Nat.le_of_ble_eq_true rfl) (Nat.le_of_ble_eq_true rfl) ?_
  refine y_i2l dL_law_472 ?_
  refine y_ldc2 kRL_137 dL_law_473 ?_
  refine y_ladd dL_law_476 ?_
  refine y_lcmp dL_law_477 ?_
  refine y_if_gt (tgt := 523) dL_law_478 (by decide) (fun hb2 => ?_) (fun hb2 => ?_)
  · exact K523 _ _ (ul_gt (by omega) hb2)
  refine y_aload_n dL_law_481 rfl ?_
  refine y_iconst (v := 0) dL_law_482 rfl ?_
  refine y_iload_n dL_law_483 rfl ?_
  refine y_iconst (v := 1) dL_law_484 rfl ?_
  refine y_isub dL_law_485 ?_
  refine y_iconst (v := 1) dL_law_486 rfl ?_
  refine y_cV3p mX9_alike gRL_42 dL_law_487 (k_alike (v := 0) (v2 := v - 1) hK rfl (by omega) ev (by omega) (Or.inr (Or.inl rfl))) (by decide) (by first | assumption | rfl) (by rfl) (Nat.le_of_ble_eq_true rfl) (Nat.le_of_ble_eq_true rfl) (Nat.le_of_ble_eq_true rfl) (fun r J hq => ?_)
  obtain ⟨rfl, hK⟩ := hq
  refine y_aload_n dL_law_490 rfl ?_
  refine y_iload_n dL_law_491 rfl ?_
  refine y_iconst (v := 1) dL_law_492 rfl ?_
  refine y_isub dL_law_493 ?_
  refine y_iconst (v := 0) dL_law_494 rfl ?_
  refine y_iconst (v := 1) dL_law_495 rfl ?_
  refine y_cV3p mX9_alike gRL_42 dL_law_496 (k_alike (v := v - 1) (v2 := 0) hK ev (by omega) rfl (by omega) (Or.inr (Or.inl rfl))) (by decide) (by first | assumption | rfl) (by rfl) (Nat.le_of_ble_eq_true rfl) (Nat.le_of_ble_eq_true rfl) (Nat.le_of_ble_eq_true rfl) (fun r J hq => ?_)
  obtain ⟨rfl, hK⟩ := hq
  refine y_icmp_ne (tgt := 523) dL_law_499 (by decide) (fun hb => absurd ((by rw [al_symm])) hb) (fun _ => ?_)
  refine y_aload_n dL_law_502 rfl ?_
  refine y_iconst (v := 0) dL_law_503 rfl ?_
  refine y_iload_n dL_law_504 rfl ?_
  refine y_iconst (v := 1) dL_law_505 rfl ?_
  refine y_isub dL_law_506 ?_
  refine y_iconst (v := 2) dL_law_507 rfl ?_
  refine y_cV3p mX9_alike gRL_42 dL_law_508 (k_alike (v := 0) (v2 := v - 1) hK rfl (by omega) ev (by omega) (Or.inr (Or.inr rfl))) (by decide) (by first | assumption | rfl) (by rfl) (Nat.le_of_ble_eq_true rfl) (Nat.le_of_ble_eq_true rfl) (Nat.le_of_ble_eq_true rfl) (fun r J hq => ?_)
  obtain ⟨rfl, hK⟩ := hq
  refine y_aload_n dL_law_511 rfl ?_
  refine y_iload_n dL_law_512 rfl ?_
  refine y_iconst (v := 1) dL_law_513 rfl ?_
  refine y_isub dL_law_514 ?_
  refine y_iconst (v := 0) dL_law_515 rfl ?_
  refine y_iconst (v := 2) dL_law_516 rfl ?_
  refine y_cV3p mX9_alike gRL_42 dL_law_517 (k_alike (v := v - 1) (v2 := 0) hK ev (by omega) rfl (by omega) (Or.inr (Or.inr rfl))) (by decide) (by first | assumption | rfl) (by rfl) (Nat.le_of_ble_eq_true rfl) (Nat.le_of_ble_eq_true rfl) (Nat.le_of_ble_eq_true rfl) (fun r J hq => ?_)
  obtain ⟨rfl, hK⟩ := hq
  refine y_icmp_eq (tgt := 540) dL_law_520 (by decide) (fun _ => ?_) (fun hb => absurd ((by rw [al_symm])) hb)
  refine y_fg4 ?_
  exact w_B2 hY hL fin hK hg hn1 hn14 hv1 hv6
theorem w_vers (hY : YS bs Ls xs X) (hL : Ls ≤ 260) (fin : ∀ (pc : Nat), decode code pc = .ok (.ireturn, 1) → ∀ (L : List Value) (J : ZI), YG bs X RL code 9 11 600000 7302250 259 8016 pc L [.int 1] Sg J) {n v : Nat} (hn1 : 1 ≤ n) (hn14 : n ≤ 14) (hv1 : 1 ≤ v) (hv6 : v ≤ 6) : ∀ (m k : Nat) (T : CT) (J : ZI), k + m = v → KI T J → GS T n k 0 → YG bs X RL code 9 11 600000 7302250 259 8016 381 [zj, .ref 0, .int (nI n), .int (nI v), .int (nI k), zj, zj, zj, zj] [] Sg J := by
  have htv := at_tv
  intro m
  induction m with
  | zero =>
    intro k T J hk hK hg
    have e : k = v := by omega
    subst e
    refine y_iload dL_law_381 rfl ?_
    refine y_iload_n dL_law_383 rfl ?_
    refine y_icmp_ge (tgt := 423) dL_law_384 (by decide) (fun _ => ?_) (fun hb => absurd (nI_le (Nat.le_refl _) (by omega)) hb)
    refine y_fg4 ?_
    exact w_B1 hY hL fin hK hg hn1 hn14 hv1 hv6
  | succ m ih =>
    intro k T J hk hK hg
    obtain ⟨g1, g2, g3, g4⟩ := hg
    refine y_iload dL_law_381 rfl ?_
    refine y_iload_n dL_law_383 rfl ?_
    refine y_icmp_ge (tgt := 423) dL_law_384 (by decide) (fun hb => absurd hb (nI_ge (by omega) (by omega))) (fun _ => ?_)
    refine y_aload_n dL_law_387 rfl ?_
    refine y_cellD (k0 := 16) (k1 := k) hY hL (by omega) dL_law_388 dL_law_389 (by decide) dL_law_391 rfl dL_law_393 dL_law_394 gRL_128 (by decide) (Nat.le_of_ble_eq_true rfl) (Nat.le_of_ble_eq_true rfl) (Nat.le_of_ble_eq_true rfl) ?_
    refine y_cV1p mX9_version gRL_89 dL_law_397 (k_version hK g3 (by omega)) (by decide) (by first | assumption | rfl) (by rfl) (Nat.le_of_ble_eq_true rfl) (Nat.le_of_ble_eq_true rfl) (Nat.le_of_ble_eq_true rfl) (fun r J hq => ?_)
    obtain ⟨rfl, hK⟩ := hq
    refine y_iload dL_law_400 rfl ?_
    refine y_icmp_ne (tgt := 415) dL_law_402 (by decide) (fun hb => absurd ((by rw [g2])) hb) (fun _ => ?_)
    refine y_aload_n dL_law_405 rfl ?_
    refine y_iload dL_law_406 rfl ?_
    refine y_iload_n dL_law_408 rfl ?_
    refine y_cS3p mL_version gRL_135 dL_law_409 (l_versionX (v := k) hK rfl (show k < anv T.1 + 1 by omega) (show nI n = nI (anq T.1) by rw [g1])) (by decide) (Nat.le_of_ble_eq_true rfl) (Nat.le_of_ble_eq_true rfl) (Nat.le_of_ble_eq_true rfl) (fun r J hq => ?_)
    obtain ⟨rfl, hK⟩ := hq
    refine y_if_ne (tgt := 417) dL_law_412 (by decide) (fun _ => ?_) (fun hb => absurd hb ((by decide)))
    refine y_inc4 (w := 1) dL_law_417 rfl (by decide) rfl ?_
    refine y_goto (tgt := 381) dL_law_420 (by decide) ?_
    rw [nI_1]
    exact ih (k + 1) _ _ (by omega) hK ⟨g1, (show anv T.1 + 1 = k + 1 by omega), rfl, g4⟩
theorem w_A2 (hY : YS bs Ls xs X) (hL : Ls ≤ 260) (fin : ∀ (pc : Nat), decode code pc = .ok (.ireturn, 1) → ∀ (L : List Value) (J : ZI), YG bs X RL code 9 11 600000 7302250 259 8016 pc L [.int 1] Sg J) {n : Nat} {x3 : Int32} {T : CT} {J : ZI} (hK : KI T J) (hg : GS T n 0 0) (h30 : aln T.1 = 30) (hn1 : 1 ≤ n) (hn14 : n ≤ 14) : YG bs X RL code 9 11 600000 7302250 259 8016 338 [zj, .ref 0, .int (nI n), .int x3, zj, zj, zj, zj, zj] [] Sg J := by
  have htv := at_tv
  refine y_iconst (v := 1) dL_law_338 rfl ?_
  refine y_cellB (k := 15) hY hL (by decide) dL_law_339 dL_law_340 (by decide) dL_law_342 gRL_128 (by decide) (Nat.le_of_ble_eq_true rfl) (Nat.le_of_ble_eq_true rfl) (Nat.le_of_ble_eq_true rfl) ?_
  refine y_iconst (v := 3) dL_law_345 rfl ?_
  refine y_cS2p mL_up gRL_132 dL_law_346 (l_up (m := 3) (by decide) (by decide)) (by decide) (Nat.le_of_ble_eq_true rfl) (Nat.le_of_ble_eq_true rfl) (Nat.le_of_ble_eq_true rfl) (fun r J hq => ?_)
  obtain ⟨⟨k, hk, rfl⟩, rfl⟩ := hq
  refine y_iadd dL_law_349 ?_
  rw [show (1 : Int32) + nI k = nI (1 + k) from nI_add 1 k]
  refine y_ist3 dL_law_350 (by decide) rfl ?_
  refine y_aload_n dL_law_351 rfl ?_
  refine y_bipush (v := 9) dL_law_352 rfl ?_
  refine y_cellB (k := 15) hY hL (by decide) dL_law_354 dL_law_355 (by decide) dL_law_357 gRL_128 (by decide) (Nat.le_of_ble_eq_true rfl) (Nat.le_of_ble_eq_true rfl) (Nat.le_of_ble_eq_true rfl) ?_
  refine y_iconst (v := 3) dL_law_360 rfl ?_
  refine y_ishr dL_law_361 ?_
  refine y_bipush (v := 40) dL_law_362 rfl ?_
  refine y_cS2p mL_up gRL_132 dL_law_364 (l_up (m := 40) (by decide) (by decide)) (by decide) (Nat.le_of_ble_eq_true rfl) (Nat.le_of_ble_eq_true rfl) (Nat.le_of_ble_eq_true rfl) (fun r J hq => ?_)
  obtain ⟨⟨k2, hk2, rfl⟩, rfl⟩ := hq
  refine y_iadd dL_law_367 ?_
  rw [show (9 : Int32) + nI k2 = nI (9 + k2) from nI_add 9 k2]
  refine y_cV1p mX9_setLines gRL_51 dL_law_368 (k_setLines (n := 9 + k2) hK rfl (by omega) (by omega)) (by decide) (by first | assumption | rfl) (by rfl) (Nat.le_of_ble_eq_true rfl) (Nat.le_of_ble_eq_true rfl) (Nat.le_of_ble_eq_true rfl) (fun r J hq => ?_)
  obtain ⟨rfl, hK⟩ := hq
  rw [h30]
  refine y_bipush (v := 30) dL_law_371 rfl ?_
  refine y_icmp_eq (tgt := 378) dL_law_373 (by decide) (fun _ => ?_) (fun hb => absurd (rfl) hb)
  refine y_iconst (v := 0) dL_law_378 rfl ?_
  refine y_ist4 dL_law_379 (by decide) rfl ?_
  exact w_vers hY hL fin hn1 hn14 (by omega) (by omega) (1 + k) 0 _ _ (by omega) hK hg
theorem w_args147 {J : ZI} {x2 x3 cv : Int32} {fp : Int64} {C : Nat} (hC2 : 2 ≤ C) (hC5 : C ≤ 5) (kk : ∀ k1 k2 k4 k5 : Nat, k1 < 9 → k2 < C → k4 < 2 ^ C → k5 < 6 → YG bs X RL code 9 11 600000 7302250 259 8016 223 [zj, .ref 0, .int x2, .int x3, .int cv, .int (nI C), .long fp, zj, zj] [.int (nI k5), .int (nI k4), .int (nI k2), .int (nI C), .int (nI (1 + k1)), .ref 0] Sg J) : YG bs X RL code 9 11 600000 7302250 259 8016 147 [zj, .ref 0, .int x2, .int x3, .int cv, .int (nI C), .long fp, zj, zj] [] Sg J := by
  have htv := at_tv
  have hp5 : 2 ^ C ≤ 2 ^ 5 := Nat.pow_le_pow_right (by decide) hC5
  have hp0 : 0 < 2 ^ C := Nat.two_pow_pos C
  refine y_aload_n dL_law_147 rfl ?_
  refine y_iconst (v := 1) dL_law_148 rfl ?_
  refine y_iload dL_law_149 rfl ?_
  refine y_iconst (v := 2) dL_law_151 rfl ?_
  refine y_ishr dL_law_152 ?_
  refine y_bipush (v := 9) dL_law_153 rfl ?_
  refine y_cS2p mL_up gRL_132 dL_law_155 (l_up (m := 9) (by decide) (by decide)) (by decide) (Nat.le_of_ble_eq_true rfl) (Nat.le_of_ble_eq_true rfl) (Nat.le_of_ble_eq_true rfl) (fun r J hq => ?_)
  obtain ⟨⟨k1, hk1, rfl⟩, rfl⟩ := hq
  refine y_iadd dL_law_158 ?_
  rw [show (1 : Int32) + nI k1 = nI (1 + k1) from nI_add 1 k1]
  refine y_iload dL_law_159 rfl ?_
  refine y_iload dL_law_161 rfl ?_
  refine y_bipush (v := 6) dL_law_163 rfl ?_
  refine y_ishr dL_law_165 ?_
  refine y_iload dL_law_166 rfl ?_
  refine y_cS2p mL_up gRL_132 dL_law_168 (l_up (m := C) (by omega) (by omega)) (by decide) (Nat.le_of_ble_eq_true rfl) (Nat.le_of_ble_eq_true rfl) (Nat.le_of_ble_eq_true rfl) (fun r J hq => ?_)
  obtain ⟨⟨k2, hk2, rfl⟩, rfl⟩ := hq
  refine y_iload dL_law_171 rfl ?_
  refine y_bipush (v := 9) dL_law_173 rfl ?_
  refine y_ishr dL_law_175 ?_
  refine y_iconst (v := 4) dL_law_176 rfl ?_
  refine y_cS2p mL_up gRL_132 dL_law_177 (l_up (m := 4) (by decide) (by decide)) (by decide) (Nat.le_of_ble_eq_true rfl) (Nat.le_of_ble_eq_true rfl) (Nat.le_of_ble_eq_true rfl) (fun r J hq => ?_)
  obtain ⟨⟨k3, hk3, rfl⟩, rfl⟩ := hq
  have K199 : ∀ (k4 : Nat), k4 < 2 ^ C → (YG bs X RL code 9 11 600000 7302250 259 8016 199 [zj, .ref 0, .int x2, .int x3, .int cv, .int (nI C), .long fp, zj, zj] [.int (nI k4), .int (nI k2), .int (nI C), .int (nI (1 + k1)), .ref 0] Sg J) := by
    intro k4 hk4
    refine y_iload dL_law_199 rfl ?_
    refine y_bipush (v := 16) dL_law_201 rfl ?_
    refine y_ishr dL_law_203 ?_
    refine y_iconst (v := 1) dL_law_204 rfl ?_
    refine y_iand dL_law_205 ?_
    refine y_if_ne (tgt := 213) dL_law_206 (by decide) (fun hb => ?_) (fun hb => ?_)
    · refine y_iload dL_law_213 rfl ?_
      refine y_bipush (v := 17) dL_law_215 rfl ?_
      refine y_ishr dL_law_217 ?_
      refine y_bipush (v := 6) dL_law_218 rfl ?_
      refine y_cS2p mL_up gRL_132 dL_law_220 (l_up (m := 6) (by decide) (by decide)) (by decide) (Nat.le_of_ble_eq_true rfl) (Nat.le_of_ble_eq_true rfl) (Nat.le_of_ble_eq_true rfl) (fun r J hq => ?_)
      obtain ⟨⟨k5, hk5, rfl⟩, rfl⟩ := hq
      exact kk k1 k2 k4 k5 hk1 hk2 hk4 hk5
    · refine y_iconst (v := 0) dL_law_209 rfl ?_
      refine y_goto (tgt := 223) dL_law_210 (by decide) ?_
      exact kk k1 k2 k4 0 hk1 hk2 hk4 (by decide)
  refine y_if_ne (tgt := 198) dL_law_180 (by decide) (fun hb => ?_) (fun hb => ?_)
  · refine y_iconst (v := 0) dL_law_198 rfl ?_
    exact K199 0 hp0
  · refine y_iload dL_law_183 rfl ?_
    refine y_bipush (v := 11) dL_law_185 rfl ?_
    refine y_ishr dL_law_187 ?_
    refine y_iconst (v := 1) dL_law_188 rfl ?_
    refine y_iload dL_law_189 rfl ?_
    refine y_ishl dL_law_191 ?_
    rw [alw_sh C (by omega)]
    refine y_cS2p mL_up gRL_132 dL_law_192 (l_up (m := 2 ^ C) hp0 (by omega)) (by decide) (Nat.le_of_ble_eq_true rfl) (Nat.le_of_ble_eq_true rfl) (Nat.le_of_ble_eq_true rfl) (fun r J hq => ?_)
    obtain ⟨⟨k4, hk4, rfl⟩, rfl⟩ := hq
    refine y_goto (tgt := 199) dL_law_195 (by decide) ?_
    exact K199 k4 hk4
theorem w_args247 {J : ZI} {x2 x3 cv : Int32} {fp : Int64} {C : Nat} (hC2 : 2 ≤ C) (hC5 : C ≤ 5) (kk : ∀ k1 k2 k4 k5 : Nat, k1 < 9 → k2 < C → k4 < 2 ^ C → k5 < 6 → YG bs X RL code 9 11 600000 7302250 259 8016 323 [zj, .ref 0, .int x2, .int x3, .int cv, .int (nI C), .long fp, zj, zj] [.int (nI k5), .int (nI k4), .int (nI k2), .int (nI C), .int (nI (1 + k1)), .ref 0] Sg J) : YG bs X RL code 9 11 600000 7302250 259 8016 247 [zj, .ref 0, .int x2, .int x3, .int cv, .int (nI C), .long fp, zj, zj] [] Sg J := by
  have htv := at_tv
  have hp5 : 2 ^ C ≤ 2 ^ 5 := Nat.pow_le_pow_right (by decide) hC5
  have hp0 : 0 < 2 ^ C := Nat.two_pow_pos C
  refine y_aload_n dL_law_247 rfl ?_
  refine y_iconst (v := 1) dL_law_248 rfl ?_
  refine y_iload dL_law_249 rfl ?_
  refine y_iconst (v := 2) dL_law_251 rfl ?_
  refine y_ishr dL_law_252 ?_
  refine y_bipush (v := 9) dL_law_253 rfl ?_
  refine y_cS2p mL_up gRL_132 dL_law_255 (l_up (m := 9) (by decide) (by decide)) (by decide) (Nat.le_of_ble_eq_true rfl) (Nat.le_of_ble_eq_true rfl) (Nat.le_of_ble_eq_true rfl) (fun r J hq => ?_)
  obtain ⟨⟨k1, hk1, rfl⟩, rfl⟩ := hq
  refine y_iadd dL_law_258 ?_
  rw [show (1 : Int32) + nI k1 = nI (1 + k1) from nI_add 1 k1]
  refine y_iload dL_law_259 rfl ?_
  refine y_iload dL_law_261 rfl ?_
  refine y_bipush (v := 6) dL_law_263 rfl ?_
  refine y_ishr dL_law_265 ?_
  refine y_iload dL_law_266 rfl ?_
  refine y_cS2p mL_up gRL_132 dL_law_268 (l_up (m := C) (by omega) (by omega)) (by decide) (Nat.le_of_ble_eq_true rfl) (Nat.le_of_ble_eq_true rfl) (Nat.le_of_ble_eq_true rfl) (fun r J hq => ?_)
  obtain ⟨⟨k2, hk2, rfl⟩, rfl⟩ := hq
  refine y_iload dL_law_271 rfl ?_
  refine y_bipush (v := 9) dL_law_273 rfl ?_
  refine y_ishr dL_law_275 ?_
  refine y_iconst (v := 4) dL_law_276 rfl ?_
  refine y_cS2p mL_up gRL_132 dL_law_277 (l_up (m := 4) (by decide) (by decide)) (by decide) (Nat.le_of_ble_eq_true rfl) (Nat.le_of_ble_eq_true rfl) (Nat.le_of_ble_eq_true rfl) (fun r J hq => ?_)
  obtain ⟨⟨k3, hk3, rfl⟩, rfl⟩ := hq
  have K199 : ∀ (k4 : Nat), k4 < 2 ^ C → (YG bs X RL code 9 11 600000 7302250 259 8016 299 [zj, .ref 0, .int x2, .int x3, .int cv, .int (nI C), .long fp, zj, zj] [.int (nI k4), .int (nI k2), .int (nI C), .int (nI (1 + k1)), .ref 0] Sg J) := by
    intro k4 hk4
    refine y_iload dL_law_299 rfl ?_
    refine y_bipush (v := 16) dL_law_301 rfl ?_
    refine y_ishr dL_law_303 ?_
    refine y_iconst (v := 1) dL_law_304 rfl ?_
    refine y_iand dL_law_305 ?_
    refine y_if_ne (tgt := 313) dL_law_306 (by decide) (fun hb => ?_) (fun hb => ?_)
    · refine y_iload dL_law_313 rfl ?_
      refine y_bipush (v := 17) dL_law_315 rfl ?_
      refine y_ishr dL_law_317 ?_
      refine y_bipush (v := 6) dL_law_318 rfl ?_
      refine y_cS2p mL_up gRL_132 dL_law_320 (l_up (m := 6) (by decide) (by decide)) (by decide) (Nat.le_of_ble_eq_true rfl) (Nat.le_of_ble_eq_true rfl) (Nat.le_of_ble_eq_true rfl) (fun r J hq => ?_)
      obtain ⟨⟨k5, hk5, rfl⟩, rfl⟩ := hq
      exact kk k1 k2 k4 k5 hk1 hk2 hk4 hk5
    · refine y_iconst (v := 0) dL_law_309 rfl ?_
      refine y_goto (tgt := 323) dL_law_310 (by decide) ?_
      exact kk k1 k2 k4 0 hk1 hk2 hk4 (by decide)
  refine y_if_ne (tgt := 298) dL_law_280 (by decide) (fun hb => ?_) (fun hb => ?_)
  · refine y_iconst (v := 0) dL_law_298 rfl ?_
    exact K199 0 hp0
  · refine y_iload dL_law_283 rfl ?_
    refine y_bipush (v := 11) dL_law_285 rfl ?_
    refine y_ishr dL_law_287 ?_
    refine y_iconst (v := 1) dL_law_288 rfl ?_
    refine y_iload dL_law_289 rfl ?_
    refine y_ishl dL_law_291 ?_
    rw [alw_sh C (by omega)]
    refine y_cS2p mL_up gRL_132 dL_law_292 (l_up (m := 2 ^ C) hp0 (by omega)) (by decide) (Nat.le_of_ble_eq_true rfl) (Nat.le_of_ble_eq_true rfl) (Nat.le_of_ble_eq_true rfl) (fun r J hq => ?_)
    obtain ⟨⟨k4, hk4, rfl⟩, rfl⟩ := hq
    refine y_goto (tgt := 299) dL_law_295 (by decide) ?_
    exact K199 k4 hk4
theorem w_adds (hY : YS bs Ls xs X) (hL : Ls ≤ 260) (fin : ∀ (pc : Nat), decode code pc = .ok (.ireturn, 1) → ∀ (L : List Value) (J : ZI), YG bs X RL code 9 11 600000 7302250 259 8016 pc L [.int 1] Sg J) {n : Nat} (hn1 : 1 ≤ n) (hn14 : n ≤ 14) : ∀ (m q : Nat) (T : CT) (J : ZI), q + m = n → KI T J → GS T q 0 0 → aln T.1 = 30 → YG bs X RL code 9 11 600000 7302250 259 8016 117 [zj, .ref 0, .int (nI n), .int (nI q), zj, zj, zj, zj, zj] [] Sg J := by
  have htv := at_tv
  intro m
  induction m with
  | zero =>
    intro q T J hq hK hg h30
    have e : q = n := by omega
    subst e
    refine y_iload_n dL_law_117 rfl ?_
    refine y_iload_n dL_law_118 rfl ?_
    refine y_icmp_ge (tgt := 338) dL_law_119 (by decide) (fun _ => ?_) (fun hb => absurd (nI_le (Nat.le_refl _) (by omega)) hb)
    exact w_A2 hY hL fin hK hg h30 hn1 hn14
  | succ m ih =>
    intro q T J hq hK hg h30
    obtain ⟨g1, g2, g3, g4⟩ := hg
    refine y_iload_n dL_law_117 rfl ?_
    refine y_iload_n dL_law_118 rfl ?_
    refine y_icmp_ge (tgt := 338) dL_law_119 (by decide) (fun hb => absurd hb (nI_ge (by omega) (by omega))) (fun _ => ?_)
    refine y_cellC (k0 := 1) (k1 := q) hY hL (by omega) dL_law_122 dL_law_123 (by decide) dL_law_124 rfl dL_law_125 dL_law_126 gRL_128 (by decide) (Nat.le_of_ble_eq_true rfl) (Nat.le_of_ble_eq_true rfl) (Nat.le_of_ble_eq_true rfl) ?_
    refine y_ist4 dL_law_129 (by decide) rfl ?_
    refine y_iconst (v := 2) dL_law_131 rfl ?_
    refine y_iload dL_law_132 rfl ?_
    refine y_iconst (v := 4) dL_law_134 rfl ?_
    refine y_cS2p mL_up gRL_132 dL_law_135 (l_up (m := 4) (by decide) (by decide)) (by decide) (Nat.le_of_ble_eq_true rfl) (Nat.le_of_ble_eq_true rfl) (Nat.le_of_ble_eq_true rfl) (fun r J hq => ?_)
    obtain ⟨⟨kc, hkc, rfl⟩, rfl⟩ := hq
    refine y_iadd dL_law_138 ?_
    rw [show (2 : Int32) + nI kc = nI (2 + kc) from nI_add 2 kc]
    refine y_ist5 dL_law_139 (by decide) rfl ?_
    refine y_aload_n dL_law_141 rfl ?_
    refine y_cV0p mX9_fingerprint gRL_9 dL_law_142 (k_fingerprint hK) (by decide) (by first | assumption | rfl) (by rfl) (Nat.le_of_ble_eq_true rfl) (Nat.le_of_ble_eq_true rfl) (Nat.le_of_ble_eq_true rfl) (fun r J hq => ?_)
    obtain ⟨rfl, hK⟩ := hq
    refine y_lst6 dL_law_145 (by decide) rfl ?_
    refine w_args147 (C := 2 + kc) (by omega) (by omega) (fun k1 k2 k4 k5 h1 h2 h4 h5 => ?_)
    refine y_cV5p mX9_add gRL_15 dL_law_223 (k_add hK (g_add2 h1 (by omega) (by omega) h2 h4 h5) g3 (by omega)) (by decide) (by first | assumption | rfl) (by rfl) (Nat.le_of_ble_eq_true rfl) (Nat.le_of_ble_eq_true rfl) (Nat.le_of_ble_eq_true rfl) (fun r J hq => ?_)
    obtain ⟨f, rfl, hK⟩ := hq
    refine y_iload_n dL_law_226 rfl ?_
    refine y_icmp_ne (tgt := 330) dL_law_227 (by decide) (fun hb => absurd ((by rw [g1])) hb) (fun _ => ?_)
    refine y_aload_n dL_law_230 rfl ?_
    refine y_cV0p mX9_undo gRL_110 dL_law_231 (k_undo hK) (by decide) (by first | assumption | rfl) (by rfl) (Nat.le_of_ble_eq_true rfl) (Nat.le_of_ble_eq_true rfl) (Nat.le_of_ble_eq_true rfl) (fun r J hq => ?_)
    obtain ⟨c, Hh, rfl, hc, hK⟩ := hq
    have c5 : c ≤ 5 := hK.hc5
    refine y_if_lt (tgt := 330) dL_law_234 (by decide) (fun hb => absurd hb (nI_pos (by omega))) (fun _ => ?_)
    refine y_aload_n dL_law_237 rfl ?_
    refine y_cV0p mX9_fingerprint gRL_9 dL_law_238 (k_fingerprint hK) (by decide) (by first | assumption | rfl) (by rfl) (Nat.le_of_ble_eq_true rfl) (Nat.le_of_ble_eq_true rfl) (Nat.le_of_ble_eq_true rfl) (fun r J hq => ?_)
    obtain ⟨rfl, hK⟩ := hq
    refine y_lload dL_law_241 rfl ?_
    refine y_lcmp dL_law_243 ?_
    refine y_if_ne (tgt := 330) dL_law_244 (by decide) (fun hb => absurd (lc_same _) hb) (fun _ => ?_)
    refine w_args247 (C := 2 + kc) (by omega) (by omega) (fun k1 k2 k4 k5 h1 h2 h4 h5 => ?_)
    refine y_cV5p mX9_add gRL_15 dL_law_323 (k_add hK (g_add2 h1 (by omega) (by omega) h2 h4 h5) g3 (show anq T.1 < 20 by omega)) (by decide) (by first | assumption | rfl) (by rfl) (Nat.le_of_ble_eq_true rfl) (Nat.le_of_ble_eq_true rfl) (Nat.le_of_ble_eq_true rfl) (fun r J hq => ?_)
    obtain ⟨f2, rfl, hK⟩ := hq
    refine y_iload_n dL_law_326 rfl ?_
    refine y_icmp_eq (tgt := 332) dL_law_327 (by decide) (fun _ => ?_) (fun hb => absurd ((show nI (anq T.1) = nI q by rw [g1])) hb)
    refine y_inc3 (w := 1) dL_law_332 rfl (by decide) rfl ?_
    refine y_goto (tgt := 117) dL_law_335 (by decide) ?_
    rw [nI_1]
    refine y_fg4 ?_
    refine y_fg5 ?_
    refine y_fg6 ?_
    exact ih (q + 1) _ _ (by omega) hK ⟨(show anq T.1 + 1 = q + 1 by omega), g2, rfl, g4⟩ h30
theorem w_start (hY : YS bs Ls xs X) (hL : Ls ≤ 260) (fin : ∀ (pc : Nat), decode code pc = .ok (.ireturn, 1) → ∀ (L : List Value) (J : ZI), YG bs X RL code 9 11 600000 7302250 259 8016 pc L [.int 1] Sg J) : YG bs X RL code 9 11 600000 7302250 0 0 0 [zj, zj, zj, zj, zj, zj, zj, zj, zj] [] [] (fun _ _ => 0) := by
  have htv := at_tv
  refine y_nob (ci := 9) (N := 9) (a := 0) rfl nRL_10 ⟨_, rfl⟩ dL_law_0 (Nat.le_of_ble_eq_true rfl) (Nat.le_of_ble_eq_true rfl) ?_
  refine y_dup dL_law_3 rfl ?_
  refine y_init0 (a := 0) mX9_init gRL_109 dL_law_4 n_X9 rfl (by decide +kernel) (by decide) (Nat.le_of_ble_eq_true rfl) (Nat.le_of_ble_eq_true rfl) (Nat.le_of_ble_eq_true rfl) (fun J1 f1 p1 => ?_)
  refine y_sg (σ' := Sg) (by decide +kernel) ?_
  refine y_k (kc' := 259) (ks' := 8016) rfl rfl ?_
  obtain ⟨q1, ⟨q2, q3, q4, q5⟩, ⟨q6, q7⟩, q8⟩ := p1
  have q8 : ∀ v, v < 6 → J1 (139 + 20 * v) 6 = 0 := fun v hv => by
    have := q8 v hv
    rw [show 0 + 139 + 20 * v = 139 + 20 * v by omega] at this
    exact this
  have hK := b_init q1 q2 q3 q4 q5 q6 q7 q8
  refine y_ast1 dL_law_7 (by decide) rfl ?_
  refine y_aload_n dL_law_8 rfl ?_
  refine y_cV0p mX9_undo gRL_110 dL_law_9 (k_undoN hK rfl) (by decide) (by first | assumption | rfl) (by rfl) (Nat.le_of_ble_eq_true rfl) (Nat.le_of_ble_eq_true rfl) (Nat.le_of_ble_eq_true rfl) (fun r J hq => ?_)
  obtain ⟨rfl, hK⟩ := hq
  refine y_sipush (v := -1009) dL_law_12 rfl ?_
  refine y_icmp_ne (tgt := 100) dL_law_15 (by decide) (fun hb => absurd (rfl) hb) (fun _ => ?_)
  refine y_aload_n dL_law_18 rfl ?_
  refine y_cV0p mX9_questions gRL_113 dL_law_19 (k_questions hK) (by decide) (by first | assumption | rfl) (by rfl) (Nat.le_of_ble_eq_true rfl) (Nat.le_of_ble_eq_true rfl) (Nat.le_of_ble_eq_true rfl) (fun r J hq => ?_)
  obtain ⟨rfl, hK⟩ := hq
  refine y_if_ne (tgt := 100) dL_law_22 (by decide) (fun hb => absurd (rfl) hb) (fun _ => ?_)
  refine y_aload_n dL_law_25 rfl ?_
  refine y_cV0p mX9_versions gRL_116 dL_law_26 (k_versions hK) (by decide) (by first | assumption | rfl) (by rfl) (Nat.le_of_ble_eq_true rfl) (Nat.le_of_ble_eq_true rfl) (Nat.le_of_ble_eq_true rfl) (fun r J hq => ?_)
  obtain ⟨rfl, hK⟩ := hq
  refine y_if_ne (tgt := 100) dL_law_29 (by decide) (fun hb => absurd (rfl) hb) (fun _ => ?_)
  refine y_aload_n dL_law_32 rfl ?_
  refine y_cV0p mX9_drop gRL_92 dL_law_33 (k_dropS hK (Or.inr rfl)) (by decide) (by first | assumption | rfl) (by rfl) (Nat.le_of_ble_eq_true rfl) (Nat.le_of_ble_eq_true rfl) (Nat.le_of_ble_eq_true rfl) (fun r J hq => ?_)
  obtain ⟨rfl, hK⟩ := hq
  refine y_ldc2 kRL_95 dL_law_36 ?_
  refine y_lcmp dL_law_39 ?_
  refine y_if_ne (tgt := 100) dL_law_40 (by decide) (fun hb => absurd (lc_same _) hb) (fun _ => ?_)
  refine y_aload_n dL_law_43 rfl ?_
  refine y_cV0p mX9_forget gRL_119 dL_law_44 (k_forget hK) (by decide) (by first | assumption | rfl) (by rfl) (Nat.le_of_ble_eq_true rfl) (Nat.le_of_ble_eq_true rfl) (Nat.le_of_ble_eq_true rfl) (fun r J hq => ?_)
  obtain ⟨rfl, hK⟩ := hq
  refine y_if_ne (tgt := 100) dL_law_47 (by decide) (fun hb => absurd (rfl) hb) (fun _ => ?_)
  refine y_aload_n dL_law_50 rfl ?_
  refine y_cV0p mX9_undo gRL_110 dL_law_51 (k_undo hK) (by decide) (by first | assumption | rfl) (by rfl) (Nat.le_of_ble_eq_true rfl) (Nat.le_of_ble_eq_true rfl) (Nat.le_of_ble_eq_true rfl) (fun r J hq => ?_)
  obtain ⟨c, Hh, rfl, hc, hK⟩ := hq
  have hc : 1 = c + 1 := hc
  have c0 : c = 0 := by omega
  subst c0
  refine y_if_ne (tgt := 100) dL_law_54 (by decide) (fun hb => absurd (rfl) hb) (fun _ => ?_)
  refine y_aload_n dL_law_57 rfl ?_
  refine y_cV0p mX9_suspects gRL_101 dL_law_58 (k_suspects hK) (by decide) (by first | assumption | rfl) (by rfl) (Nat.le_of_ble_eq_true rfl) (Nat.le_of_ble_eq_true rfl) (Nat.le_of_ble_eq_true rfl) (fun r J hq => ?_)
  obtain ⟨rfl, hK⟩ := hq
  refine y_sipush (v := -1009) dL_law_61 rfl ?_
  refine y_icmp_ne (tgt := 100) dL_law_64 (by decide) (fun hb => absurd (rfl) hb) (fun _ => ?_)
  refine y_aload_n dL_law_67 rfl ?_
  refine y_cV0p mX9_mean gRL_105 dL_law_68 (k_mean hK) (by decide) (by first | assumption | rfl) (by rfl) (Nat.le_of_ble_eq_true rfl) (Nat.le_of_ble_eq_true rfl) (Nat.le_of_ble_eq_true rfl) (fun r J hq => ?_)
  obtain ⟨rfl, hK⟩ := hq
  rw [show mnF A0 = FP.fconst0 from if_pos rfl]
  refine y_fconst0 dL_law_71 ?_
  refine y_fcmp dL_law_72 ?_
  refine y_if_ne (tgt := 100) dL_law_73 (by decide) (fun hb => absurd ((by decide +kernel)) hb) (fun _ => ?_)
  refine y_aload_n dL_law_76 rfl ?_
  refine y_bipush (v := 7) dL_law_77 rfl ?_
  refine y_iconst (v := 3) dL_law_79 rfl ?_
  refine y_cV2p mX9_unlike gRL_45 dL_law_80 (k_unlike (n := 3) hK rfl (by decide) (by decide)) (by decide) (by first | assumption | rfl) (by rfl) (Nat.le_of_ble_eq_true rfl) (Nat.le_of_ble_eq_true rfl) (Nat.le_of_ble_eq_true rfl) (fun r J hq => ?_)
  obtain ⟨rfl, hK⟩ := hq
  rw [(ul_none (A := A0) rfl 7 3 (by decide)).1]
  refine y_ldc2 kRL_122 dL_law_83 ?_
  refine y_lcmp dL_law_86 ?_
  refine y_if_ne (tgt := 100) dL_law_87 (by decide) (fun hb => absurd ((by decide)) hb) (fun _ => ?_)
  refine y_aload_n dL_law_90 rfl ?_
  refine y_iconst (v := 0) dL_law_91 rfl ?_
  refine y_iconst (v := 0) dL_law_92 rfl ?_
  refine y_iconst (v := 0) dL_law_93 rfl ?_
  refine y_cS4p mL_fails gRL_124 dL_law_94 (l_failsX hK (fun g => absurd rfl g) rfl rfl rfl) (by decide) (Nat.le_of_ble_eq_true rfl) (Nat.le_of_ble_eq_true rfl) (Nat.le_of_ble_eq_true rfl) (fun r J hq => ?_)
  obtain ⟨rfl, hK⟩ := hq
  refine y_if_ne (tgt := 102) dL_law_97 (by decide) (fun _ => ?_) (fun hb => absurd hb ((by decide)))
  refine y_iconst (v := 1) dL_law_102 rfl ?_
  refine y_cellK (k := 0) hY hL (by decide) dL_law_103 dL_law_104 (by decide) dL_law_105 gRL_128 (by decide) (Nat.le_of_ble_eq_true rfl) (Nat.le_of_ble_eq_true rfl) (Nat.le_of_ble_eq_true rfl) ?_
  refine y_bipush (v := 14) dL_law_108 rfl ?_
  refine y_cS2p mL_up gRL_132 dL_law_110 (l_up (m := 14) (by decide) (by decide)) (by decide) (Nat.le_of_ble_eq_true rfl) (Nat.le_of_ble_eq_true rfl) (Nat.le_of_ble_eq_true rfl) (fun r J hq => ?_)
  obtain ⟨⟨k, hk, rfl⟩, rfl⟩ := hq
  refine y_iadd dL_law_113 ?_
  rw [show (1 : Int32) + nI k = nI (1 + k) from nI_add 1 k]
  refine y_ist2 dL_law_114 (by decide) rfl ?_
  refine y_iconst (v := 0) dL_law_115 rfl ?_
  refine y_ist3 dL_law_116 (by decide) rfl ?_
  exact w_adds hY hL fin (by omega) (by omega) (1 + k) 0 _ _ (by omega) hK ⟨rfl, rfl, rfl, rfl⟩ rfl
end LW

