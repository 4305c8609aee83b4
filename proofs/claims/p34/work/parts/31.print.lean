/-! ===== fingerprint ===== -/
def fpR (g : Nat → Int32) (h : Int64) : Nat → Int64
  | 0 => h
  | k + 1 => 31 * fpR g h k + (g k).toInt64
def fpQ (A : AS) (h : Int64) : Int64 := fpR (fun j => nI (aqd A (j / 5) (j % 5))) (31 * h + (nI (anq A)).toInt64) (5 * anq A)
theorem s_printQ {I : ZI} {A : AS} {h : Int64} (hS : Sc I 1 A) (hV : AV A) : ZE yX9_printQuestions cX9_printQuestions 7 (some FieldType.long) 2 [.ref 0, .long h] Sg I (some (.long (fpQ A h))) I := by
  have h0 := at_tv
  have hn1 := at_now.1
  have hq0 := at_q.1
  have hn := hV.1.1
  have hq1 : I 2 1 = nI (anq A) := hS.1.1
  refine ZSp.of (own := RX9) (L := [.ref 0, .long h, zj, zj, zj, zj, zj]) mX9_printQuestions rfl (List.all_eq_true.mp rfl) (Nat.le_of_ble_eq_true rfl) rfl (fun X hE hN => ?_)
  have inner : ∀ (i : Nat), i < anq A → ∀ (m w : Nat), w + m = 5 → ((ZG X RX9 cX9_printQuestions 7 2 0 0 0 0 21 [.ref 0, .long h, zj, .long (fpR (fun j => nI (aqd A (j / 5) (j % 5))) (31 * h + (nI (anq A)).toInt64) (5 * (i + 1))), zj, .int (nI (i + 1)), zj] [] Sg I)) → (ZG X RX9 cX9_printQuestions 7 2 0 0 0 0 39 [.ref 0, .long h, zj, .long (fpR (fun j => nI (aqd A (j / 5) (j % 5))) (31 * h + (nI (anq A)).toInt64) (5 * i + w)), zj, .int (nI i), .int (nI w)] [] Sg I) := by
    intro i hi m
    induction m with
    | zero =>
      intro w hw nxt
      have e : w = 5 := by omega
      subst e
      refine z_iload dX9_printQuestions_39 rfl ?_
      refine z_iconst (v := 5) dX9_printQuestions_41 rfl ?_
      refine z_icmp_ge (tgt := 73) dX9_printQuestions_42 (by decide) (fun _ => ?_) (fun hb => absurd (by decide) hb)
      refine z_inc5 (w := 1) dX9_printQuestions_73 rfl (by decide) rfl ?_
      refine z_goto (tgt := 21) dX9_printQuestions_76 (by decide) ?_
      rw [nI_1]
      refine z_fg6 ?_
      exact nxt
    | succ m ih =>
      intro w hw nxt
      have nx2 := ih (w + 1) (by omega) nxt
      have e1 : fpR (fun j => nI (aqd A (j / 5) (j % 5))) (31 * h + (nI (anq A)).toInt64) (5 * i + (w + 1)) = 31 * fpR (fun j => nI (aqd A (j / 5) (j % 5))) (31 * h + (nI (anq A)).toInt64) (5 * i + w) + (nI (aqd A i w)).toInt64 := by
        show 31 * _ + (nI (aqd A ((5 * i + w) / 5) ((5 * i + w) % 5))).toInt64 = _
        rw [show (5 * i + w) / 5 = i by omega, show (5 * i + w) % 5 = w by omega]
        rfl
      refine z_iload dX9_printQuestions_39 rfl ?_
      refine z_iconst (v := 5) dX9_printQuestions_41 rfl ?_
      refine z_icmp_ge (tgt := 73) dX9_printQuestions_42 (by decide) (fun hb => absurd hb (nI_ge (b := 5) (show w < 5 by omega) (by decide))) (fun _ => ?_)
      refine z_ldc2 kRX9_261 dX9_printQuestions_45 ?_
      refine z_lload_n dX9_printQuestions_48 rfl ?_
      refine z_lmul dX9_printQuestions_49 ?_
      refine z_aload_n dX9_printQuestions_50 rfl ?_
      refine z_getR fRX9_10 dX9_printQuestions_51 (by first | assumption | rfl) (by rfl) ?_
      refine z_getR fRX9_76 dX9_printQuestions_54 (by first | assumption | rfl) (by rfl) ?_
      refine z_iload dX9_printQuestions_57 rfl ?_
      refine z_iload dX9_printQuestions_59 rfl ?_
      refine z_cV2s mX5_number gRX9_95 dX9_printQuestions_61 (s_number at_q hS.1 hn rfl rfl hi (show w < 5 by omega)) (by decide) (by first | assumption | rfl) (by rfl) (Nat.le_of_ble_eq_true rfl) (Nat.le_refl _) (Nat.le_refl _) ?_
      refine z_i2l dX9_printQuestions_64 ?_
      refine z_ladd dX9_printQuestions_65 ?_
      refine z_lst3 dX9_printQuestions_66 (by decide) rfl ?_
      refine z_inc6 (w := 1) dX9_printQuestions_67 rfl (by decide) rfl ?_
      refine z_goto (tgt := 39) dX9_printQuestions_70 (by decide) ?_
      rw [e1] at nx2
      rw [nI_1]
      exact nx2
  have outer : ∀ (m i : Nat), i + m = anq A → (ZG X RX9 cX9_printQuestions 7 2 0 0 0 0 21 [.ref 0, .long h, zj, .long (fpR (fun j => nI (aqd A (j / 5) (j % 5))) (31 * h + (nI (anq A)).toInt64) (5 * i)), zj, .int (nI i), zj] [] Sg I) := by
    intro m
    induction m with
    | zero =>
      intro i hi
      have e : i = anq A := by omega
      subst e
      refine z_iload dX9_printQuestions_21 rfl ?_
      refine z_aload_n dX9_printQuestions_23 rfl ?_
      refine z_getR fRX9_10 dX9_printQuestions_24 (by first | assumption | rfl) (by rfl) ?_
      refine z_getR fRX9_76 dX9_printQuestions_27 (by first | assumption | rfl) (by rfl) ?_
      refine z_getI fRX9_80 dX9_printQuestions_30 (by first | assumption | rfl) (by rfl) ?_
      refine z_icmp_ge (tgt := 79) dX9_printQuestions_33 (by decide) (fun _ => ?_) (fun hb => absurd (by rw [hq1]; exact nI_le (Nat.le_refl _) (by omega)) hb)
      refine z_lload_n dX9_printQuestions_79 rfl ?_
      exact z_elreturn hE dX9_printQuestions_80 rfl rfl
    | succ m ih =>
      intro i hi
      refine z_iload dX9_printQuestions_21 rfl ?_
      refine z_aload_n dX9_printQuestions_23 rfl ?_
      refine z_getR fRX9_10 dX9_printQuestions_24 (by first | assumption | rfl) (by rfl) ?_
      refine z_getR fRX9_76 dX9_printQuestions_27 (by first | assumption | rfl) (by rfl) ?_
      refine z_getI fRX9_80 dX9_printQuestions_30 (by first | assumption | rfl) (by rfl) ?_
      refine z_icmp_ge (tgt := 79) dX9_printQuestions_33 (by decide) (fun hb => absurd hb (by rw [hq1]; exact nI_ge (by omega) (by omega))) (fun _ => ?_)
      refine z_iconst (v := 0) dX9_printQuestions_36 rfl ?_
      refine z_ist6 dX9_printQuestions_37 (by decide) rfl ?_
      exact inner i (by omega) 5 0 (by omega) (ih (i + 1) (by omega))
  refine z_ldc2 kRX9_261 dX9_printQuestions_0 ?_
  refine z_lload_n dX9_printQuestions_3 rfl ?_
  refine z_lmul dX9_printQuestions_4 ?_
  refine z_aload_n dX9_printQuestions_5 rfl ?_
  refine z_getR fRX9_10 dX9_printQuestions_6 (by first | assumption | rfl) (by rfl) ?_
  refine z_getR fRX9_76 dX9_printQuestions_9 (by first | assumption | rfl) (by rfl) ?_
  refine z_getI fRX9_80 dX9_printQuestions_12 (by first | assumption | rfl) (by rfl) ?_
  rw [hq1]
  refine z_i2l dX9_printQuestions_15 ?_
  refine z_ladd dX9_printQuestions_16 ?_
  refine z_lst3 dX9_printQuestions_17 (by decide) rfl ?_
  refine z_iconst (v := 0) dX9_printQuestions_18 rfl ?_
  refine z_ist5 dX9_printQuestions_19 (by decide) rfl ?_
  exact outer (anq A) 0 (by omega)
def fpV (A : AS) (h : Int64) : Nat → Int64
  | 0 => 31 * h + (nI (anv A)).toInt64
  | v + 1 => 31 * fpR (fun j => atF A v (j / 4) (nI (j % 4))) (fpV A h v) (4 * anq A) + (nI (vN A v)).toInt64
theorem sc_told {J : ZI} {A : AS} {v p : Nat} {w : Int32} (hV : AV A) (b3 : Pm J (139 + 20 * v) (anq A) (aqd A) (asd A v)) (b4 : Ly J (139 + 20 * v + 9) (anq A) (aqd A) (asd A v) (aln A)) (hp : p < anq A) : (if w = 0 then J (139 + 20 * v + 1 + 1) p else if w = 1 then J (139 + 20 * v + 5 + 1) p else if w = 2 then J (139 + 20 * v + 9 + 3 + 1) p else J (139 + 20 * v + 9 + 5 + 1) p) = atF A v p w := by
  obtain ⟨i, k, hi, hk, hpk⟩ := Ps_page (seed := asd A v) hV.1 hV.2.2.1 hp
  have hpg : pgo (vP A v) p (vN A v) = i := by rw [hpk]; exact pgo_eq (fun j hj => ((Ps_spec hV.1 hV.2.2.1).1 j hj).1) hi hk
  obtain ⟨-, -, c3⟩ := b4.2 i hi
  obtain ⟨c4, c5⟩ := c3 k hk
  rw [← hpk] at c4 c5
  rw [atF, hpg, b3.2.1 p hp, b3.2.2.2.2 p hp, c4, c5, show p - vP A v i = k from by rw [hpk]; exact Nat.add_sub_cancel_left _ _]
  rfl
theorem is03_nI : ∀ w, w < 4 → is03 (nI w) := by decide
theorem s_printV {I : ZI} {A : AS} {hc : Nat} {Hh : Nat → AS} {tc : Nat} {bf : Nat → Nat} {h : Int64} (hC0 : CI I A hc Hh tc bf) : ZP yX9_printVersions cX9_printVersions 9 (some FieldType.long) 6 [.ref 0, .long h] Sg I (fun r J => r = some (.long (fpV A h (anv A))) ∧ (∀ a, 259 ≤ a → J a = I a) ∧ CI J A hc Hh tc bf) := by
  have h0 := at_tv
  have hn1 := at_now.1
  have hV := hC0.2.1
  have hn := hV.1.1
  have hnv := hV.2.1
  refine ZSp.of (own := RX9) (L := [.ref 0, .long h, zj, zj, zj, zj, zj, zj, zj]) mX9_printVersions rfl (List.all_eq_true.mp rfl) (Nat.le_of_ble_eq_true rfl) rfl (fun X hE hN => ?_)
  have outer : ∀ (m v : Nat) (K : ZI), v + m = anv A → (∀ a, 259 ≤ a → K a = I a) → CI K A hc Hh tc bf → (ZG X RX9 cX9_printVersions 9 6 0 0 0 0 18 [.ref 0, .long h, zj, .long (fpV A h v), zj, .int (nI v), zj, zj, zj] [] Sg K) := by
    intro m
    induction m with
    | zero =>
      intro v J hv hfr hC
      have e : v = anv A := by omega
      subst e
      refine z_iload dX9_printVersions_18 rfl ?_
      refine z_aload_n dX9_printVersions_20 rfl ?_
      refine z_getR fRX9_10 dX9_printVersions_21 (by first | assumption | rfl) (by rfl) ?_
      refine z_getI fRX9_103 dX9_printVersions_24 (by first | assumption | rfl) (by rfl) ?_
      refine z_icmp_ge (tgt := 116) dX9_printVersions_27 (by decide) (fun _ => ?_) (fun hb => absurd (by rw [hC.1.2.1]; exact nI_le (Nat.le_refl _) (by omega)) hb)
      refine z_lload_n dX9_printVersions_116 rfl ?_
      exact z_lret hE dX9_printVersions_117 ⟨rfl, rfl, hfr, hC⟩
    | succ m ih =>
      intro v K hv hfr hC
      have hv1 : v < anv A := by omega
      have hv6 : v < 6 := by omega
      have hpp := at_paper hv6
      have hp0 := hpp.1
      have hy0 := hpp.2.2.2.2.2.1
      refine z_iload dX9_printVersions_18 rfl ?_
      refine z_aload_n dX9_printVersions_20 rfl ?_
      refine z_getR fRX9_10 dX9_printVersions_21 (by first | assumption | rfl) (by rfl) ?_
      refine z_getI fRX9_103 dX9_printVersions_24 (by first | assumption | rfl) (by rfl) ?_
      refine z_icmp_ge (tgt := 116) dX9_printVersions_27 (by decide) (fun hb => absurd hb (by rw [hC.1.2.1]; exact nI_ge (by omega) (by omega))) (fun _ => ?_)
      refine z_aload_n dX9_printVersions_30 rfl ?_
      refine z_iload dX9_printVersions_31 rfl ?_
      refine z_cV1p mX9_paperOf gRX9_119 dX9_printVersions_33 (s_paperOf hC rfl hv1) (by decide) (by first | assumption | rfl) (by rfl) (Nat.le_of_ble_eq_true rfl) (Nat.le_refl _) (Nat.le_refl _) (fun r J hq => ?_)
      obtain ⟨rfl, b1, b2, b3, b4⟩ := hq
      have hf2 : ∀ a, 259 ≤ a → J a = I a := fun a ha => by rw [b1 a (by omega), hfr a ha]
      have nxt := ih (v + 1) J (by omega) hf2 b2
      have inner : ∀ (p : Nat), p < anq A → ∀ (m w : Nat), w + m = 4 → ((ZG X RX9 cX9_printVersions 9 6 0 0 0 0 46 [.ref 0, .long h, zj, .long (fpR (fun j => atF A v (j / 4) (nI (j % 4))) (fpV A h v) (4 * (p + 1))), zj, .int (nI v), .ref (139 + 20 * v), .int (nI (p + 1)), zj] [] Sg J)) → (ZG X RX9 cX9_printVersions 9 6 0 0 0 0 59 [.ref 0, .long h, zj, .long (fpR (fun j => atF A v (j / 4) (nI (j % 4))) (fpV A h v) (4 * p + w)), zj, .int (nI v), .ref (139 + 20 * v), .int (nI p), .int (nI w)] [] Sg J) := by
        intro p hp m
        induction m with
        | zero =>
          intro w hw nx
          have e : w = 4 := by omega
          subst e
          refine z_iload dX9_printVersions_59 rfl ?_
          refine z_iconst (v := 3) dX9_printVersions_61 rfl ?_
          refine z_icmp_gt (tgt := 88) dX9_printVersions_62 (by decide) (fun _ => ?_) (fun hb => absurd (by decide) hb)
          refine z_inc7 (w := 1) dX9_printVersions_88 rfl (by decide) rfl ?_
          refine z_goto (tgt := 46) dX9_printVersions_91 (by decide) ?_
          rw [nI_1]
          refine z_fg8 ?_
          exact nx
        | succ m ih2 =>
          intro w hw nx
          have nx2 := ih2 (w + 1) (by omega) nx
          have e1 : fpR (fun j => atF A v (j / 4) (nI (j % 4))) (fpV A h v) (4 * p + (w + 1)) = 31 * fpR (fun j => atF A v (j / 4) (nI (j % 4))) (fpV A h v) (4 * p + w) + (atF A v p (nI w)).toInt64 := by
            show 31 * _ + (atF A v ((4 * p + w) / 4) (nI ((4 * p + w) % 4))).toInt64 = _
            rw [show (4 * p + w) / 4 = p by omega, show (4 * p + w) % 4 = w by omega]
            rfl
          refine z_iload dX9_printVersions_59 rfl ?_
          refine z_iconst (v := 3) dX9_printVersions_61 rfl ?_
          refine z_icmp_gt (tgt := 88) dX9_printVersions_62 (by decide) (fun hb => absurd hb (nI_nlt (b := w) (a := 3) (show w ≤ 3 by omega) (by decide))) (fun _ => ?_)
          refine z_ldc2 kRX9_261 dX9_printVersions_65 ?_
          refine z_lload_n dX9_printVersions_68 rfl ?_
          refine z_lmul dX9_printVersions_69 ?_
          refine z_aload dX9_printVersions_70 rfl ?_
          refine z_iload dX9_printVersions_72 rfl ?_
          refine z_iload dX9_printVersions_74 rfl ?_
          refine z_cV2s mX4_number gRX9_126 dX9_printVersions_76 (s_pNumber hpp rfl (show p < 20 by omega) (is03_nI w (by omega))) (by decide) (by first | assumption | rfl) (by rfl) (Nat.le_of_ble_eq_true rfl) (Nat.le_refl _) (Nat.le_refl _) ?_
          rw [sc_told hV b3 b4 hp]
          refine z_i2l dX9_printVersions_79 ?_
          refine z_ladd dX9_printVersions_80 ?_
          refine z_lst3 dX9_printVersions_81 (by decide) rfl ?_
          refine z_inc8 (w := 1) dX9_printVersions_82 rfl (by decide) rfl ?_
          refine z_goto (tgt := 59) dX9_printVersions_85 (by decide) ?_
          rw [e1] at nx2
          rw [nI_1]
          exact nx2
      have mid : ∀ (m p : Nat), p + m = anq A → (ZG X RX9 cX9_printVersions 9 6 0 0 0 0 46 [.ref 0, .long h, zj, .long (fpR (fun j => atF A v (j / 4) (nI (j % 4))) (fpV A h v) (4 * p)), zj, .int (nI v), .ref (139 + 20 * v), .int (nI p), zj] [] Sg J) := by
        intro m
        induction m with
        | zero =>
          intro p hp
          have e : p = anq A := by omega
          subst e
          refine z_iload dX9_printVersions_46 rfl ?_
          refine z_aload dX9_printVersions_48 rfl ?_
          refine z_getI fRX9_140 dX9_printVersions_50 (by first | assumption | rfl) (by rfl) ?_
          refine z_icmp_ge (tgt := 94) dX9_printVersions_53 (by decide) (fun _ => ?_) (fun hb => absurd (by rw [b3.1]; exact nI_le (Nat.le_refl _) (by omega)) hb)
          refine z_ldc2 kRX9_261 dX9_printVersions_94 ?_
          refine z_lload_n dX9_printVersions_97 rfl ?_
          refine z_lmul dX9_printVersions_98 ?_
          refine z_aload dX9_printVersions_99 rfl ?_
          refine z_getR fRX9_160 dX9_printVersions_101 (by first | assumption | rfl) (by rfl) ?_
          refine z_getI fRX9_164 dX9_printVersions_104 (by first | assumption | rfl) (by rfl) ?_
          rw [b4.1]
          refine z_i2l dX9_printVersions_107 ?_
          refine z_ladd dX9_printVersions_108 ?_
          refine z_lst3 dX9_printVersions_109 (by decide) rfl ?_
          refine z_inc5 (w := 1) dX9_printVersions_110 rfl (by decide) rfl ?_
          refine z_goto (tgt := 18) dX9_printVersions_113 (by decide) ?_
          rw [nI_1]
          refine z_fg6 (z_fg7 ?_)
          exact nxt
        | succ m ih2 =>
          intro p hp
          refine z_iload dX9_printVersions_46 rfl ?_
          refine z_aload dX9_printVersions_48 rfl ?_
          refine z_getI fRX9_140 dX9_printVersions_50 (by first | assumption | rfl) (by rfl) ?_
          refine z_icmp_ge (tgt := 94) dX9_printVersions_53 (by decide) (fun hb => absurd hb (by rw [b3.1]; exact nI_ge (by omega) (by omega))) (fun _ => ?_)
          refine z_iconst (v := 0) dX9_printVersions_56 rfl ?_
          refine z_ist8 dX9_printVersions_57 (by decide) rfl ?_
          exact inner p (by omega) 4 0 (by omega) (ih2 (p + 1) (by omega))
      refine z_ast6 dX9_printVersions_36 (by decide) rfl ?_
      refine z_aload dX9_printVersions_38 rfl ?_
      refine z_ifnull dX9_printVersions_40 ?_
      refine z_iconst (v := 0) dX9_printVersions_43 rfl ?_
      refine z_ist7 dX9_printVersions_44 (by decide) rfl ?_
      exact mid (anq A) 0 (by omega)
  refine z_ldc2 kRX9_261 dX9_printVersions_0 ?_
  refine z_lload_n dX9_printVersions_3 rfl ?_
  refine z_lmul dX9_printVersions_4 ?_
  refine z_aload_n dX9_printVersions_5 rfl ?_
  refine z_getR fRX9_10 dX9_printVersions_6 (by first | assumption | rfl) (by rfl) ?_
  refine z_getI fRX9_103 dX9_printVersions_9 (by first | assumption | rfl) (by rfl) ?_
  rw [hC0.1.2.1]
  refine z_i2l dX9_printVersions_12 ?_
  refine z_ladd dX9_printVersions_13 ?_
  refine z_lst3 dX9_printVersions_14 (by decide) rfl ?_
  refine z_iconst (v := 0) dX9_printVersions_15 rfl ?_
  refine z_ist5 dX9_printVersions_16 (by decide) rfl ?_
  exact outer (anv A) 0 I (by omega) (fun _ _ => rfl) hC0
def fpS (A : AS) (h : Int64) : Nat → Int64
  | 0 => 31 * h + (nI (ans A)).toInt64
  | t + 1 => fpR (fun q => anF A t q) (fpR (fun w => resF A t (nI w)) (fpS A h t) 5) (anq A)
theorem s_printS {I : ZI} {A : AS} {h : Int64} (hS : Sc I 1 A) (hV : AV A) : ZE yX9_printSheets cX9_printSheets 8 (some FieldType.long) 4 [.ref 0, .long h] Sg I (some (.long (fpS A h (ans A)))) I := by
  have h0 := at_tv
  have hn1 := at_now.1
  have hq0 := at_q.1
  have hs := at_sheets
  have hs0 := hs.1
  have hn := hV.1.1
  have hns := hV.2.2.2.2.1
  have hq1 : I 2 1 = nI (anq A) := hS.1.1
  have hcnt : I 7 5 = nI (ans A) := hS.2.2.2.2.1
  refine ZSp.of (own := RX9) (L := [.ref 0, .long h, zj, zj, zj, zj, zj, zj]) mX9_printSheets rfl (List.all_eq_true.mp rfl) (Nat.le_of_ble_eq_true rfl) rfl (fun X hE hN => ?_)
  have in2 : ∀ (t : Nat), t < ans A → ∀ (m q : Nat), q + m = anq A → ((ZG X RX9 cX9_printSheets 8 4 0 0 0 0 21 [.ref 0, .long h, zj, .long (fpS A h (t + 1)), zj, .int (nI (t + 1)), zj, zj] [] Sg I)) → (ZG X RX9 cX9_printSheets 8 4 0 0 0 0 76 [.ref 0, .long h, zj, .long (fpR (fun q => anF A t q) (fpR (fun w => resF A t (nI w)) (fpS A h t) 5) q), zj, .int (nI t), .int (nI q), zj] [] Sg I) := by
    intro t ht m
    induction m with
    | zero =>
      intro q hq nxt
      have e : q = anq A := by omega
      subst e
      refine z_iload dX9_printSheets_76 rfl ?_
      refine z_aload_n dX9_printSheets_78 rfl ?_
      refine z_getR fRX9_10 dX9_printSheets_79 (by first | assumption | rfl) (by rfl) ?_
      refine z_getR fRX9_76 dX9_printSheets_82 (by first | assumption | rfl) (by rfl) ?_
      refine z_getI fRX9_80 dX9_printSheets_85 (by first | assumption | rfl) (by rfl) ?_
      refine z_icmp_ge (tgt := 135) dX9_printSheets_88 (by decide) (fun _ => ?_) (fun hb => absurd (by rw [hq1]; exact nI_le (Nat.le_refl _) (by omega)) hb)
      refine z_inc5 (w := 1) dX9_printSheets_135 rfl (by decide) rfl ?_
      refine z_goto (tgt := 21) dX9_printSheets_138 (by decide) ?_
      rw [nI_1]
      refine z_fg6 ?_
      exact nxt
    | succ m ih =>
      intro q hq nxt
      have nx2 := ih (q + 1) (by omega) nxt
      have e1 : fpR (fun q => anF A t q) (fpR (fun w => resF A t (nI w)) (fpS A h t) 5) (q + 1) = 31 * fpR (fun q => anF A t q) (fpR (fun w => resF A t (nI w)) (fpS A h t) 5) q + (anF A t q).toInt64 := rfl
      have hq2 : q < anq A := by omega
      refine z_iload dX9_printSheets_76 rfl ?_
      refine z_aload_n dX9_printSheets_78 rfl ?_
      refine z_getR fRX9_10 dX9_printSheets_79 (by first | assumption | rfl) (by rfl) ?_
      refine z_getR fRX9_76 dX9_printSheets_82 (by first | assumption | rfl) (by rfl) ?_
      refine z_getI fRX9_80 dX9_printSheets_85 (by first | assumption | rfl) (by rfl) ?_
      refine z_icmp_ge (tgt := 135) dX9_printSheets_88 (by decide) (fun hb => absurd hb (by rw [hq1]; exact nI_ge (by omega) (by omega))) (fun _ => ?_)
      refine z_aload_n dX9_printSheets_91 rfl ?_
      refine z_getR fRX9_10 dX9_printSheets_92 (by first | assumption | rfl) (by rfl) ?_
      refine z_getR fRX9_66 dX9_printSheets_95 (by first | assumption | rfl) (by rfl) ?_
      refine z_iload dX9_printSheets_98 rfl ?_
      refine z_iload dX9_printSheets_100 rfl ?_
      refine z_cV2s mX7_pick gRX9_197 dX9_printSheets_102 (s_pick hs rfl rfl (show t < 20 by omega) (show q < 20 by omega)) (by decide) (by first | assumption | rfl) (by rfl) (Nat.le_of_ble_eq_true rfl) (Nat.le_refl _) (Nat.le_refl _) ?_
      rw [sc_pick hS ht hq2]
      refine z_ist7 dX9_printSheets_105 (by decide) rfl ?_
      refine z_ldc2 kRX9_261 dX9_printSheets_107 ?_
      refine z_lload_n dX9_printSheets_110 rfl ?_
      refine z_lmul dX9_printSheets_111 ?_
      refine z_iload dX9_printSheets_112 rfl ?_
      refine z_iconst (v := -1) dX9_printSheets_114 rfl ?_
      refine z_icmp_ne (tgt := 124) dX9_printSheets_115 (by decide) (fun ha => ?_) (fun ha => ?_)
      · refine z_iload dX9_printSheets_124 rfl ?_
        refine z_i2l dX9_printSheets_126 ?_
        refine z_ladd dX9_printSheets_127 ?_
        refine z_lst3 dX9_printSheets_128 (by decide) rfl ?_
        refine z_inc6 (w := 1) dX9_printSheets_129 rfl (by decide) rfl ?_
        refine z_goto (tgt := 76) dX9_printSheets_132 (by decide) ?_
        rw [e1, anF, if_neg ha] at nx2
        rw [nI_1]
        refine z_fg7 ?_
        exact nx2
      · refine z_sipush (v := -1009) dX9_printSheets_118 rfl ?_
        refine z_goto (tgt := 126) dX9_printSheets_121 (by decide) ?_
        refine z_i2l dX9_printSheets_126 ?_
        refine z_ladd dX9_printSheets_127 ?_
        refine z_lst3 dX9_printSheets_128 (by decide) rfl ?_
        refine z_inc6 (w := 1) dX9_printSheets_129 rfl (by decide) rfl ?_
        refine z_goto (tgt := 76) dX9_printSheets_132 (by decide) ?_
        rw [e1, anF, if_pos ha] at nx2
        rw [nI_1]
        refine z_fg7 ?_
        exact nx2
  have in1 : ∀ (t : Nat), t < ans A → ∀ (m w : Nat), w + m = 5 → ((ZG X RX9 cX9_printSheets 8 4 0 0 0 0 76 [.ref 0, .long h, zj, .long (fpR (fun w => resF A t (nI w)) (fpS A h t) 5), zj, .int (nI t), .int (nI 0), zj] [] Sg I)) → (ZG X RX9 cX9_printSheets 8 4 0 0 0 0 39 [.ref 0, .long h, zj, .long (fpR (fun w => resF A t (nI w)) (fpS A h t) w), zj, .int (nI t), .int (nI w), zj] [] Sg I) := by
    intro t ht m
    induction m with
    | zero =>
      intro w hw nxt
      have e : w = 5 := by omega
      subst e
      refine z_iload dX9_printSheets_39 rfl ?_
      refine z_iconst (v := 4) dX9_printSheets_41 rfl ?_
      refine z_icmp_gt (tgt := 73) dX9_printSheets_42 (by decide) (fun _ => ?_) (fun hb => absurd (by decide) hb)
      refine z_iconst (v := 0) dX9_printSheets_73 rfl ?_
      refine z_ist6 dX9_printSheets_74 (by decide) rfl ?_
      exact nxt
    | succ m ih =>
      intro w hw nxt
      have nx2 := ih (w + 1) (by omega) nxt
      have e1 : fpR (fun w => resF A t (nI w)) (fpS A h t) (w + 1) = 31 * fpR (fun w => resF A t (nI w)) (fpS A h t) w + (resF A t (nI w)).toInt64 := rfl
      refine z_iload dX9_printSheets_39 rfl ?_
      refine z_iconst (v := 4) dX9_printSheets_41 rfl ?_
      refine z_icmp_gt (tgt := 73) dX9_printSheets_42 (by decide) (fun hb => absurd hb (nI_nlt (b := w) (a := 4) (show w ≤ 4 by omega) (by decide))) (fun _ => ?_)
      refine z_ldc2 kRX9_261 dX9_printSheets_45 ?_
      refine z_lload_n dX9_printSheets_48 rfl ?_
      refine z_lmul dX9_printSheets_49 ?_
      refine z_aload_n dX9_printSheets_50 rfl ?_
      refine z_getR fRX9_10 dX9_printSheets_51 (by first | assumption | rfl) (by rfl) ?_
      refine z_getR fRX9_66 dX9_printSheets_54 (by first | assumption | rfl) (by rfl) ?_
      refine z_iload dX9_printSheets_57 rfl ?_
      refine z_iload dX9_printSheets_59 rfl ?_
      refine z_cV2s mX7_number gRX9_196 dX9_printSheets_61 (s_shNumber hs hcnt hns rfl (show t < 20 by omega)) (by decide) (by first | assumption | rfl) (by rfl) (Nat.le_of_ble_eq_true rfl) (Nat.le_refl _) (Nat.le_refl _) ?_
      rw [sc_shn hS ht]
      refine z_i2l dX9_printSheets_64 ?_
      refine z_ladd dX9_printSheets_65 ?_
      refine z_lst3 dX9_printSheets_66 (by decide) rfl ?_
      refine z_inc6 (w := 1) dX9_printSheets_67 rfl (by decide) rfl ?_
      refine z_goto (tgt := 39) dX9_printSheets_70 (by decide) ?_
      rw [e1] at nx2
      rw [nI_1]
      exact nx2
  have outer : ∀ (m t : Nat), t + m = ans A → (ZG X RX9 cX9_printSheets 8 4 0 0 0 0 21 [.ref 0, .long h, zj, .long (fpS A h t), zj, .int (nI t), zj, zj] [] Sg I) := by
    intro m
    induction m with
    | zero =>
      intro t ht
      have e : t = ans A := by omega
      subst e
      refine z_iload dX9_printSheets_21 rfl ?_
      refine z_aload_n dX9_printSheets_23 rfl ?_
      refine z_getR fRX9_10 dX9_printSheets_24 (by first | assumption | rfl) (by rfl) ?_
      refine z_getR fRX9_66 dX9_printSheets_27 (by first | assumption | rfl) (by rfl) ?_
      refine z_getI fRX9_70 dX9_printSheets_30 (by first | assumption | rfl) (by rfl) ?_
      refine z_icmp_ge (tgt := 141) dX9_printSheets_33 (by decide) (fun _ => ?_) (fun hb => absurd (by rw [hcnt]; exact nI_le (Nat.le_refl _) (by omega)) hb)
      refine z_lload_n dX9_printSheets_141 rfl ?_
      exact z_elreturn hE dX9_printSheets_142 rfl rfl
    | succ m ih =>
      intro t ht
      refine z_iload dX9_printSheets_21 rfl ?_
      refine z_aload_n dX9_printSheets_23 rfl ?_
      refine z_getR fRX9_10 dX9_printSheets_24 (by first | assumption | rfl) (by rfl) ?_
      refine z_getR fRX9_66 dX9_printSheets_27 (by first | assumption | rfl) (by rfl) ?_
      refine z_getI fRX9_70 dX9_printSheets_30 (by first | assumption | rfl) (by rfl) ?_
      refine z_icmp_ge (tgt := 141) dX9_printSheets_33 (by decide) (fun hb => absurd hb (by rw [hcnt]; exact nI_ge (by omega) (by omega))) (fun _ => ?_)
      refine z_iconst (v := 0) dX9_printSheets_36 rfl ?_
      refine z_ist6 dX9_printSheets_37 (by decide) rfl ?_
      exact in1 t (by omega) 5 0 (by omega) (in2 t (by omega) (anq A) 0 (by omega) (ih (t + 1) (by omega)))
  refine z_ldc2 kRX9_261 dX9_printSheets_0 ?_
  refine z_lload_n dX9_printSheets_3 rfl ?_
  refine z_lmul dX9_printSheets_4 ?_
  refine z_aload_n dX9_printSheets_5 rfl ?_
  refine z_getR fRX9_10 dX9_printSheets_6 (by first | assumption | rfl) (by rfl) ?_
  refine z_getR fRX9_66 dX9_printSheets_9 (by first | assumption | rfl) (by rfl) ?_
  refine z_getI fRX9_70 dX9_printSheets_12 (by first | assumption | rfl) (by rfl) ?_
  rw [hcnt]
  refine z_i2l dX9_printSheets_15 ?_
  refine z_ladd dX9_printSheets_16 ?_
  refine z_lst3 dX9_printSheets_17 (by decide) rfl ?_
  refine z_iconst (v := 0) dX9_printSheets_18 rfl ?_
  refine z_ist5 dX9_printSheets_19 (by decide) rfl ?_
  exact outer (ans A) 0 (by omega)
def fpF (A : AS) : Int64 := fpS A (fpV A (fpQ A 181) (anv A)) (ans A)
theorem s_fingerprint {I : ZI} {A : AS} {hc : Nat} {Hh : Nat → AS} {tc : Nat} {bf : Nat → Nat} (h : CI I A hc Hh tc bf) : ZP yX9_fingerprint cX9_fingerprint 3 (some FieldType.long) 7 [.ref 0] Sg I (fun r J => r = some (.long (fpF A)) ∧ (∀ a, 259 ≤ a → J a = I a) ∧ CI J A hc Hh tc bf) := by
  have h0 := at_tv
  refine ZSp.of (own := RX9) (L := [.ref 0, zj, zj]) mX9_fingerprint rfl (List.all_eq_true.mp rfl) (Nat.le_of_ble_eq_true rfl) rfl (fun X hE hN => ?_)
  refine z_ldc2 kRX9_226 dX9_fingerprint_0 ?_
  refine z_lst1 dX9_fingerprint_3 (by decide) rfl ?_
  refine z_aload_n dX9_fingerprint_4 rfl ?_
  refine z_lload_n dX9_fingerprint_5 rfl ?_
  refine z_cV1s mX9_printQuestions gRX9_228 dX9_fingerprint_6 (s_printQ h.1 h.2.1) (by decide) (by first | assumption | rfl) (by rfl) (Nat.le_of_ble_eq_true rfl) (Nat.le_refl _) (Nat.le_refl _) ?_
  refine z_lst1 dX9_fingerprint_9 (by decide) rfl ?_
  refine z_aload_n dX9_fingerprint_10 rfl ?_
  refine z_lload_n dX9_fingerprint_11 rfl ?_
  refine z_cV1p mX9_printVersions gRX9_232 dX9_fingerprint_12 (s_printV h) (by decide) (by first | assumption | rfl) (by rfl) (Nat.le_of_ble_eq_true rfl) (Nat.le_refl _) (Nat.le_refl _) (fun r J hq => ?_)
  obtain ⟨rfl, b1, b2⟩ := hq
  refine z_lst1 dX9_fingerprint_15 (by decide) rfl ?_
  refine z_aload_n dX9_fingerprint_16 rfl ?_
  refine z_lload_n dX9_fingerprint_17 rfl ?_
  refine z_cV1s mX9_printSheets gRX9_235 dX9_fingerprint_18 (s_printS b2.1 b2.2.1) (by decide) (by first | assumption | rfl) (by rfl) (Nat.le_of_ble_eq_true rfl) (Nat.le_refl _) (Nat.le_refl _) ?_
  exact z_lret hE dX9_fingerprint_21 ⟨rfl, rfl, b1, b2⟩

