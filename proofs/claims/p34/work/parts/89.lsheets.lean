/-! ===== the law's sheets ===== -/
theorem pr_div {i j : Nat} (hi : i < 100) (hj : j < 100) : nI (100 * i + j) / 100 = nI i := by
  have := pk_div (a := 100 * i + j) (d := 100) (by omega) (by decide) (by decide)
  rw [show (100 * i + j) / 100 = i by omega] at this
  exact this
theorem pr_rem {i j : Nat} (hi : i < 100) (hj : j < 100) : nI (100 * i + j) - nI (100 * i + j) / 100 * 100 = nI j := by
  have := pk_rem (a := 100 * i + j) (d := 100) (by omega) (by decide) (by decide)
  rw [show (100 * i + j) % 100 = j by omega] at this
  exact this
theorem fcmp_same {x : UInt32} (h : vf_n32 x) : FP.fcmp x x = some .eq := FP.Core.fcmp_self (fd_32 h)
def flB (h a b : Nat) : Bool := !(decide (0 < Op.cmpValue (FP.fcmp (FP.fdiv (FP.i2f (nI a - nI b)) (FP.i2f (nI h))) FP.fconst1) .l)) && decide (0 ≤ Op.cmpValue (FP.fcmp (FP.fdiv (FP.i2f (nI a - nI b)) (FP.i2f (nI h))) 3212836864) .g)
theorem fl_parB : ∀ h, h < 4 → ∀ a, a < 4 → ∀ b, b < 4 → (h == 0 || decide (h < a) || decide (h < b) || flB h a b) = true := by decide +kernel
theorem fl_par {h a b : Nat} (h4 : h < 4) (h0 : h ≠ 0) (ha : a ≤ h) (hb : b ≤ h) : ¬ (0 < Op.cmpValue (FP.fcmp (FP.fdiv (FP.i2f (nI a - nI b)) (FP.i2f (nI h))) FP.fconst1) .l) ∧ 0 ≤ Op.cmpValue (FP.fcmp (FP.fdiv (FP.i2f (nI a - nI b)) (FP.i2f (nI h))) 3212836864) .g := by
  have h1 := fl_parB h h4 a (by omega) b (by omega)
  rw [show (h == 0) = false from beq_false_of_ne h0, decide_eq_false (by omega), decide_eq_false (by omega), Bool.false_or, Bool.false_or, Bool.false_or] at h1
  unfold flB at h1
  rw [Bool.and_eq_true, Bool.not_eq_true', decide_eq_false_iff_not, decide_eq_true_iff] at h1
  exact h1
theorem pr_in {A : AS} {q : Nat} (h2 : 2 ≤ ans A) (h6 : ans A ≤ 6) : ¬ (0 < Op.cmpValue (FP.fcmp (prF A q) FP.fconst1) .l) ∧ 0 ≤ Op.cmpValue (FP.fcmp (prF A q) 3212836864) .g := by
  obtain ⟨a, b, e, ha, hb⟩ := prD_in (A := A) (q := q)
  have e2 : prF A q = FP.fdiv (FP.i2f (prD A q (ans A))) (FP.i2f (nI (ans A / 2))) := if_neg (by omega)
  rw [e2, e]
  exact fl_par (by omega) (by omega) ha hb
theorem res1 (A : AS) (t : Nat) : resF A t 1 = ptA A t := (if_neg (by decide)).trans (if_pos rfl)
theorem res0 (A : AS) (t : Nat) : resF A t 0 = nI (asv A t) := if_pos rfl
theorem res2 (A : AS) (t : Nat) : resF A t 2 = nI (shR A t) := (if_neg (by decide)).trans ((if_neg (by decide)).trans (if_pos rfl))
theorem res3 (A : AS) (t : Nat) : resF A t 3 = nI (shW A t) := (if_neg (by decide)).trans ((if_neg (by decide)).trans ((if_neg (by decide)).trans (if_pos rfl)))
theorem res4 (A : AS) (t : Nat) : resF A t 4 = nI (1 + rk (ptA A) (ptA A t) (ans A)) := (if_neg (by decide)).trans ((if_neg (by decide)).trans ((if_neg (by decide)).trans (if_neg (by decide))))
theorem pt_eq {A : AS} {s : Nat} (hV : AV A) (hs : s < ans A) : 4 * nI (rtF A s (anq A)) - nI (swF A s s (anq A)) = ptA A s := by
  rw [rt_eq hV hs, wr_eq hV hs, show (4 : Int32) = nI 4 from rfl, pk_mul]
  rfl
theorem l_sheets {T : CT} {I : ZI} (h : KI T I) (h2 : 2 ≤ ans T.1) (h6 : ans T.1 ≤ 6) : ZK yL_sheets cL_sheets 10 (some FieldType.boolean) 7 [.ref 0, .int (nI (anq T.1)), .int (nI (ans T.1))] T I (.int 1) := by
  have hV := h.av
  have h20 := hV.n20
  have h0 := at_tv
  refine ZSp.of (own := RL) (L := [.ref 0, .int (nI (anq T.1)), .int (nI (ans T.1)), zj, zj, zj, zj, zj, zj, zj]) mL_sheets rfl (List.all_eq_true.mp rfl) (Nat.le_of_ble_eq_true rfl) rfl (fun X hE hN => ?_)
  have fin : ∀ (J : ZI), KI T J → (ZG X RL cL_sheets 10 7 0 0 0 0 365 [.ref 0, .int (nI (anq T.1)), .int (nI (ans T.1)), .int (mnS T.1 (ans T.1)), .int (nI (anq T.1)), zj, zj, zj, zj, zj] [] Sg J) := by
    intro J hK
    obtain ⟨i, j, w, hij, hj, hsu⟩ : ∃ i j w, i < j ∧ j < ans T.1 ∧ suO T.1 (ans T.1) = (nI (100 * i + j), nI w) := by
      rcases sp_pair hV (ans T.1) (Nat.le_refl _) with ⟨-, q | q⟩ | q
      · omega
      · omega
      · exact q
    have hsu : (suO T.1 (ans T.1)).1 = nI (100 * i + j) := by rw [hsu]
    have hmn : mnF T.1 = FP.fdiv (FP.i2f (mnS T.1 (ans T.1))) (FP.i2f (nI (ans T.1))) := if_neg (by omega)
    have hn32 := f_div (mnS T.1 (ans T.1)) (k := ans T.1) (by omega) (by omega)
    refine z_aload_n dL_sheets_365 rfl ?_
    refine z_cV0p mX9_suspects gRL_101 dL_sheets_366 (k_suspects hK) (by decide) (by first | assumption | rfl) (by rfl) (Nat.le_of_ble_eq_true rfl) (Nat.le_refl _) (Nat.le_refl _) (fun r J hq => ?_)
    obtain ⟨rfl, hK⟩ := hq
    rw [hsu]
    refine z_ist4 dL_sheets_369 (by decide) rfl ?_
    refine z_iload_n dL_sheets_371 rfl ?_
    refine z_if_ne (tgt := 379) dL_sheets_372 (by decide) (fun _ => ?_) (fun hb => absurd hb (nI_ne0 (by omega) (by omega)))
    refine z_iload_n dL_sheets_379 rfl ?_
    refine z_i2f dL_sheets_380 ?_
    refine z_iload_n dL_sheets_381 rfl ?_
    refine z_i2f dL_sheets_382 ?_
    refine z_fdiv dL_sheets_383 hn32 ?_
    refine z_fst5 dL_sheets_384 (by decide) rfl ?_
    refine z_aload_n dL_sheets_386 rfl ?_
    refine z_cV0p mX9_mean gRL_105 dL_sheets_387 (k_mean hK) (by decide) (by first | assumption | rfl) (by rfl) (Nat.le_of_ble_eq_true rfl) (Nat.le_refl _) (Nat.le_refl _) (fun r J hq => ?_)
    obtain ⟨rfl, hK⟩ := hq
    rw [hmn]
    refine z_fload dL_sheets_390 rfl ?_
    refine z_fcmp dL_sheets_392 ?_
    refine z_if_ne (tgt := 444) dL_sheets_393 (by decide) (fun hb => absurd ((by rw [fcmp_same hn32]; rfl)) hb) (fun _ => ?_)
    refine z_iload_n dL_sheets_396 rfl ?_
    refine z_iconst (v := 2) dL_sheets_397 rfl ?_
    refine z_icmp_ge (tgt := 412) dL_sheets_398 (by decide) (fun _ => ?_) (fun hb => absurd (nI_le (a := 2) (b := ans T.1) (by omega) (by omega)) hb)
    refine z_iload dL_sheets_412 rfl ?_
    refine z_iconst (v := 1) dL_sheets_414 rfl ?_
    refine z_icmp_lt (tgt := 444) dL_sheets_415 (by decide) (fun hb => absurd hb (nI_nlt (a := 100 * i + j) (b := 1) (by omega) (by omega))) (fun _ => ?_)
    refine z_iload dL_sheets_418 rfl ?_
    refine z_bipush (v := 100) dL_sheets_420 rfl ?_
    refine z_idiv dL_sheets_422 (by decide) ?_
    refine z_iload dL_sheets_423 rfl ?_
    refine z_bipush (v := 100) dL_sheets_425 rfl ?_
    refine z_irem dL_sheets_427 (by decide) ?_
    rw [pr_rem (by omega) (by omega), pr_div (by omega) (by omega)]
    refine z_icmp_ge (tgt := 444) dL_sheets_428 (by decide) (fun hb => absurd hb (nI_ge (by omega) (by omega))) (fun _ => ?_)
    refine z_iload dL_sheets_431 rfl ?_
    refine z_bipush (v := 100) dL_sheets_433 rfl ?_
    refine z_irem dL_sheets_435 (by decide) ?_
    rw [pr_rem (by omega) (by omega)]
    refine z_iload_n dL_sheets_436 rfl ?_
    refine z_icmp_ge (tgt := 444) dL_sheets_437 (by decide) (fun hb => absurd hb (nI_ge (by omega) (by omega))) (fun _ => ?_)
    refine z_iconst (v := 1) dL_sheets_440 rfl ?_
    refine z_goto (tgt := 445) dL_sheets_441 (by decide) ?_
    exact z_zret hE dL_sheets_445 rfl ⟨rfl, rfl, hK⟩
  have loop2 : ∀ (m q : Nat) (J : ZI), q + m = anq T.1 → KI T J → (ZG X RL cL_sheets 10 7 0 0 0 0 249 [.ref 0, .int (nI (anq T.1)), .int (nI (ans T.1)), .int (mnS T.1 (ans T.1)), .int (nI q), zj, zj, zj, zj, zj] [] Sg J) := by
    intro m
    induction m with
    | zero =>
      intro q J hq hK
      have e : q = anq T.1 := by omega
      subst e
      refine z_iload dL_sheets_249 rfl ?_
      refine z_iload_n dL_sheets_251 rfl ?_
      refine z_icmp_ge (tgt := 365) dL_sheets_252 (by decide) (fun _ => ?_) (fun hb => absurd (nI_le (Nat.le_refl _) (by omega)) hb)
      exact fin J hK
    | succ m ih =>
      intro q J hq hK
      have hqn : q < anq T.1 := by omega
      have hpr := pr_in (A := T.1) (q := q) h2 h6
      have K322 : ∀ (J : ZI), KI T J → (ZG X RL cL_sheets 10 7 0 0 0 0 322 [.ref 0, .int (nI (anq T.1)), .int (nI (ans T.1)), .int (mnS T.1 (ans T.1)), .int (nI q), .int (abF T.1 q 3), zj, zj, zj, zj] [] Sg J) := by
        intro J hK
        refine z_iload dL_sheets_322 rfl ?_
        refine z_aload_n dL_sheets_324 rfl ?_
        refine z_iload dL_sheets_325 rfl ?_
        refine z_iconst (v := 1) dL_sheets_327 rfl ?_
        refine z_cV2p mX9_question gRL_29 dL_sheets_328 (k_question (j := 1) hK rfl hqn rfl (by decide)) (by decide) (by first | assumption | rfl) (by rfl) (Nat.le_of_ble_eq_true rfl) (Nat.le_refl _) (Nat.le_refl _) (fun r J hq => ?_)
        obtain ⟨rfl, hK⟩ := hq
        refine z_icmp_eq (tgt := 357) dL_sheets_331 (by decide) (fun hb => absurd hb (ab_wrong hV hqn)) (fun _ => ?_)
        refine z_aload_n dL_sheets_334 rfl ?_
        refine z_iload dL_sheets_335 rfl ?_
        refine z_cV1p mX9_parting gRL_78 dL_sheets_337 (k_parting hK rfl hqn) (by decide) (by first | assumption | rfl) (by rfl) (Nat.le_of_ble_eq_true rfl) (Nat.le_refl _) (Nat.le_refl _) (fun r J hq => ?_)
        obtain ⟨rfl, hK⟩ := hq
        refine z_fconst1 dL_sheets_340 ?_
        refine z_fcmp dL_sheets_341 ?_
        refine z_if_gt (tgt := 357) dL_sheets_342 (by decide) (fun hb => absurd hb (hpr.1)) (fun _ => ?_)
        refine z_aload_n dL_sheets_345 rfl ?_
        refine z_iload dL_sheets_346 rfl ?_
        refine z_cV1p mX9_parting gRL_78 dL_sheets_348 (k_parting hK rfl hqn) (by decide) (by first | assumption | rfl) (by rfl) (Nat.le_of_ble_eq_true rfl) (Nat.le_refl _) (Nat.le_refl _) (fun r J hq => ?_)
        obtain ⟨rfl, hK⟩ := hq
        refine z_ldcf kRL_100 dL_sheets_351 ?_
        refine z_fcmp dL_sheets_353 ?_
        refine z_if_ge (tgt := 359) dL_sheets_354 (by decide) (fun _ => ?_) (fun hb => absurd (hpr.2) hb)
        refine z_inc4 (w := 1) dL_sheets_359 rfl (by decide) rfl ?_
        refine z_goto (tgt := 249) dL_sheets_362 (by decide) ?_
        rw [nI_1]
        refine z_fg5 ?_
        exact ih (q + 1) _ (by omega) hK
      refine z_iload dL_sheets_249 rfl ?_
      refine z_iload_n dL_sheets_251 rfl ?_
      refine z_icmp_ge (tgt := 365) dL_sheets_252 (by decide) (fun hb => absurd hb (nI_ge (by omega) (by omega))) (fun _ => ?_)
      refine z_aload_n dL_sheets_255 rfl ?_
      refine z_iload dL_sheets_256 rfl ?_
      refine z_iconst (v := 3) dL_sheets_258 rfl ?_
      refine z_cV2p mX9_about gRL_75 dL_sheets_259 (k_about hK rfl hqn (Or.inr (Or.inr (Or.inr rfl)))) (by decide) (by first | assumption | rfl) (by rfl) (Nat.le_of_ble_eq_true rfl) (Nat.le_refl _) (Nat.le_refl _) (fun r J hq => ?_)
      obtain ⟨rfl, hK⟩ := hq
      refine z_ist5 dL_sheets_262 (by decide) rfl ?_
      refine z_aload_n dL_sheets_264 rfl ?_
      refine z_iload dL_sheets_265 rfl ?_
      refine z_iconst (v := 0) dL_sheets_267 rfl ?_
      refine z_cV2p mX9_about gRL_75 dL_sheets_268 (k_about hK rfl hqn (Or.inl rfl)) (by decide) (by first | assumption | rfl) (by rfl) (Nat.le_of_ble_eq_true rfl) (Nat.le_refl _) (Nat.le_refl _) (fun r J hq => ?_)
      obtain ⟨rfl, hK⟩ := hq
      refine z_aload_n dL_sheets_271 rfl ?_
      refine z_iload dL_sheets_272 rfl ?_
      refine z_iconst (v := 1) dL_sheets_274 rfl ?_
      refine z_cV2p mX9_about gRL_75 dL_sheets_275 (k_about hK rfl hqn (Or.inr (Or.inl rfl))) (by decide) (by first | assumption | rfl) (by rfl) (Nat.le_of_ble_eq_true rfl) (Nat.le_refl _) (Nat.le_refl _) (fun r J hq => ?_)
      obtain ⟨rfl, hK⟩ := hq
      refine z_iadd dL_sheets_278 ?_
      refine z_aload_n dL_sheets_279 rfl ?_
      refine z_iload dL_sheets_280 rfl ?_
      refine z_iconst (v := 2) dL_sheets_282 rfl ?_
      refine z_cV2p mX9_about gRL_75 dL_sheets_283 (k_about hK rfl hqn (Or.inr (Or.inr (Or.inl rfl)))) (by decide) (by first | assumption | rfl) (by rfl) (Nat.le_of_ble_eq_true rfl) (Nat.le_refl _) (Nat.le_refl _) (fun r J hq => ?_)
      obtain ⟨rfl, hK⟩ := hq
      refine z_iadd dL_sheets_286 ?_
      refine z_iload_n dL_sheets_287 rfl ?_
      refine z_icmp_ne (tgt := 357) dL_sheets_288 (by decide) (fun hb => absurd (ab_sum hV hqn) hb) (fun _ => ?_)
      refine z_iload dL_sheets_291 rfl ?_
      refine z_sipush (v := -1009) dL_sheets_293 rfl ?_
      by_cases e : abF T.1 q 1 = 0
      · have e2 := (ab_none hV hqn).mpr e
        refine z_icmp_ne (tgt := 303) dL_sheets_296 (by decide) (fun hb => absurd (e2) hb) (fun _ => ?_)
        refine z_iconst (v := 1) dL_sheets_299 rfl ?_
        refine z_goto (tgt := 304) dL_sheets_300 (by decide) ?_
        refine z_aload_n dL_sheets_304 rfl ?_
        refine z_iload dL_sheets_305 rfl ?_
        refine z_iconst (v := 1) dL_sheets_307 rfl ?_
        refine z_cV2p mX9_about gRL_75 dL_sheets_308 (k_about hK rfl hqn (Or.inr (Or.inl rfl))) (by decide) (by first | assumption | rfl) (by rfl) (Nat.le_of_ble_eq_true rfl) (Nat.le_refl _) (Nat.le_refl _) (fun r J hq => ?_)
        obtain ⟨rfl, hK⟩ := hq
        refine z_if_ne (tgt := 318) dL_sheets_311 (by decide) (fun hb => absurd (e) hb) (fun _ => ?_)
        refine z_iconst (v := 1) dL_sheets_314 rfl ?_
        refine z_goto (tgt := 319) dL_sheets_315 (by decide) ?_
        refine z_icmp_ne (tgt := 357) dL_sheets_319 (by decide) (fun hb => absurd (rfl) hb) (fun _ => ?_)
        exact K322 _ hK
      · have e2 : ¬ abF T.1 q 3 = -1009 := fun g => e ((ab_none hV hqn).mp g)
        refine z_icmp_ne (tgt := 303) dL_sheets_296 (by decide) (fun _ => ?_) (fun hb => absurd hb (e2))
        refine z_iconst (v := 0) dL_sheets_303 rfl ?_
        refine z_aload_n dL_sheets_304 rfl ?_
        refine z_iload dL_sheets_305 rfl ?_
        refine z_iconst (v := 1) dL_sheets_307 rfl ?_
        refine z_cV2p mX9_about gRL_75 dL_sheets_308 (k_about hK rfl hqn (Or.inr (Or.inl rfl))) (by decide) (by first | assumption | rfl) (by rfl) (Nat.le_of_ble_eq_true rfl) (Nat.le_refl _) (Nat.le_refl _) (fun r J hq => ?_)
        obtain ⟨rfl, hK⟩ := hq
        refine z_if_ne (tgt := 318) dL_sheets_311 (by decide) (fun _ => ?_) (fun hb => absurd hb (e))
        refine z_iconst (v := 0) dL_sheets_318 rfl ?_
        refine z_icmp_ne (tgt := 357) dL_sheets_319 (by decide) (fun hb => absurd (rfl) hb) (fun _ => ?_)
        exact K322 _ hK
  have loop1 : ∀ (m s : Nat) (J : ZI), s + m = ans T.1 → KI T J → (ZG X RL cL_sheets 10 7 0 0 0 0 5 [.ref 0, .int (nI (anq T.1)), .int (nI (ans T.1)), .int (mnS T.1 s), .int (nI s), zj, zj, zj, zj, zj] [] Sg J) := by
    intro m
    induction m with
    | zero =>
      intro s J hs hK
      have e : s = ans T.1 := by omega
      subst e
      refine z_iload dL_sheets_5 rfl ?_
      refine z_iload_n dL_sheets_7 rfl ?_
      refine z_icmp_ge (tgt := 246) dL_sheets_8 (by decide) (fun _ => ?_) (fun hb => absurd (nI_le (Nat.le_refl _) (by omega)) hb)
      refine z_iconst (v := 0) dL_sheets_246 rfl ?_
      refine z_ist4 dL_sheets_247 (by decide) rfl ?_
      exact loop2 (anq T.1) 0 J (Nat.zero_add _) hK
    | succ m ih =>
      intro s J hs hK
      have hsn : s < ans T.1 := by omega
      have hsv := (hV.2.2.2.2.2 s hsn).1
      have hpt := pt_eq hV hsn
      -- the ranks
      have rank : ∀ (n t : Nat) (J : ZI), t + n = ans T.1 → KI T J → (ZG X RL cL_sheets 10 7 0 0 0 0 100 [.ref 0, .int (nI (anq T.1)), .int (nI (ans T.1)), .int (mnS T.1 s), .int (nI s), .int (nI (rtF T.1 s (anq T.1))), .int (nI (swF T.1 s s (anq T.1))), .int (nI (1 + rk (ptA T.1) (ptA T.1 s) t)), .int (nI t), zj] [] Sg J) := by
        intro n
        induction n with
        | zero =>
          intro t J ht hK
          have e : t = ans T.1 := by omega
          subst e
          refine z_iload dL_sheets_100 rfl ?_
          refine z_iload_n dL_sheets_102 rfl ?_
          refine z_icmp_ge (tgt := 139) dL_sheets_103 (by decide) (fun _ => ?_) (fun hb => absurd (nI_le (Nat.le_refl _) (by omega)) hb)
          refine z_aload_n dL_sheets_139 rfl ?_
          refine z_iload dL_sheets_140 rfl ?_
          refine z_iconst (v := 1) dL_sheets_142 rfl ?_
          refine z_cV2p mX9_result gRL_69 dL_sheets_143 (k_result hK rfl hsn (Or.inr (Or.inl rfl))) (by decide) (by first | assumption | rfl) (by rfl) (Nat.le_of_ble_eq_true rfl) (Nat.le_refl _) (Nat.le_refl _) (fun r J hq => ?_)
          obtain ⟨rfl, hK⟩ := hq
          rw [res1]
          refine z_iconst (v := 4) dL_sheets_146 rfl ?_
          refine z_iload dL_sheets_147 rfl ?_
          refine z_imul dL_sheets_149 ?_
          refine z_iload dL_sheets_150 rfl ?_
          refine z_isub dL_sheets_152 ?_
          refine z_icmp_ne (tgt := 228) dL_sheets_153 (by decide) (fun hb => absurd (hpt.symm) hb) (fun _ => ?_)
          refine z_aload_n dL_sheets_156 rfl ?_
          refine z_iload dL_sheets_157 rfl ?_
          refine z_iconst (v := 2) dL_sheets_159 rfl ?_
          refine z_cV2p mX9_result gRL_69 dL_sheets_160 (k_result hK rfl hsn (Or.inr (Or.inr (Or.inl rfl)))) (by decide) (by first | assumption | rfl) (by rfl) (Nat.le_of_ble_eq_true rfl) (Nat.le_refl _) (Nat.le_refl _) (fun r J hq => ?_)
          obtain ⟨rfl, hK⟩ := hq
          rw [res2]
          refine z_iload dL_sheets_163 rfl ?_
          refine z_icmp_ne (tgt := 228) dL_sheets_165 (by decide) (fun hb => absurd ((by rw [rt_eq hV hsn])) hb) (fun _ => ?_)
          refine z_aload_n dL_sheets_168 rfl ?_
          refine z_iload dL_sheets_169 rfl ?_
          refine z_iconst (v := 3) dL_sheets_171 rfl ?_
          refine z_cV2p mX9_result gRL_69 dL_sheets_172 (k_result hK rfl hsn (Or.inr (Or.inr (Or.inr (Or.inl rfl))))) (by decide) (by first | assumption | rfl) (by rfl) (Nat.le_of_ble_eq_true rfl) (Nat.le_refl _) (Nat.le_refl _) (fun r J hq => ?_)
          obtain ⟨rfl, hK⟩ := hq
          rw [res3]
          refine z_iload dL_sheets_175 rfl ?_
          refine z_icmp_ne (tgt := 228) dL_sheets_177 (by decide) (fun hb => absurd ((by rw [wr_eq hV hsn])) hb) (fun _ => ?_)
          refine z_aload_n dL_sheets_180 rfl ?_
          refine z_iload dL_sheets_181 rfl ?_
          refine z_iconst (v := 4) dL_sheets_183 rfl ?_
          refine z_cV2p mX9_result gRL_69 dL_sheets_184 (k_result hK rfl hsn (Or.inr (Or.inr (Or.inr (Or.inr rfl))))) (by decide) (by first | assumption | rfl) (by rfl) (Nat.le_of_ble_eq_true rfl) (Nat.le_refl _) (Nat.le_refl _) (fun r J hq => ?_)
          obtain ⟨rfl, hK⟩ := hq
          rw [res4]
          refine z_iload dL_sheets_187 rfl ?_
          refine z_icmp_ne (tgt := 228) dL_sheets_189 (by decide) (fun hb => absurd (rfl) hb) (fun _ => ?_)
          refine z_aload_n dL_sheets_192 rfl ?_
          refine z_iload dL_sheets_193 rfl ?_
          refine z_aload_n dL_sheets_195 rfl ?_
          refine z_iload dL_sheets_196 rfl ?_
          refine z_iconst (v := 0) dL_sheets_198 rfl ?_
          refine z_cV2p mX9_result gRL_69 dL_sheets_199 (k_result hK rfl hsn (Or.inl rfl)) (by decide) (by first | assumption | rfl) (by rfl) (Nat.le_of_ble_eq_true rfl) (Nat.le_refl _) (Nat.le_refl _) (fun r J hq => ?_)
          obtain ⟨rfl, hK⟩ := hq
          rw [res0]
          refine z_cV2p mX9_mistaken gRL_86 dL_sheets_202 (k_mistaken hK rfl hsn rfl hsv) (by decide) (by first | assumption | rfl) (by rfl) (Nat.le_of_ble_eq_true rfl) (Nat.le_refl _) (Nat.le_refl _) (fun r J hq => ?_)
          obtain ⟨rfl, hK⟩ := hq
          refine z_iconst (v := 4) dL_sheets_205 rfl ?_
          refine z_iload dL_sheets_206 rfl ?_
          refine z_imul dL_sheets_208 ?_
          refine z_iload dL_sheets_209 rfl ?_
          refine z_isub dL_sheets_211 ?_
          refine z_icmp_ne (tgt := 228) dL_sheets_212 (by decide) (fun hb => absurd (hpt.symm) hb) (fun _ => ?_)
          refine z_aload_n dL_sheets_215 rfl ?_
          refine z_iload dL_sheets_216 rfl ?_
          refine z_iload dL_sheets_218 rfl ?_
          refine z_cV2p mX9_sameWrong gRL_83 dL_sheets_220 (k_sameWrong hK rfl hsn rfl hsn) (by decide) (by first | assumption | rfl) (by rfl) (Nat.le_of_ble_eq_true rfl) (Nat.le_refl _) (Nat.le_refl _) (fun r J hq => ?_)
          obtain ⟨rfl, hK⟩ := hq
          refine z_iload dL_sheets_223 rfl ?_
          refine z_icmp_eq (tgt := 230) dL_sheets_225 (by decide) (fun _ => ?_) (fun hb => absurd (rfl) hb)
          refine z_iload_n dL_sheets_230 rfl ?_
          refine z_iconst (v := 4) dL_sheets_231 rfl ?_
          refine z_iload dL_sheets_232 rfl ?_
          refine z_imul dL_sheets_234 ?_
          refine z_iload dL_sheets_235 rfl ?_
          refine z_isub dL_sheets_237 ?_
          refine z_iadd dL_sheets_238 ?_
          refine z_ist3 dL_sheets_239 (by decide) rfl ?_
          refine z_inc4 (w := 1) dL_sheets_240 rfl (by decide) rfl ?_
          refine z_goto (tgt := 5) dL_sheets_243 (by decide) ?_
          rw [hpt, show mnS T.1 s + ptA T.1 s = mnS T.1 (s + 1) from rfl, nI_1]
          refine z_fg5 ?_
          refine z_fg6 ?_
          refine z_fg7 ?_
          refine z_fg8 ?_
          exact ih (s + 1) _ (by omega) hK
        | succ n ihn =>
          intro t J ht hK
          have htn : t < ans T.1 := by omega
          have e1 : rk (ptA T.1) (ptA T.1 s) (t + 1) = rk (ptA T.1) (ptA T.1 s) t + (if ptA T.1 s < ptA T.1 t then 1 else 0) := rfl
          have nxt : ∀ (J : ZI), KI T J → (ZG X RL cL_sheets 10 7 0 0 0 0 133 [.ref 0, .int (nI (anq T.1)), .int (nI (ans T.1)), .int (mnS T.1 s), .int (nI s), .int (nI (rtF T.1 s (anq T.1))), .int (nI (swF T.1 s s (anq T.1))), .int (nI (1 + rk (ptA T.1) (ptA T.1 s) (t + 1))), .int (nI t), zj] [] Sg J) := by
            intro J hK
            refine z_inc8 (w := 1) dL_sheets_133 rfl (by decide) rfl ?_
            refine z_goto (tgt := 100) dL_sheets_136 (by decide) ?_
            rw [nI_1]
            exact ihn (t + 1) _ (by omega) hK
          refine z_iload dL_sheets_100 rfl ?_
          refine z_iload_n dL_sheets_102 rfl ?_
          refine z_icmp_ge (tgt := 139) dL_sheets_103 (by decide) (fun hb => absurd hb (nI_ge (by omega) (by omega))) (fun _ => ?_)
          refine z_iload dL_sheets_106 rfl ?_
          refine z_aload_n dL_sheets_108 rfl ?_
          refine z_iload dL_sheets_109 rfl ?_
          refine z_iconst (v := 1) dL_sheets_111 rfl ?_
          refine z_cV2p mX9_result gRL_69 dL_sheets_112 (k_result hK rfl htn (Or.inr (Or.inl rfl))) (by decide) (by first | assumption | rfl) (by rfl) (Nat.le_of_ble_eq_true rfl) (Nat.le_refl _) (Nat.le_refl _) (fun r J hq => ?_)
          obtain ⟨rfl, hK⟩ := hq
          rw [res1]
          refine z_aload_n dL_sheets_115 rfl ?_
          refine z_iload dL_sheets_116 rfl ?_
          refine z_iconst (v := 1) dL_sheets_118 rfl ?_
          refine z_cV2p mX9_result gRL_69 dL_sheets_119 (k_result hK rfl hsn (Or.inr (Or.inl rfl))) (by decide) (by first | assumption | rfl) (by rfl) (Nat.le_of_ble_eq_true rfl) (Nat.le_refl _) (Nat.le_refl _) (fun r J hq => ?_)
          obtain ⟨rfl, hK⟩ := hq
          rw [res1]
          by_cases c : ptA T.1 s < ptA T.1 t
          · have nx := nxt _ hK
            rw [e1, if_pos c, show 1 + (rk (ptA T.1) (ptA T.1 s) t + 1) = 1 + rk (ptA T.1) (ptA T.1 s) t + 1 by omega, ← nI_1] at nx
            refine z_icmp_le (tgt := 129) dL_sheets_122 (by decide) (fun hb => absurd hb ((fun g => absurd c (Int32.not_lt.mpr g)))) (fun _ => ?_)
            refine z_iconst (v := 1) dL_sheets_125 rfl ?_
            refine z_goto (tgt := 130) dL_sheets_126 (by decide) ?_
            refine z_iadd dL_sheets_130 ?_
            refine z_ist7 dL_sheets_131 (by decide) rfl ?_
            exact nx
          · have nx := nxt _ hK
            rw [e1, if_neg c, Nat.add_zero] at nx
            refine z_icmp_le (tgt := 129) dL_sheets_122 (by decide) (fun _ => ?_) (fun hb => absurd (Int32.not_lt.mp c) hb)
            refine z_iconst (v := 0) dL_sheets_129 rfl ?_
            refine z_iadd dL_sheets_130 ?_
            rw [Int32.add_zero]
            refine z_ist7 dL_sheets_131 (by decide) rfl ?_
            exact nx
      have count : ∀ (n q : Nat) (J : ZI), q + n = anq T.1 → KI T J → (ZG X RL cL_sheets 10 7 0 0 0 0 23 [.ref 0, .int (nI (anq T.1)), .int (nI (ans T.1)), .int (mnS T.1 s), .int (nI s), .int (nI (rtF T.1 s q)), .int (nI (swF T.1 s s q)), .int 1, .int (nI q), zj] [] Sg J) := by
        intro n
        induction n with
        | zero =>
          intro q J hq hK
          have e : q = anq T.1 := by omega
          subst e
          refine z_iload dL_sheets_23 rfl ?_
          refine z_iload_n dL_sheets_25 rfl ?_
          refine z_icmp_ge (tgt := 97) dL_sheets_26 (by decide) (fun _ => ?_) (fun hb => absurd (nI_le (Nat.le_refl _) (by omega)) hb)
          refine z_iconst (v := 0) dL_sheets_97 rfl ?_
          refine z_ist8 dL_sheets_98 (by decide) rfl ?_
          exact rank (ans T.1) 0 J (Nat.zero_add _) hK
        | succ n ihn =>
          intro q J hq hK
          have hqn : q < anq T.1 := by omega
          have h5 := aqd5 hV hqn
          have e1 : rtF T.1 s (q + 1) = rtF T.1 s q + (if pkA T.1 s q = nI (aqd T.1 q 1) then 1 else 0) := rfl
          have e2 : swF T.1 s s (q + 1) = if pkA T.1 s q ≠ -1 ∧ pkA T.1 s q = pkA T.1 s q ∧ pkA T.1 s q ≠ nI (aqd T.1 q 1) then swF T.1 s s q + 1 else swF T.1 s s q := rfl
          have e3 : anF T.1 s q = if pkA T.1 s q = -1 then -1009 else pkA T.1 s q := rfl
          have nxt : ∀ (J : ZI), KI T J → (ZG X RL cL_sheets 10 7 0 0 0 0 91 [.ref 0, .int (nI (anq T.1)), .int (nI (ans T.1)), .int (mnS T.1 s), .int (nI s), .int (nI (rtF T.1 s (q + 1))), .int (nI (swF T.1 s s (q + 1))), .int 1, .int (nI q), .int (anF T.1 s q)] [] Sg J) := by
            intro J hK
            refine z_inc8 (w := 1) dL_sheets_91 rfl (by decide) rfl ?_
            refine z_goto (tgt := 23) dL_sheets_94 (by decide) ?_
            rw [nI_1]
            refine z_fg9 ?_
            exact ihn (q + 1) _ (by omega) hK
          refine z_iload dL_sheets_23 rfl ?_
          refine z_iload_n dL_sheets_25 rfl ?_
          refine z_icmp_ge (tgt := 97) dL_sheets_26 (by decide) (fun hb => absurd hb (nI_ge (by omega) (by omega))) (fun _ => ?_)
          refine z_aload_n dL_sheets_29 rfl ?_
          refine z_iload dL_sheets_30 rfl ?_
          refine z_iload dL_sheets_32 rfl ?_
          refine z_cV2p mX9_answer gRL_72 dL_sheets_34 (k_answer hK rfl hsn rfl hqn) (by decide) (by first | assumption | rfl) (by rfl) (Nat.le_of_ble_eq_true rfl) (Nat.le_refl _) (Nat.le_refl _) (fun r J hq => ?_)
          obtain ⟨rfl, hK⟩ := hq
          refine z_ist9 dL_sheets_37 (by decide) rfl ?_
          refine z_iload dL_sheets_39 rfl ?_
          refine z_iload dL_sheets_41 rfl ?_
          refine z_aload_n dL_sheets_43 rfl ?_
          refine z_iload dL_sheets_44 rfl ?_
          refine z_iconst (v := 1) dL_sheets_46 rfl ?_
          refine z_cV2p mX9_question gRL_29 dL_sheets_47 (k_question (j := 1) hK rfl hqn rfl (by decide)) (by decide) (by first | assumption | rfl) (by rfl) (Nat.le_of_ble_eq_true rfl) (Nat.le_refl _) (Nat.le_refl _) (fun r J hq => ?_)
          obtain ⟨rfl, hK⟩ := hq
          rcases pkq_in hV hsn hqn with g | ⟨c, hc, g⟩
          · have a1 : anF T.1 s q = -1009 := by rw [e3, if_pos g]
            have a2 : rtF T.1 s (q + 1) = rtF T.1 s q := by rw [e1, g, if_neg (m1_nI (by omega))]; rfl
            have a3 : swF T.1 s s (q + 1) = swF T.1 s s q := by rw [e2, if_neg (fun q => q.1 g)]
            rw [a1]
            refine z_icmp_ne (tgt := 57) dL_sheets_50 (by decide) (fun _ => ?_) (fun hb => absurd hb (none_nI (by omega)))
            refine z_iconst (v := 0) dL_sheets_57 rfl ?_
            refine z_iadd dL_sheets_58 ?_
            rw [Int32.add_zero]
            refine z_ist5 dL_sheets_59 (by decide) rfl ?_
            refine z_iload dL_sheets_61 rfl ?_
            refine z_iload dL_sheets_63 rfl ?_
            refine z_sipush (v := -1009) dL_sheets_65 rfl ?_
            refine z_icmp_eq (tgt := 87) dL_sheets_68 (by decide) (fun _ => ?_) (fun hb => absurd (rfl) hb)
            refine z_iconst (v := 0) dL_sheets_87 rfl ?_
            refine z_iadd dL_sheets_88 ?_
            rw [Int32.add_zero]
            refine z_ist6 dL_sheets_89 (by decide) rfl ?_
            have nx := nxt _ hK
            rw [a1, a2, a3] at nx
            exact nx
          · have hm : ¬ pkA T.1 s q = -1 := by rw [g]; exact (m1_nI (by omega)).symm
            have a1 : anF T.1 s q = nI c := by rw [e3, if_neg hm, g]
            rw [a1]
            by_cases e : c = aqd T.1 q 1
            · have a2 : rtF T.1 s (q + 1) = rtF T.1 s q + 1 := by rw [e1, g, e, if_pos rfl]
              have a3 : swF T.1 s s (q + 1) = swF T.1 s s q := by rw [e2, if_neg (fun q => q.2.2 (by rw [g, e]))]
              refine z_icmp_ne (tgt := 57) dL_sheets_50 (by decide) (fun hb => absurd ((by rw [e])) hb) (fun _ => ?_)
              refine z_iconst (v := 1) dL_sheets_53 rfl ?_
              refine z_goto (tgt := 58) dL_sheets_54 (by decide) ?_
              refine z_iadd dL_sheets_58 ?_
              rw [nI_1]
              refine z_ist5 dL_sheets_59 (by decide) rfl ?_
              refine z_iload dL_sheets_61 rfl ?_
              refine z_iload dL_sheets_63 rfl ?_
              refine z_sipush (v := -1009) dL_sheets_65 rfl ?_
              refine z_icmp_eq (tgt := 87) dL_sheets_68 (by decide) (fun hb => absurd hb ((none_nI (by omega)).symm)) (fun _ => ?_)
              refine z_iload dL_sheets_71 rfl ?_
              refine z_aload_n dL_sheets_73 rfl ?_
              refine z_iload dL_sheets_74 rfl ?_
              refine z_iconst (v := 1) dL_sheets_76 rfl ?_
              refine z_cV2p mX9_question gRL_29 dL_sheets_77 (k_question (j := 1) hK rfl hqn rfl (by decide)) (by decide) (by first | assumption | rfl) (by rfl) (Nat.le_of_ble_eq_true rfl) (Nat.le_refl _) (Nat.le_refl _) (fun r J hq => ?_)
              obtain ⟨rfl, hK⟩ := hq
              refine z_icmp_eq (tgt := 87) dL_sheets_80 (by decide) (fun _ => ?_) (fun hb => absurd ((by rw [e])) hb)
              refine z_iconst (v := 0) dL_sheets_87 rfl ?_
              refine z_iadd dL_sheets_88 ?_
              rw [Int32.add_zero]
              refine z_ist6 dL_sheets_89 (by decide) rfl ?_
              have nx := nxt _ hK
              rw [a1, a2, a3] at nx
              exact nx
            · have e9 : ¬ nI c = nI (aqd T.1 q 1) := fun q => e ((nI_eq (by omega) (by omega)).mp q)
              have a2 : rtF T.1 s (q + 1) = rtF T.1 s q := by rw [e1, g, if_neg e9]; rfl
              have a3 : swF T.1 s s (q + 1) = swF T.1 s s q + 1 := by rw [e2, if_pos ⟨hm, rfl, by rw [g]; exact e9⟩]
              refine z_icmp_ne (tgt := 57) dL_sheets_50 (by decide) (fun _ => ?_) (fun hb => absurd hb (e9))
              refine z_iconst (v := 0) dL_sheets_57 rfl ?_
              refine z_iadd dL_sheets_58 ?_
              rw [Int32.add_zero]
              refine z_ist5 dL_sheets_59 (by decide) rfl ?_
              refine z_iload dL_sheets_61 rfl ?_
              refine z_iload dL_sheets_63 rfl ?_
              refine z_sipush (v := -1009) dL_sheets_65 rfl ?_
              refine z_icmp_eq (tgt := 87) dL_sheets_68 (by decide) (fun hb => absurd hb ((none_nI (by omega)).symm)) (fun _ => ?_)
              refine z_iload dL_sheets_71 rfl ?_
              refine z_aload_n dL_sheets_73 rfl ?_
              refine z_iload dL_sheets_74 rfl ?_
              refine z_iconst (v := 1) dL_sheets_76 rfl ?_
              refine z_cV2p mX9_question gRL_29 dL_sheets_77 (k_question (j := 1) hK rfl hqn rfl (by decide)) (by decide) (by first | assumption | rfl) (by rfl) (Nat.le_of_ble_eq_true rfl) (Nat.le_refl _) (Nat.le_refl _) (fun r J hq => ?_)
              obtain ⟨rfl, hK⟩ := hq
              refine z_icmp_eq (tgt := 87) dL_sheets_80 (by decide) (fun hb => absurd hb (e9)) (fun _ => ?_)
              refine z_iconst (v := 1) dL_sheets_83 rfl ?_
              refine z_goto (tgt := 88) dL_sheets_84 (by decide) ?_
              refine z_iadd dL_sheets_88 ?_
              rw [nI_1]
              refine z_ist6 dL_sheets_89 (by decide) rfl ?_
              have nx := nxt _ hK
              rw [a1, a2, a3] at nx
              exact nx
      refine z_iload dL_sheets_5 rfl ?_
      refine z_iload_n dL_sheets_7 rfl ?_
      refine z_icmp_ge (tgt := 246) dL_sheets_8 (by decide) (fun hb => absurd hb (nI_ge (by omega) (by omega))) (fun _ => ?_)
      refine z_iconst (v := 0) dL_sheets_11 rfl ?_
      refine z_ist5 dL_sheets_12 (by decide) rfl ?_
      refine z_iconst (v := 0) dL_sheets_14 rfl ?_
      refine z_ist6 dL_sheets_15 (by decide) rfl ?_
      refine z_iconst (v := 1) dL_sheets_17 rfl ?_
      refine z_ist7 dL_sheets_18 (by decide) rfl ?_
      refine z_iconst (v := 0) dL_sheets_20 rfl ?_
      refine z_ist8 dL_sheets_21 (by decide) rfl ?_
      exact count (anq T.1) 0 J (Nat.zero_add _) hK
  refine z_iconst (v := 0) dL_sheets_0 rfl ?_
  refine z_ist3 dL_sheets_1 (by decide) rfl ?_
  refine z_iconst (v := 0) dL_sheets_2 rfl ?_
  refine z_ist4 dL_sheets_3 (by decide) rfl ?_
  exact loop1 (ans T.1) 0 I (Nat.zero_add _) h

