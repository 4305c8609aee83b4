/-! ===== add, change, remove ===== -/
def okN (j n k : Nat) : Prop := (j = 0 ∧ 1 ≤ n ∧ n ≤ 9) ∨ (j = 1 ∧ n < k) ∨ (j = 2 ∧ n < 2 ^ k) ∨ (j = 3 ∧ n ≤ 5)
theorem alw_sh : ∀ k, k < 6 → (1 : Int32) <<< (nI k &&& 31) = nI (2 ^ k) := by decide
theorem alw_iff {w v : Int32} {k : Nat} (hk : k < 6) : alw w v (nI k) ↔ ∃ j n, w = nI j ∧ v = nI n ∧ n < 64 ∧ okN j n k := by
  have h2k : 2 ^ k < 64 := by
    match k, hk with
    | 0, _ => decide
    | 1, _ => decide
    | 2, _ => decide
    | 3, _ => decide
    | 4, _ => decide
    | 5, _ => decide
  unfold alw
  rw [alw_sh k hk]
  constructor
  · rintro (⟨rfl, h1, h2⟩ | ⟨rfl, h1, h2⟩ | ⟨rfl, h1, h2⟩ | ⟨rfl, h1, h2⟩)
    · obtain ⟨n, hn, rfl⟩ := nI_of2 (M := 9) (n := 9) rfl (fun z => h1 (Int32.lt_trans z (by decide))) (Int32.not_lt.mp h2)
      refine ⟨0, n, rfl, rfl, by omega, Or.inl ⟨rfl, ?_, hn⟩⟩
      rcases Nat.lt_or_ge n 1 with z | z
      · exact absurd (nI_lt (b := 1) z (by decide)) h1
      · exact z
    · obtain ⟨n, hn, rfl⟩ := nI_of h1
      have h3 := (nI_ltI (by omega) (by omega)).mp h2
      exact ⟨1, n, rfl, rfl, by omega, Or.inr (Or.inl ⟨rfl, h3⟩)⟩
    · obtain ⟨n, hn, rfl⟩ := nI_of h1
      have h3 := (nI_ltI (by omega) (by omega)).mp h2
      exact ⟨2, n, rfl, rfl, by omega, Or.inr (Or.inr (Or.inl ⟨rfl, h3⟩))⟩
    · obtain ⟨n, hn, rfl⟩ := nI_of2 (M := 5) (n := 5) rfl h1 (Int32.not_lt.mp h2)
      exact ⟨3, n, rfl, rfl, by omega, Or.inr (Or.inr (Or.inr ⟨rfl, hn⟩))⟩
  · rintro ⟨j, n, rfl, rfl, hn, (⟨rfl, h1, h2⟩ | ⟨rfl, h1⟩ | ⟨rfl, h1⟩ | ⟨rfl, h1⟩)⟩
    · exact Or.inl ⟨rfl, nI_nlt (b := 1) h1 (by omega), nI_nlt (b := n) (a := 9) h2 (by decide)⟩
    · exact Or.inr (Or.inl ⟨rfl, nI_pos (by omega), nI_lt h1 (by omega)⟩)
    · exact Or.inr (Or.inr (Or.inl ⟨rfl, nI_pos (by omega), nI_lt h1 (by omega)⟩))
    · exact Or.inr (Or.inr (Or.inr ⟨rfl, nI_pos (by omega), nI_nlt (b := n) (a := 5) h1 (by decide)⟩))
def vQ (x y z u w : Int32) (f : Nat → Nat) : Prop := (1 ≤ f 0 ∧ f 0 ≤ 9 ∧ 2 ≤ f 4 ∧ f 4 ≤ 5 ∧ f 1 < f 4 ∧ f 2 < 2 ^ f 4 ∧ f 3 ≤ 5) ∧ x = nI (f 0) ∧ y = nI (f 4) ∧ z = nI (f 1) ∧ u = nI (f 2) ∧ w = nI (f 3)
theorem vQ_alw {x y z u w : Int32} {f : Nat → Nat} (h : vQ x y z u w f) : ¬ y < 2 ∧ y ≤ 5 ∧ alw 0 x y ∧ alw 1 z y ∧ alw 2 u y ∧ alw 3 w y := by
  obtain ⟨⟨v1, v2, v3, v4, v5, v6, v7⟩, rfl, rfl, rfl, rfl, rfl⟩ := h
  have hk : f 4 < 6 := by omega
  have h2k : 2 ^ f 4 ≤ 2 ^ 5 := Nat.pow_le_pow_right (by decide) v4
  exact ⟨nI_nlt (b := 2) v3 (by omega), nI_le (b := 5) v4 (by decide), (alw_iff hk).mpr ⟨0, f 0, rfl, rfl, by omega, Or.inl ⟨rfl, v1, v2⟩⟩, (alw_iff hk).mpr ⟨1, f 1, rfl, rfl, by omega, Or.inr (Or.inl ⟨rfl, v5⟩)⟩, (alw_iff hk).mpr ⟨2, f 2, rfl, rfl, by omega, Or.inr (Or.inr (Or.inl ⟨rfl, v6⟩))⟩, (alw_iff hk).mpr ⟨3, f 3, rfl, rfl, by omega, Or.inr (Or.inr (Or.inr ⟨rfl, v7⟩))⟩⟩
theorem alw_get {v : Int32} {j k : Nat} (hk : k < 6) (hj : j < 4) (h : alw (nI j) v (nI k)) : ∃ n, v = nI n ∧ okN j n k := by
  obtain ⟨j', n, e1, e2, -, e3⟩ := (alw_iff hk).mp h
  have hj' : j' < 4 := by rcases e3 with ⟨q, _⟩ | ⟨q, _⟩ | ⟨q, _⟩ | ⟨q, _⟩ <;> omega
  have := (nI_eq (by omega) (by omega)).mp e1
  subst this
  exact ⟨n, e2, e3⟩
theorem vQ_of {x y z u w : Int32} (h1 : ¬ y < 2) (h2 : y ≤ 5) (h3 : alw 0 x y) (h4 : alw 1 z y) (h5 : alw 2 u y) (h6 : alw 3 w y) : ∃ f, vQ x y z u w f := by
  obtain ⟨k, hk, rfl⟩ := nI_of2 (M := 5) (n := 5) rfl (fun q => h1 (Int32.lt_trans q (by decide))) h2
  have hk2 : 2 ≤ k := by
    rcases Nat.lt_or_ge k 2 with q | q
    · exact absurd (nI_lt (b := 2) q (by decide)) h1
    · exact q
  obtain ⟨a, rfl, a1⟩ := alw_get (j := 0) (by omega) (by decide) h3
  obtain ⟨b, rfl, b1⟩ := alw_get (j := 1) (by omega) (by decide) h4
  obtain ⟨c, rfl, c1⟩ := alw_get (j := 2) (by omega) (by decide) h5
  obtain ⟨d, rfl, d1⟩ := alw_get (j := 3) (by omega) (by decide) h6
  refine ⟨fun i => if i = 0 then a else if i = 1 then b else if i = 2 then c else if i = 3 then d else k, ⟨?_, ?_, hk2, hk, ?_, ?_, ?_⟩, rfl, rfl, rfl, rfl, rfl⟩
  · rcases a1 with ⟨_, p, q⟩ | ⟨q, _⟩ | ⟨q, _⟩ | ⟨q, _⟩
    · exact p
    · exact absurd q (by decide)
    · exact absurd q (by decide)
    · exact absurd q (by decide)
  · rcases a1 with ⟨_, p, q⟩ | ⟨q, _⟩ | ⟨q, _⟩ | ⟨q, _⟩
    · exact q
    · exact absurd q (by decide)
    · exact absurd q (by decide)
    · exact absurd q (by decide)
  · rcases b1 with ⟨q, _⟩ | ⟨_, q⟩ | ⟨q, _⟩ | ⟨q, _⟩
    · exact absurd q (by decide)
    · exact q
    · exact absurd q (by decide)
    · exact absurd q (by decide)
  · rcases c1 with ⟨q, _⟩ | ⟨q, _⟩ | ⟨_, q⟩ | ⟨q, _⟩
    · exact absurd q (by decide)
    · exact absurd q (by decide)
    · exact q
    · exact absurd q (by decide)
  · rcases d1 with ⟨q, _⟩ | ⟨q, _⟩ | ⟨q, _⟩ | ⟨_, q⟩
    · exact absurd q (by decide)
    · exact absurd q (by decide)
    · exact absurd q (by decide)
    · exact q
def adA (A : AS) (f : Nat → Nat) : AS := (anq A + 1, fun i w => if i = anq A then f w else aqd A i w, anv A, asd A, aln A, 0, asv A, amk A)
def aAdd (A : AS) (x y z u w r : Int32) : Prop := ((¬ ∃ f, vQ x y z u w f) ∧ r = -1001) ∨ ((∃ f, vQ x y z u w f) ∧ ans A ≠ 0 ∧ r = -1002) ∨ ((∃ f, vQ x y z u w f) ∧ ans A = 0 ∧ anq A = 20 ∧ r = -1003)
theorem s_add {I : ZI} {A : AS} {hc : Nat} {Hh : Nat → AS} {tc : Nat} {bf : Nat → Nat} {x y z u w : Int32} (h : CI I A hc Hh tc bf) : ZP yX9_add cX9_add 6 (some FieldType.int) 6 [.ref 0, .int x, .int y, .int z, .int u, .int w] Sg I (fun r J => (∀ a, 259 ≤ a → J a = I a) ∧ ((∃ a, r = some (.int a) ∧ aAdd A x y z u w a ∧ CI J A hc Hh tc bf) ∨ (∃ f, vQ x y z u w f ∧ ans A = 0 ∧ anq A < 20 ∧ r = some (.int (nI (anq A))) ∧ CI J (adA A f) (phc hc) (pHh hc Hh A) tc bf))) := by
  have h0 := at_tv
  have hn1 := at_now.1
  have hs0 := at_sheets.1
  have hq0 := at_q.1
  have hns := h.2.1.2.2.2.2.1
  have hn := h.2.1.1.1
  have hcnt : I 7 5 = nI (ans A) := h.1.2.2.2.2.1
  have hq1 : I 2 1 = nI (anq A) := h.1.1.1
  refine ZSp.of (own := RX9) (L := [.ref 0, .int x, .int y, .int z, .int u, .int w]) mX9_add rfl (List.all_eq_true.mp rfl) (Nat.le_of_ble_eq_true rfl) rfl (fun X hE hN => ?_)
  have bad : (¬ ∃ f, vQ x y z u w f) → (ZG X RX9 cX9_add 6 6 0 0 0 0 48 [.ref 0, .int x, .int y, .int z, .int u, .int w] [] Sg I) := by
    intro hw
    refine z_sipush (v := -1001) dX9_add_48 rfl ?_
    exact z_iret hE dX9_add_51 ⟨rfl, fun _ _ => rfl, Or.inl ⟨_, rfl, Or.inl ⟨hw, rfl⟩, h⟩⟩
  refine z_iload_n dX9_add_0 rfl ?_
  refine z_iconst (v := 2) dX9_add_1 rfl ?_
  refine z_icmp_lt (tgt := 48) dX9_add_2 (by decide) (fun g1 => ?_) (fun g1 => ?_)
  · exact bad (fun ⟨f, hf⟩ => (vQ_alw hf).1 g1)
  · refine z_iload_n dX9_add_5 rfl ?_
    refine z_iconst (v := 5) dX9_add_6 rfl ?_
    refine z_icmp_gt (tgt := 48) dX9_add_7 (by decide) (fun g2 => ?_) (fun g2 => ?_)
    · exact bad (fun ⟨f, hf⟩ => absurd (vQ_alw hf).2.1 (Int32.not_le.mpr g2))
    · refine z_iconst (v := 0) dX9_add_10 rfl ?_
      refine z_iload_n dX9_add_11 rfl ?_
      refine z_iload_n dX9_add_12 rfl ?_
      by_cases a1 : alw 0 x y
      · refine z_cS3s mX5_allows gRX9_60 dX9_add_13 (s_allows (r := 1) (fun _ => rfl) (fun q => absurd a1 q)) (by decide) (Nat.le_of_ble_eq_true rfl) (Nat.le_refl _) (Nat.le_refl _) ?_
        refine z_if_eq (tgt := 48) dX9_add_16 (by decide) (fun hb => absurd hb (by decide)) (fun _ => ?_)
        refine z_iconst (v := 1) dX9_add_19 rfl ?_
        refine z_iload_n dX9_add_20 rfl ?_
        refine z_iload_n dX9_add_21 rfl ?_
        by_cases a2 : alw 1 z y
        · refine z_cS3s mX5_allows gRX9_60 dX9_add_22 (s_allows (r := 1) (fun _ => rfl) (fun q => absurd a2 q)) (by decide) (Nat.le_of_ble_eq_true rfl) (Nat.le_refl _) (Nat.le_refl _) ?_
          refine z_if_eq (tgt := 48) dX9_add_25 (by decide) (fun hb => absurd hb (by decide)) (fun _ => ?_)
          refine z_iconst (v := 2) dX9_add_28 rfl ?_
          refine z_iload dX9_add_29 rfl ?_
          refine z_iload_n dX9_add_31 rfl ?_
          by_cases a3 : alw 2 u y
          · refine z_cS3s mX5_allows gRX9_60 dX9_add_32 (s_allows (r := 1) (fun _ => rfl) (fun q => absurd a3 q)) (by decide) (Nat.le_of_ble_eq_true rfl) (Nat.le_refl _) (Nat.le_refl _) ?_
            refine z_if_eq (tgt := 48) dX9_add_35 (by decide) (fun hb => absurd hb (by decide)) (fun _ => ?_)
            refine z_iconst (v := 3) dX9_add_38 rfl ?_
            refine z_iload dX9_add_39 rfl ?_
            refine z_iload_n dX9_add_41 rfl ?_
            by_cases a4 : alw 3 w y
            · refine z_cS3s mX5_allows gRX9_60 dX9_add_42 (s_allows (r := 1) (fun _ => rfl) (fun q => absurd a4 q)) (by decide) (Nat.le_of_ble_eq_true rfl) (Nat.le_refl _) (Nat.le_refl _) ?_
              refine z_if_ne (tgt := 52) dX9_add_45 (by decide) (fun _ => ?_) (fun hb => absurd hb (by decide))
              refine z_aload_n dX9_add_52 rfl ?_
              refine z_getR fRX9_10 dX9_add_53 (by first | assumption | rfl) (by rfl) ?_
              refine z_getR fRX9_66 dX9_add_56 (by first | assumption | rfl) (by rfl) ?_
              refine z_getI fRX9_70 dX9_add_59 (by first | assumption | rfl) (by rfl) ?_
              obtain ⟨f, hf⟩ := vQ_of g1 (Int32.not_lt.mp g2) a1 a2 a3 a4
              by_cases hz : ans A = 0
              · refine z_if_le (tgt := 69) dX9_add_62 (by decide) (fun _ => ?_) (fun hb => absurd (by rw [hcnt, hz]; decide) hb)
                refine z_aload_n dX9_add_69 rfl ?_
                refine z_getR fRX9_10 dX9_add_70 (by first | assumption | rfl) (by rfl) ?_
                refine z_getR fRX9_76 dX9_add_73 (by first | assumption | rfl) (by rfl) ?_
                refine z_getI fRX9_80 dX9_add_76 (by first | assumption | rfl) (by rfl) ?_
                refine z_bipush (v := 20) dX9_add_79 rfl ?_
                rw [hq1]
                by_cases hv : anq A = 20
                · refine z_icmp_lt (tgt := 88) dX9_add_81 (by decide) (fun hb => absurd hb (by rw [hv]; decide)) (fun _ => ?_)
                  refine z_sipush (v := -1003) dX9_add_84 rfl ?_
                  exact z_iret hE dX9_add_87 ⟨rfl, fun _ _ => rfl, Or.inl ⟨_, rfl, Or.inr (Or.inr ⟨⟨f, hf⟩, hz, hv, rfl⟩), h⟩⟩
                · have hv2 : anq A < 20 := by omega
                  refine z_icmp_lt (tgt := 88) dX9_add_81 (by decide) (fun _ => ?_) (fun hb => absurd (nI_lt (b := 20) hv2 (by decide)) hb)
                  refine z_aload_n dX9_add_88 rfl ?_
                  refine z_cV0p mX9_beginChange gRX9_81 dX9_add_89 (s_beginChange h) (by decide) (by first | assumption | rfl) (by rfl) (Nat.le_of_ble_eq_true rfl) (Nat.le_refl _) (Nat.le_refl _) (fun r J hq => ?_)
                  obtain ⟨rfl, b1, b2⟩ := hq
                  refine z_aload_n dX9_add_92 rfl ?_
                  refine z_getR fRX9_10 dX9_add_93 (by first | assumption | rfl) (by rfl) ?_
                  refine z_getR fRX9_76 dX9_add_96 (by first | assumption | rfl) (by rfl) ?_
                  refine z_iload_n dX9_add_99 rfl ?_
                  refine z_iload_n dX9_add_100 rfl ?_
                  refine z_iload_n dX9_add_101 rfl ?_
                  refine z_iload dX9_add_102 rfl ?_
                  refine z_iload dX9_add_104 rfl ?_
                  refine z_cV5s mX5_append gRX9_84 dX9_add_106 (s_qAppend at_q b2.1.1.1 hv2) (by decide) (by first | assumption | rfl) (by rfl) (Nat.le_of_ble_eq_true rfl) (Nat.le_refl _) (Nat.le_refl _) ?_
                  have hk : ∀ a, a ≠ 2 → a ≠ 4 → (zup (zup (zup (zup (zup (zup J 2 1 (nI (anq A + 1))) (2 + 1 + 1) (5 * anq A + 0) x) (2 + 1 + 1) (5 * anq A + 1) z) (2 + 1 + 1) (5 * anq A + 2) u) (2 + 1 + 1) (5 * anq A + 3) w) (2 + 1 + 1) (5 * anq A + 4) y) a = J a := fun a q1 q2 => by rw [zup_ne _ _ _ q2, zup_ne _ _ _ q2, zup_ne _ _ _ q2, zup_ne _ _ _ q2, zup_ne _ _ _ q2, zup_ne _ _ _ q1]
                  refine z_iret hE dX9_add_109 ⟨rfl, fun a ha => by rw [hk _ (by omega) (by omega), b1 a (by omega)], Or.inr ⟨f, hf, hz, hv2, rfl, z_toCI b2 ?_ ?_ (fun a ha => hk a (by omega) (by omega))⟩⟩
                  · obtain ⟨s1, s2, s3, s4, s5, s6⟩ := b2.1
                    refine z_sc0 rfl ⟨?_, ?_⟩ (by rw [hk _ (by decide) (by decide)]; exact s2) (fun v hv => by rw [hk _ (by decide) (by decide)]; exact s3 v hv) (by rw [hk _ (by decide) (by decide)]; exact s4) (by rw [hk _ (by decide) (by decide), ← nI_0, ← hz]; exact s5)
                    · rw [zup_ne _ _ _ (by decide), zup_ne _ _ _ (by decide), zup_ne _ _ _ (by decide), zup_ne _ _ _ (by decide), zup_ne _ _ _ (by decide), zup_at, upd_at]
                      rfl
                    · intro i hi k hk5
                      obtain ⟨-, rfl, rfl, rfl, rfl, rfl⟩ := hf
                      show _ = nI (if i = anq A then f k else aqd A i k)
                      have hi2 : i < anq A + 1 := hi
                      by_cases e : i = anq A
                      · subst e
                        rw [if_pos rfl]
                        match k, hk5 with
                        | 0, _ => rw [zup_at, upd_ne _ _ (by omega), zup_at, upd_ne _ _ (by omega), zup_at, upd_ne _ _ (by omega), zup_at, upd_ne _ _ (by omega), zup_at, upd_at]
                        | 1, _ => rw [zup_at, upd_ne _ _ (by omega), zup_at, upd_ne _ _ (by omega), zup_at, upd_ne _ _ (by omega), zup_at, upd_at]
                        | 2, _ => rw [zup_at, upd_ne _ _ (by omega), zup_at, upd_ne _ _ (by omega), zup_at, upd_at]
                        | 3, _ => rw [zup_at, upd_ne _ _ (by omega), zup_at, upd_at]
                        | 4, _ => rw [zup_at, upd_at]
                      · rw [if_neg e, zup_at, upd_ne _ _ (by omega), zup_at, upd_ne _ _ (by omega), zup_at, upd_ne _ _ (by omega), zup_at, upd_ne _ _ (by omega), zup_at, upd_ne _ _ (by omega), zup_ne _ _ _ (by decide)]
                        exact s1.2 i (by omega) k hk5
                  · obtain ⟨v1, v2, v3, v4, v5, v6⟩ := h.2.1
                    refine z_av0 rfl ⟨hv2, fun q hq => ?_⟩ v2 v3 v4
                    show 1 ≤ (if q = anq A then f 0 else aqd A q 0) ∧ (if q = anq A then f 0 else aqd A q 0) ≤ 9 ∧ 2 ≤ (if q = anq A then f 4 else aqd A q 4) ∧ (if q = anq A then f 4 else aqd A q 4) ≤ 5 ∧ (if q = anq A then f 1 else aqd A q 1) < (if q = anq A then f 4 else aqd A q 4) ∧ (if q = anq A then f 2 else aqd A q 2) < 2 ^ (if q = anq A then f 4 else aqd A q 4) ∧ (if q = anq A then f 3 else aqd A q 3) ≤ 5
                    have hq2 : q < anq A + 1 := hq
                    by_cases e : q = anq A
                    · simp only [if_pos e]; exact hf.1
                    · simp only [if_neg e]; exact v1.2 q (by omega)
              · refine z_if_le (tgt := 69) dX9_add_62 (by decide) (fun hb => absurd hb (by rw [hcnt]; exact nI_nle (by omega) (by omega))) (fun _ => ?_)
                refine z_sipush (v := -1002) dX9_add_65 rfl ?_
                exact z_iret hE dX9_add_68 ⟨rfl, fun _ _ => rfl, Or.inl ⟨_, rfl, Or.inr (Or.inl ⟨⟨f, hf⟩, hz, rfl⟩), h⟩⟩
            · refine z_cS3s mX5_allows gRX9_60 dX9_add_42 (s_allows (r := 0) (fun q => absurd q a4) (fun _ => rfl)) (by decide) (Nat.le_of_ble_eq_true rfl) (Nat.le_refl _) (Nat.le_refl _) ?_
              refine z_if_ne (tgt := 52) dX9_add_45 (by decide) (fun hb => absurd (rfl) hb) (fun _ => ?_)
              exact bad (fun ⟨f, hf⟩ => a4 (vQ_alw hf).2.2.2.2.2)
          · refine z_cS3s mX5_allows gRX9_60 dX9_add_32 (s_allows (r := 0) (fun q => absurd q a3) (fun _ => rfl)) (by decide) (Nat.le_of_ble_eq_true rfl) (Nat.le_refl _) (Nat.le_refl _) ?_
            refine z_if_eq (tgt := 48) dX9_add_35 (by decide) (fun _ => ?_) (fun hb => absurd (rfl) hb)
            exact bad (fun ⟨f, hf⟩ => a3 (vQ_alw hf).2.2.2.2.1)
        · refine z_cS3s mX5_allows gRX9_60 dX9_add_22 (s_allows (r := 0) (fun q => absurd q a2) (fun _ => rfl)) (by decide) (Nat.le_of_ble_eq_true rfl) (Nat.le_refl _) (Nat.le_refl _) ?_
          refine z_if_eq (tgt := 48) dX9_add_25 (by decide) (fun _ => ?_) (fun hb => absurd (rfl) hb)
          exact bad (fun ⟨f, hf⟩ => a2 (vQ_alw hf).2.2.2.1)
      · refine z_cS3s mX5_allows gRX9_60 dX9_add_13 (s_allows (r := 0) (fun q => absurd q a1) (fun _ => rfl)) (by decide) (Nat.le_of_ble_eq_true rfl) (Nat.le_refl _) (Nat.le_refl _) ?_
        refine z_if_eq (tgt := 48) dX9_add_16 (by decide) (fun _ => ?_) (fun hb => absurd (rfl) hb)
        exact bad (fun ⟨f, hf⟩ => a1 (vQ_alw hf).2.2.1)

