/-! ===== the model: a sheet's right and wrong places -/
theorem q_counts {I : ZI} {A : AS} {t : Nat} {x : Int32} {Kf : Nat → Nat} (h : RV (I 260) A) (hV : AV A) (hx : x = nI t) (ht : t < ans A) (hK : ∀ p, p < anq A → I 263 p = nI (Kf p) ∧ Kf p < 5) : ZE yX10_counts cX10_counts 5 (some FieldType.int) 1 [.ref 259, .int x] Sg I (some (.int (nI (100 * cR (amk A t) Kf (anq A) + cW (amk A t) Kf (anq A))))) I := by
  have g0 := m_obj
  have hn := hV.1.1
  have hns := hV.2.2.2.2.1
  subst hx
  refine ZSp.of (own := RX10) (L := [.ref 259, .int (nI t), zj, zj, zj]) mX10_counts rfl (List.all_eq_true.mp rfl) (Nat.le_of_ble_eq_true rfl) rfl (fun X hE hN => ?_)
  have loop : ∀ (m p : Nat), p + m = anq A → (ZG X RX10 cX10_counts 5 1 0 0 0 0 4 [.ref 259, .int (nI t), .int (nI (100 * cR (amk A t) Kf p + cW (amk A t) Kf p)), .int (nI p), zj] [] Sg I) := by
    intro m
    induction m with
    | zero =>
      intro p hp
      have e : p = anq A := by omega
      subst e
      refine z_iload_n dX10_counts_4 rfl ?_
      refine z_aload_n dX10_counts_5 rfl ?_
      refine z_getR fRX10_7 dX10_counts_6 (by first | assumption | rfl) (by rfl) ?_
      refine z_iconst (v := 0) dX10_counts_9 rfl ?_
      refine z_ialdN (j := 0) dX10_counts_10 m_v (rfl) (by decide) (by decide) ?_
      rw [h.1]
      refine z_icmp_ge (tgt := 67) dX10_counts_11 (by decide) (fun _ => ?_) (fun hb => absurd (nI_le (Nat.le_refl _) (by omega)) hb)
      refine z_iload_n dX10_counts_67 rfl ?_
      exact z_eireturn hE dX10_counts_68 rfl rfl
    | succ m ih =>
      intro p hp
      have hp1 : p < anq A := by omega
      have e1 : cR (amk A t) Kf (p + 1) = cR (amk A t) Kf p + (if amk A t p = some (Kf p) then 1 else 0) := rfl
      have e2 : cW (amk A t) Kf (p + 1) = cW (amk A t) Kf p + (if amk A t p ≠ none ∧ amk A t p ≠ some (Kf p) then 1 else 0) := rfl
      have hm5 : ∀ k, amk A t p = some k → k < 5 := by
        intro k hk
        have c1 := (hV.2.2.2.2.2 t ht).2 p hp1 k hk
        have c2 := (hV.1.2 _ ((Od_en (anq A) (aqd A) (asd A (asv A t))).1 p hp1)).2.2.2.1
        exact Nat.lt_of_lt_of_le c1 c2
      have nxt := ih (p + 1) (by omega)
      rw [e1, e2] at nxt
      have stp : ∀ (d : Nat) (w : Int32), 100 * (cR (amk A t) Kf p + (if amk A t p = some (Kf p) then 1 else 0)) + (cW (amk A t) Kf p + (if amk A t p ≠ none ∧ amk A t p ≠ some (Kf p) then 1 else 0)) = 100 * cR (amk A t) Kf p + cW (amk A t) Kf p + d → (ZG X RX10 cX10_counts 5 1 0 0 0 0 59 [.ref 259, .int (nI t), .int (nI (100 * cR (amk A t) Kf p + cW (amk A t) Kf p)), .int (nI p), .int w] [.int (nI d), .int (nI (100 * cR (amk A t) Kf p + cW (amk A t) Kf p))] Sg I) := by
        intro d w hd
        rw [hd] at nxt
        refine z_iadd dX10_counts_59 ?_
        refine z_ist2 dX10_counts_60 (by decide) rfl ?_
        refine z_inc3 (w := 1) dX10_counts_61 rfl (by decide) rfl ?_
        refine z_goto (tgt := 4) dX10_counts_64 (by decide) ?_
        rw [nI_add, nI_1]
        refine z_fg4 ?_
        exact nxt
      refine z_iload_n dX10_counts_4 rfl ?_
      refine z_aload_n dX10_counts_5 rfl ?_
      refine z_getR fRX10_7 dX10_counts_6 (by first | assumption | rfl) (by rfl) ?_
      refine z_iconst (v := 0) dX10_counts_9 rfl ?_
      refine z_ialdN (j := 0) dX10_counts_10 m_v (rfl) (by decide) (by decide) ?_
      rw [h.1]
      refine z_icmp_ge (tgt := 67) dX10_counts_11 (by decide) (fun hb => absurd hb (nI_ge (by omega) (by omega))) (fun _ => ?_)
      refine z_aload_n dX10_counts_14 rfl ?_
      refine z_getR fRX10_7 dX10_counts_15 (by first | assumption | rfl) (by rfl) ?_
      refine z_iload_n dX10_counts_18 rfl ?_
      refine z_cS1s mX10_sheetAt gRX10_133 dX10_counts_19 (q_sheetAt rfl) (by decide) (Nat.le_of_ble_eq_true rfl) (Nat.le_refl _) (Nat.le_refl _) ?_
      refine z_iconst (v := 1) dX10_counts_22 rfl ?_
      refine z_iadd dX10_counts_23 ?_
      refine z_iload_n dX10_counts_24 rfl ?_
      refine z_iadd dX10_counts_25 ?_
      refine z_ialdN dX10_counts_26 m_v (show nI (116 + 21 * t) + 1 + nI p = nI (116 + 21 * t + 1 + p) from by rw [nI_1, nI_add]) (by omega) (by decide) ?_
      rw [(h.2.2.2.2.2.2 t ht).2 p hp1]
      cases em : amk A t p with
      | none =>
        rw [em] at stp
        have n1 : ¬ (none : Option Nat) = some (Kf p) := by
          intro z
          cases z
        refine z_ist4 dX10_counts_27 (by decide) rfl ?_
        refine z_iload_n dX10_counts_29 rfl ?_
        refine z_iload dX10_counts_30 rfl ?_
        refine z_sipush (v := -1009) dX10_counts_32 rfl ?_
        refine z_icmp_ne (tgt := 42) dX10_counts_35 (by decide) (fun hb => absurd (rfl) hb) (fun _ => ?_)
        refine z_iconst (v := 0) dX10_counts_38 rfl ?_
        refine z_goto (tgt := 59) dX10_counts_39 (by decide) ?_
        exact stp 0 _ (by rw [if_neg n1, if_neg (fun z => z.1 rfl)]; omega)
      | some k =>
        rw [em] at stp
        have hk5 := hm5 k em
        have nn : ¬ (mrk (some k) = -1009) := by
          intro z
          have z2 : nI k = -1009 := z
          have z3 := nI_pos (n := k) (by omega)
          rw [z2] at z3
          exact z3 (by decide)
        refine z_ist4 dX10_counts_27 (by decide) rfl ?_
        refine z_iload_n dX10_counts_29 rfl ?_
        refine z_iload dX10_counts_30 rfl ?_
        refine z_sipush (v := -1009) dX10_counts_32 rfl ?_
        refine z_icmp_ne (tgt := 42) dX10_counts_35 (by decide) (fun _ => ?_) (fun hb => absurd hb (nn))
        refine z_iload dX10_counts_42 rfl ?_
        refine z_aload_n dX10_counts_44 rfl ?_
        refine z_getR fRX10_19 dX10_counts_45 (by first | assumption | rfl) (by rfl) ?_
        refine z_iload_n dX10_counts_48 rfl ?_
        refine z_ialdN dX10_counts_49 m_key (rfl) (by omega) (by decide) ?_
        rw [(hK p hp1).1]
        have hK5 := (hK p hp1).2
        by_cases e : k = Kf p
        · subst e
          refine z_icmp_ne (tgt := 58) dX10_counts_50 (by decide) (fun hb => absurd (rfl) hb) (fun _ => ?_)
          refine z_bipush (v := 100) dX10_counts_53 rfl ?_
          refine z_goto (tgt := 59) dX10_counts_55 (by decide) ?_
          exact stp 100 _ (by rw [if_pos rfl, if_neg (fun z => z.2 rfl)]; omega)
        · refine z_icmp_ne (tgt := 58) dX10_counts_50 (by decide) (fun _ => ?_) (fun hb => absurd hb (fun z => e ((nI_eq (by omega) (by omega)).mp z)))
          refine z_iconst (v := 1) dX10_counts_58 rfl ?_
          have n2 : ¬ (some k = some (Kf p)) := fun z => e (Option.some.inj z)
          have n3 : (some k ≠ none ∧ some k ≠ some (Kf p)) := ⟨(by intro z; cases z), n2⟩
          exact stp 1 _ (by rw [if_neg n2, if_pos n3]; omega)
  refine z_iconst (v := 0) dX10_counts_0 rfl ?_
  refine z_ist2 dX10_counts_1 (by decide) rfl ?_
  refine z_iconst (v := 0) dX10_counts_2 rfl ?_
  refine z_ist3 dX10_counts_3 (by decide) rfl ?_
  exact loop (anq A) 0 (by omega)

