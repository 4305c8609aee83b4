/-! ===== the model: alike ===== -/
theorem cntN_zero {P : Nat → Prop} : ∀ {n : Nat}, (∀ k, k < n → ¬ P k) → cntN P n = 0
  | 0, _ => rfl
  | n + 1, h => by rw [cntN_no (h n (Nat.lt_succ_self n))]; exact cntN_zero (fun k hk => h k (by omega))
theorem cntN_uniq {P : Nat → Prop} {i : Nat} (hP : P i) : ∀ {n : Nat}, i < n → (∀ j, j < n → P j → j = i) → cntN P n = 1
  | 0, hi, _ => absurd hi (Nat.not_lt_zero i)
  | n + 1, hi, hu => by
    by_cases e : i = n
    · subst e
      rw [cntN_yes hP, cntN_zero (fun k hk hq => by have := hu k (by omega) hq; omega)]
    · rw [cntN_no (fun hq => by have := hu n (Nat.lt_succ_self n) hq; omega)]
      exact cntN_uniq hP (by omega) (fun j hj hq => hu j (by omega) hq)
noncomputable def sm2 (R : Nat → Nat → Prop) (n : Nat) : Nat → Nat
  | 0 => 0
  | m + 1 => sm2 R n m + cntN (R m) n
theorem sm2_0 (R : Nat → Nat → Prop) : ∀ m, sm2 R 0 m = 0
  | 0 => rfl
  | m + 1 => sm2_0 R m
theorem sm2_s (R : Nat → Nat → Prop) (n : Nat) : ∀ m, sm2 R (n + 1) m = sm2 R n m + cntN (fun p => R p n) m
  | 0 => rfl
  | m + 1 => by
    have ih := sm2_s R n m
    show sm2 R (n + 1) m + cntN (R m) (n + 1) = sm2 R n m + cntN (R m) n + cntN (fun p => R p n) (m + 1)
    by_cases h : R m n
    · rw [cntN_yes (P := R m) h, cntN_yes (P := fun p => R p n) h, ih]; omega
    · rw [cntN_no (P := R m) h, cntN_no (P := fun p => R p n) h, ih]; omega
theorem sm2_cnt {R : Nat → Nat → Prop} {Q : Nat → Prop} {m : Nat} : ∀ {n : Nat}, (∀ k, k < n → Q k → cntN (fun p => R p k) m = 1) → (∀ k, k < n → ¬ Q k → cntN (fun p => R p k) m = 0) → sm2 R n m = cntN Q n
  | 0, _, _ => sm2_0 R m
  | n + 1, h1, h0 => by
    have ih := sm2_cnt (R := R) (Q := Q) (m := m) (n := n) (fun k hk => h1 k (by omega)) (fun k hk => h0 k (by omega))
    rw [sm2_s, ih]
    by_cases h : Q n
    · rw [h1 n (Nat.lt_succ_self n) h, cntN_yes h]
    · rw [h0 n (Nat.lt_succ_self n) h, cntN_no h]; rfl
theorem sm2_le (R : Nat → Nat → Prop) (n : Nat) : ∀ m, sm2 R n m ≤ n * m
  | 0 => Nat.zero_le _
  | m + 1 => by
    have ih := sm2_le R n m
    have := cntN_le (R m) n
    show sm2 R n m + cntN (R m) n ≤ n * (m + 1)
    rw [Nat.mul_succ]
    omega
def cmR (O1 O2 : Nat → Nat) (p k : Nat) : Prop := 1 ≤ p ∧ 1 ≤ k ∧ O1 p = O2 k ∧ O1 (p - 1) = O2 (k - 1)
noncomputable def cmN (x : Int32) (O1 O2 K1 K2 : Nat → Nat) (n : Nat) : Nat := if x = 0 then cntN (fun p => O1 p = O2 p) n else if x = 1 then cntN (fun p => K1 p = K2 p) n else sm2 (cmR O1 O2) n n
theorem q_common {I : ZI} {A : AS} {x : Int32} {O1 O2 K1 K2 : Nat → Nat} (h : RV (I 260) A) (hn : anq A ≤ 20) (hx : is02 x) (a1 : ∀ p, p < anq A → I 262 p = nI (O1 p) ∧ O1 p < 1000) (a2 : ∀ p, p < anq A → I 269 p = nI (O2 p) ∧ O2 p < 1000) (a3 : ∀ p, p < anq A → I 263 p = nI (K1 p) ∧ K1 p < 1000) (a4 : ∀ p, p < anq A → I 270 p = nI (K2 p) ∧ K2 p < 1000) : ZE yX10_common cX10_common 5 (some FieldType.int) 0 [.ref 259, .int x] Sg I (some (.int (nI (cmN x O1 O2 K1 K2 (anq A))))) I := by
  have g0 := m_obj
  refine ZSp.of (own := RX10) (L := [.ref 259, .int x, zj, zj, zj]) mX10_common rfl (List.all_eq_true.mp rfl) (Nat.le_of_ble_eq_true rfl) rfl (fun X hE hN => ?_)
  refine z_iconst (v := 0) dX10_common_0 rfl ?_
  refine z_ist2 dX10_common_1 (by decide) rfl ?_
  refine z_iconst (v := 0) dX10_common_2 rfl ?_
  refine z_ist3 dX10_common_3 (by decide) rfl ?_
  rcases hx with rfl | rfl | rfl
  · have loop : ∀ (m p : Nat), p + m = anq A → (ZG X RX10 cX10_common 5 0 0 0 0 0 4 [.ref 259, .int 0, .int (nI (cntN (fun p => O1 p = O2 p) p)), .int (nI p), zj] [] Sg I) := by
      intro m
      induction m with
      | zero =>
        intro p hp
        have e : p = anq A := by omega
        subst e
        refine z_iload_n dX10_common_4 rfl ?_
        refine z_aload_n dX10_common_5 rfl ?_
        refine z_getR fRX10_7 dX10_common_6 (by first | assumption | rfl) (by rfl) ?_
        refine z_iconst (v := 0) dX10_common_9 rfl ?_
        refine z_ialdN (j := 0) dX10_common_10 m_v (rfl) (by decide) (by decide) ?_
        rw [h.1]
        refine z_icmp_ge (tgt := 146) dX10_common_11 (by decide) (fun _ => ?_) (fun hb => absurd (nI_le (Nat.le_refl _) (by omega)) hb)
        refine z_iload_n dX10_common_146 rfl ?_
        exact z_eireturn hE dX10_common_147 rfl rfl
      | succ m ih =>
        intro p hp
        have hp1 : p < anq A := by omega
        have nxt := ih (p + 1) (by omega)
        have l1 := (a1 p hp1).2
        have l2 := (a2 p hp1).2
        refine z_iload_n dX10_common_4 rfl ?_
        refine z_aload_n dX10_common_5 rfl ?_
        refine z_getR fRX10_7 dX10_common_6 (by first | assumption | rfl) (by rfl) ?_
        refine z_iconst (v := 0) dX10_common_9 rfl ?_
        refine z_ialdN (j := 0) dX10_common_10 m_v (rfl) (by decide) (by decide) ?_
        rw [h.1]
        refine z_icmp_ge (tgt := 146) dX10_common_11 (by decide) (fun hb => absurd hb (nI_ge (by omega) (by omega))) (fun _ => ?_)
        refine z_iload_n dX10_common_14 rfl ?_
        refine z_iconst (v := 2) dX10_common_15 rfl ?_
        refine z_icmp_ne (tgt := 90) dX10_common_16 (by decide) (fun _ => ?_) (fun hb => absurd hb (by decide))
        refine z_iload_n dX10_common_90 rfl ?_
        refine z_iload_n dX10_common_91 rfl ?_
        refine z_if_ne (tgt := 118) dX10_common_92 (by decide) (fun hb => absurd (rfl) hb) (fun _ => ?_)
        refine z_aload_n dX10_common_95 rfl ?_
        refine z_getR fRX10_16 dX10_common_96 (by first | assumption | rfl) (by rfl) ?_
        refine z_iload_n dX10_common_99 rfl ?_
        refine z_ialdN dX10_common_100 m_order (rfl) (by omega) (by decide) ?_
        rw [(a1 p hp1).1]
        refine z_aload_n dX10_common_101 rfl ?_
        refine z_getR fRX10_37 dX10_common_102 (by first | assumption | rfl) (by rfl) ?_
        refine z_iload_n dX10_common_105 rfl ?_
        refine z_ialdN dX10_common_106 m_fOrder (rfl) (by omega) (by decide) ?_
        rw [(a2 p hp1).1]
        refine z_icmp_ne (tgt := 114) dX10_common_107 (by decide) (fun hb => ?_) (fun hb => ?_)
        · refine z_iconst (v := 0) dX10_common_114 rfl ?_
          refine z_goto (tgt := 138) dX10_common_115 (by decide) ?_
          refine z_iadd dX10_common_138 ?_
          refine z_ist2 dX10_common_139 (by decide) rfl ?_
          refine z_inc3 (w := 1) dX10_common_140 rfl (by decide) rfl ?_
          refine z_goto (tgt := 4) dX10_common_143 (by decide) ?_
          rw [cntN_no (P := fun p => O1 p = O2 p) (fun z => hb (congrArg nI z))] at nxt
          rw [Int32.add_zero, nI_1]
          exact nxt
        · refine z_iconst (v := 1) dX10_common_110 rfl ?_
          refine z_goto (tgt := 138) dX10_common_111 (by decide) ?_
          refine z_iadd dX10_common_138 ?_
          refine z_ist2 dX10_common_139 (by decide) rfl ?_
          refine z_inc3 (w := 1) dX10_common_140 rfl (by decide) rfl ?_
          refine z_goto (tgt := 4) dX10_common_143 (by decide) ?_
          rw [cntN_yes (P := fun p => O1 p = O2 p) ((nI_eq (by omega) (by omega)).mp hb)] at nxt
          rw [nI_1, nI_1]
          exact nxt
    exact loop (anq A) 0 (by omega)
  · have loop : ∀ (m p : Nat), p + m = anq A → (ZG X RX10 cX10_common 5 0 0 0 0 0 4 [.ref 259, .int 1, .int (nI (cntN (fun p => K1 p = K2 p) p)), .int (nI p), zj] [] Sg I) := by
      intro m
      induction m with
      | zero =>
        intro p hp
        have e : p = anq A := by omega
        subst e
        refine z_iload_n dX10_common_4 rfl ?_
        refine z_aload_n dX10_common_5 rfl ?_
        refine z_getR fRX10_7 dX10_common_6 (by first | assumption | rfl) (by rfl) ?_
        refine z_iconst (v := 0) dX10_common_9 rfl ?_
        refine z_ialdN (j := 0) dX10_common_10 m_v (rfl) (by decide) (by decide) ?_
        rw [h.1]
        refine z_icmp_ge (tgt := 146) dX10_common_11 (by decide) (fun _ => ?_) (fun hb => absurd (nI_le (Nat.le_refl _) (by omega)) hb)
        refine z_iload_n dX10_common_146 rfl ?_
        exact z_eireturn hE dX10_common_147 rfl rfl
      | succ m ih =>
        intro p hp
        have hp1 : p < anq A := by omega
        have nxt := ih (p + 1) (by omega)
        have l1 := (a3 p hp1).2
        have l2 := (a4 p hp1).2
        refine z_iload_n dX10_common_4 rfl ?_
        refine z_aload_n dX10_common_5 rfl ?_
        refine z_getR fRX10_7 dX10_common_6 (by first | assumption | rfl) (by rfl) ?_
        refine z_iconst (v := 0) dX10_common_9 rfl ?_
        refine z_ialdN (j := 0) dX10_common_10 m_v (rfl) (by decide) (by decide) ?_
        rw [h.1]
        refine z_icmp_ge (tgt := 146) dX10_common_11 (by decide) (fun hb => absurd hb (nI_ge (by omega) (by omega))) (fun _ => ?_)
        refine z_iload_n dX10_common_14 rfl ?_
        refine z_iconst (v := 2) dX10_common_15 rfl ?_
        refine z_icmp_ne (tgt := 90) dX10_common_16 (by decide) (fun _ => ?_) (fun hb => absurd hb (by decide))
        refine z_iload_n dX10_common_90 rfl ?_
        refine z_iload_n dX10_common_91 rfl ?_
        refine z_if_ne (tgt := 118) dX10_common_92 (by decide) (fun _ => ?_) (fun hb => absurd hb (by decide))
        refine z_aload_n dX10_common_118 rfl ?_
        refine z_getR fRX10_19 dX10_common_119 (by first | assumption | rfl) (by rfl) ?_
        refine z_iload_n dX10_common_122 rfl ?_
        refine z_ialdN dX10_common_123 m_key (rfl) (by omega) (by decide) ?_
        rw [(a3 p hp1).1]
        refine z_aload_n dX10_common_124 rfl ?_
        refine z_getR fRX10_40 dX10_common_125 (by first | assumption | rfl) (by rfl) ?_
        refine z_iload_n dX10_common_128 rfl ?_
        refine z_ialdN dX10_common_129 m_fKey (rfl) (by omega) (by decide) ?_
        rw [(a4 p hp1).1]
        refine z_icmp_ne (tgt := 137) dX10_common_130 (by decide) (fun hb => ?_) (fun hb => ?_)
        · refine z_iconst (v := 0) dX10_common_137 rfl ?_
          refine z_iadd dX10_common_138 ?_
          refine z_ist2 dX10_common_139 (by decide) rfl ?_
          refine z_inc3 (w := 1) dX10_common_140 rfl (by decide) rfl ?_
          refine z_goto (tgt := 4) dX10_common_143 (by decide) ?_
          rw [cntN_no (P := fun p => K1 p = K2 p) (fun z => hb (congrArg nI z))] at nxt
          rw [Int32.add_zero, nI_1]
          exact nxt
        · refine z_iconst (v := 1) dX10_common_133 rfl ?_
          refine z_goto (tgt := 138) dX10_common_134 (by decide) ?_
          refine z_iadd dX10_common_138 ?_
          refine z_ist2 dX10_common_139 (by decide) rfl ?_
          refine z_inc3 (w := 1) dX10_common_140 rfl (by decide) rfl ?_
          refine z_goto (tgt := 4) dX10_common_143 (by decide) ?_
          rw [cntN_yes (P := fun p => K1 p = K2 p) ((nI_eq (by omega) (by omega)).mp hb)] at nxt
          rw [nI_1, nI_1]
          exact nxt
    exact loop (anq A) 0 (by omega)
  · have loop : ∀ (m p : Nat), p + m = anq A → (ZG X RX10 cX10_common 5 0 0 0 0 0 4 [.ref 259, .int 2, .int (nI (sm2 (cmR O1 O2) (anq A) p)), .int (nI p), zj] [] Sg I) := by
      intro m
      induction m with
      | zero =>
        intro p hp
        have e : p = anq A := by omega
        subst e
        refine z_iload_n dX10_common_4 rfl ?_
        refine z_aload_n dX10_common_5 rfl ?_
        refine z_getR fRX10_7 dX10_common_6 (by first | assumption | rfl) (by rfl) ?_
        refine z_iconst (v := 0) dX10_common_9 rfl ?_
        refine z_ialdN (j := 0) dX10_common_10 m_v (rfl) (by decide) (by decide) ?_
        rw [h.1]
        refine z_icmp_ge (tgt := 146) dX10_common_11 (by decide) (fun _ => ?_) (fun hb => absurd (nI_le (Nat.le_refl _) (by omega)) hb)
        refine z_iload_n dX10_common_146 rfl ?_
        exact z_eireturn hE dX10_common_147 rfl rfl
      | succ m ih =>
        intro p hp
        have hp1 : p < anq A := by omega
        have nxt := ih (p + 1) (by omega)
        have l1 := (a1 p hp1).2
        have out : ∀ (y : Value), (ZG X RX10 cX10_common 5 0 0 0 0 0 87 [.ref 259, .int 2, .int (nI (sm2 (cmR O1 O2) (anq A) (p + 1))), .int (nI p), y] [] Sg I) := by
          intro y
          refine z_goto (tgt := 140) dX10_common_87 (by decide) ?_
          refine z_inc3 (w := 1) dX10_common_140 rfl (by decide) rfl ?_
          refine z_goto (tgt := 4) dX10_common_143 (by decide) ?_
          rw [nI_1]
          refine z_fg4 ?_
          exact nxt
        have e1 : sm2 (cmR O1 O2) (anq A) (p + 1) = sm2 (cmR O1 O2) (anq A) p + cntN (cmR O1 O2 p) (anq A) := rfl
        have inner : 1 ≤ p → ∀ (m k : Nat), k + m = anq A → 1 ≤ k → (ZG X RX10 cX10_common 5 0 0 0 0 0 22 [.ref 259, .int 2, .int (nI (sm2 (cmR O1 O2) (anq A) p + cntN (cmR O1 O2 p) k)), .int (nI p), .int (nI k)] [] Sg I) := by
          intro h1 m
          induction m with
          | zero =>
            intro k hk hk1
            have e : k = anq A := by omega
            subst e
            rw [← e1]
            refine z_iload dX10_common_22 rfl ?_
            refine z_aload_n dX10_common_24 rfl ?_
            refine z_getR fRX10_7 dX10_common_25 (by first | assumption | rfl) (by rfl) ?_
            refine z_iconst (v := 0) dX10_common_28 rfl ?_
            refine z_ialdN (j := 0) dX10_common_29 m_v (rfl) (by decide) (by decide) ?_
            rw [h.1]
            refine z_icmp_ge (tgt := 87) dX10_common_30 (by decide) (fun _ => ?_) (fun hb => absurd (nI_le (Nat.le_refl _) (by omega)) hb)
            exact out _
          | succ m ih2 =>
            intro k hk hk1
            have hk2 : k < anq A := by omega
            have nx2 := ih2 (k + 1) (by omega) (by omega)
            have l2 := (a2 k hk2).2
            have l3 := (a1 (p - 1) (by omega)).2
            have l4 := (a2 (k - 1) (by omega)).2
            have no : ¬ cmR O1 O2 p k → (ZG X RX10 cX10_common 5 0 0 0 0 0 78 [.ref 259, .int 2, .int (nI (sm2 (cmR O1 O2) (anq A) p + cntN (cmR O1 O2 p) k)), .int (nI p), .int (nI k)] [.int (nI (sm2 (cmR O1 O2) (anq A) p + cntN (cmR O1 O2 p) k))] Sg I) := by
              intro hw
              rw [cntN_no hw] at nx2
              refine z_iconst (v := 0) dX10_common_78 rfl ?_
              refine z_iadd dX10_common_79 ?_
              refine z_ist2 dX10_common_80 (by decide) rfl ?_
              refine z_inc4 (w := 1) dX10_common_81 rfl (by decide) rfl ?_
              refine z_goto (tgt := 22) dX10_common_84 (by decide) ?_
              rw [Int32.add_zero, nI_1]
              exact nx2
            refine z_iload dX10_common_22 rfl ?_
            refine z_aload_n dX10_common_24 rfl ?_
            refine z_getR fRX10_7 dX10_common_25 (by first | assumption | rfl) (by rfl) ?_
            refine z_iconst (v := 0) dX10_common_28 rfl ?_
            refine z_ialdN (j := 0) dX10_common_29 m_v (rfl) (by decide) (by decide) ?_
            rw [h.1]
            refine z_icmp_ge (tgt := 87) dX10_common_30 (by decide) (fun hb => absurd hb (nI_ge (by omega) (by omega))) (fun _ => ?_)
            refine z_iload_n dX10_common_33 rfl ?_
            refine z_if_le (tgt := 87) dX10_common_34 (by decide) (fun hb => absurd hb (nI_nle (by omega) (by omega))) (fun _ => ?_)
            refine z_iload_n dX10_common_37 rfl ?_
            refine z_aload_n dX10_common_38 rfl ?_
            refine z_getR fRX10_16 dX10_common_39 (by first | assumption | rfl) (by rfl) ?_
            refine z_iload_n dX10_common_42 rfl ?_
            refine z_ialdN dX10_common_43 m_order (rfl) (by omega) (by decide) ?_
            rw [(a1 p hp1).1]
            refine z_aload_n dX10_common_44 rfl ?_
            refine z_getR fRX10_37 dX10_common_45 (by first | assumption | rfl) (by rfl) ?_
            refine z_iload dX10_common_48 rfl ?_
            refine z_ialdN dX10_common_50 m_fOrder (rfl) (by omega) (by decide) ?_
            rw [(a2 k hk2).1]
            refine z_icmp_ne (tgt := 78) dX10_common_51 (by decide) (fun hb => ?_) (fun hb => ?_)
            · exact no (fun z => hb (congrArg nI z.2.2.1))
            · refine z_aload_n dX10_common_54 rfl ?_
              refine z_getR fRX10_16 dX10_common_55 (by first | assumption | rfl) (by rfl) ?_
              refine z_iload_n dX10_common_58 rfl ?_
              refine z_iconst (v := 1) dX10_common_59 rfl ?_
              refine z_isub dX10_common_60 ?_
              refine z_ialdN dX10_common_61 m_order (pk_sub (b := 1) h1) (by omega) (by decide) ?_
              rw [(a1 (p - 1) (by omega)).1]
              refine z_aload_n dX10_common_62 rfl ?_
              refine z_getR fRX10_37 dX10_common_63 (by first | assumption | rfl) (by rfl) ?_
              refine z_iload dX10_common_66 rfl ?_
              refine z_iconst (v := 1) dX10_common_68 rfl ?_
              refine z_isub dX10_common_69 ?_
              refine z_ialdN dX10_common_70 m_fOrder (pk_sub (b := 1) hk1) (by omega) (by decide) ?_
              rw [(a2 (k - 1) (by omega)).1]
              refine z_icmp_ne (tgt := 78) dX10_common_71 (by decide) (fun hc => ?_) (fun hc => ?_)
              · exact no (fun z => hc (congrArg nI z.2.2.2))
              · refine z_iconst (v := 1) dX10_common_74 rfl ?_
                refine z_goto (tgt := 79) dX10_common_75 (by decide) ?_
                refine z_iadd dX10_common_79 ?_
                refine z_ist2 dX10_common_80 (by decide) rfl ?_
                refine z_inc4 (w := 1) dX10_common_81 rfl (by decide) rfl ?_
                refine z_goto (tgt := 22) dX10_common_84 (by decide) ?_
                rw [cntN_yes (P := cmR O1 O2 p) ⟨h1, hk1, (nI_eq (by omega) (by omega)).mp hb, (nI_eq (by omega) (by omega)).mp hc⟩, ← Nat.add_assoc] at nx2
                rw [nI_1, nI_1]
                exact nx2
        refine z_iload_n dX10_common_4 rfl ?_
        refine z_aload_n dX10_common_5 rfl ?_
        refine z_getR fRX10_7 dX10_common_6 (by first | assumption | rfl) (by rfl) ?_
        refine z_iconst (v := 0) dX10_common_9 rfl ?_
        refine z_ialdN (j := 0) dX10_common_10 m_v (rfl) (by decide) (by decide) ?_
        rw [h.1]
        refine z_icmp_ge (tgt := 146) dX10_common_11 (by decide) (fun hb => absurd hb (nI_ge (by omega) (by omega))) (fun _ => ?_)
        refine z_iload_n dX10_common_14 rfl ?_
        refine z_iconst (v := 2) dX10_common_15 rfl ?_
        refine z_icmp_ne (tgt := 90) dX10_common_16 (by decide) (fun hb => absurd (rfl) hb) (fun _ => ?_)
        refine z_iconst (v := 1) dX10_common_19 rfl ?_
        refine z_ist4 dX10_common_20 (by decide) rfl ?_
        by_cases h1 : 1 ≤ p
        · have := inner h1 (anq A - 1) 1 (by omega) (Nat.le_refl 1)
          rw [cntN_zero (P := cmR O1 O2 p) (fun k hk z => by have := z.2.1; omega), Nat.add_zero] at this
          exact this
        · have e0 : p = 0 := by omega
          subst e0
          rw [cntN_zero (P := cmR O1 O2 0) (fun k hk z => by have := z.1; omega), Nat.add_zero] at e1
          rw [e1] at out
          refine z_iload dX10_common_22 rfl ?_
          refine z_aload_n dX10_common_24 rfl ?_
          refine z_getR fRX10_7 dX10_common_25 (by first | assumption | rfl) (by rfl) ?_
          refine z_iconst (v := 0) dX10_common_28 rfl ?_
          refine z_ialdN (j := 0) dX10_common_29 m_v (rfl) (by decide) (by decide) ?_
          rw [h.1]
          refine z_icmp_ge (tgt := 87) dX10_common_30 (by decide) (fun hb => ?_) (fun hb => ?_)
          · exact out _
          · refine z_iload_n dX10_common_33 rfl ?_
            refine z_if_le (tgt := 87) dX10_common_34 (by decide) (fun _ => ?_) (fun hb => absurd (by decide) hb)
            exact out _
    exact loop (anq A) 0 (by omega)
theorem cm_al {A : AS} {v w : Nat} {k : Int32} (hk : is02 k) : cmN k (vO A w) (vO A v) (vK A w) (vK A v) (anq A) = alF A v w k := by
  have hO1 := Od_en (anq A) (aqd A) (asd A v)
  have hO2 := Od_en (anq A) (aqd A) (asd A w)
  rcases hk with rfl | rfl | rfl
  · show cntN (fun p => vO A w p = vO A v p) (anq A) = cntN (fun p => vO A v p = vO A w p) (anq A)
    exact cntN_congr (fun p _ => eq_comm)
  · show cntN (fun p => vK A w p = vK A v p) (anq A) = cntN (fun p => vK A v p = vK A w p) (anq A)
    exact cntN_congr (fun p _ => eq_comm)
  · show sm2 (cmR (vO A w) (vO A v)) (anq A) (anq A) = cntN (fun p => 1 ≤ p ∧ nbr A v w p) (anq A)
    refine sm2_cnt (fun k hk hq => ?_) (fun k hk hq => ?_)
    · obtain ⟨h1, r, r1, r2, r3⟩ := hq
      refine cntN_uniq (P := fun p => cmR (vO A w) (vO A v) p k) (i := r + 1) ⟨by omega, h1, r3, r2⟩ r1 (fun j hj z => ?_)
      exact hO2.inj hj r1 (z.2.2.1.trans r3.symm)
    · refine cntN_zero (P := fun p => cmR (vO A w) (vO A v) p k) (fun p hp z => hq ⟨z.2.1, p - 1, ?_, z.2.2.2, ?_⟩)
      · have := z.1
        omega
      · have := z.1
        rw [show p - 1 + 1 = p by omega]
        exact z.2.2.1
theorem q_alike {I : ZI} {A : AS} {hc : Nat} {Hh : Nat → AS} {tc : Nat} {bf : Nat → Nat} {x y k a : Int32} (h : RI I A hc Hh tc bf) (hD : aAlike A x y k a) : ZP yX10_alike cX10_alike 4 (some FieldType.int) 5 [.ref 259, .int x, .int y, .int k] Sg I (fun r J => r = some (.int a) ∧ (∀ a, a < 259 → J a = I a) ∧ RI J A hc Hh tc bf) := by
  have g0 := m_obj
  have hn := h.2.1.1.1
  have hnv := h.2.1.2.1
  refine ZSp.of (own := RX10) (L := [.ref 259, .int x, .int y, .int k]) mX10_alike rfl (List.all_eq_true.mp rfl) (Nat.le_of_ble_eq_true rfl) rfl (fun X hE hN => ?_)
  refine z_aload_n dX10_alike_0 rfl ?_
  refine z_iload_n dX10_alike_1 rfl ?_
  have bad : a = -1001 → (ZG X RX10 cX10_alike 4 5 0 0 0 0 25 [.ref 259, .int x, .int y, .int k] [] Sg I) := by
    rintro rfl
    refine z_sipush (v := -1001) dX10_alike_25 rfl ?_
    exact z_iret hE dX10_alike_28 ⟨rfl, rfl, fun _ _ => rfl, h⟩
  rcases hD with ⟨v, w, hv, rfl, hw, rfl, hk, rfl⟩ | ⟨hb, he⟩
  · have hkk : ¬ (k < 0 ∨ 2 < k) := by
      rcases hk with rfl | rfl | rfl <;> decide
    refine z_cV1s mX10_isVersion gRX10_103 dX10_alike_2 (q_isV (r := 1) h.1 hnv (fun _ => rfl) (fun z => absurd ⟨v, hv, rfl⟩ z)) (by decide) (by first | assumption | rfl) (by rfl) (Nat.le_of_ble_eq_true rfl) (Nat.le_refl _) (Nat.le_refl _) ?_
    refine z_if_eq (tgt := 25) dX10_alike_5 (by decide) (fun hb => absurd hb (by decide)) (fun _ => ?_)
    refine z_aload_n dX10_alike_8 rfl ?_
    refine z_iload_n dX10_alike_9 rfl ?_
    refine z_cV1s mX10_isVersion gRX10_103 dX10_alike_10 (q_isV (r := 1) h.1 hnv (fun _ => rfl) (fun z => absurd ⟨w, hw, rfl⟩ z)) (by decide) (by first | assumption | rfl) (by rfl) (Nat.le_of_ble_eq_true rfl) (Nat.le_refl _) (Nat.le_refl _) ?_
    refine z_if_eq (tgt := 25) dX10_alike_13 (by decide) (fun hb => absurd hb (by decide)) (fun _ => ?_)
    refine z_iload_n dX10_alike_16 rfl ?_
    refine z_iconst (v := 0) dX10_alike_17 rfl ?_
    refine z_iconst (v := 2) dX10_alike_18 rfl ?_
    refine z_cS3s mX10_in gRX10_50 dX10_alike_19 (q_in (r := 1) (fun _ _ => rfl) (fun z => absurd z hkk)) (by decide) (Nat.le_of_ble_eq_true rfl) (Nat.le_refl _) (Nat.le_refl _) ?_
    refine z_if_ne (tgt := 29) dX10_alike_22 (by decide) (fun _ => ?_) (fun hb => absurd hb (by decide))
    refine z_aload_n dX10_alike_29 rfl ?_
    refine z_iload_n dX10_alike_30 rfl ?_
    refine z_cV1p mX10_opens gRX10_106 dX10_alike_31 (q_opens h.1 h.2.1 rfl hv) (by decide) (by first | assumption | rfl) (by rfl) (Nat.le_of_ble_eq_true rfl) (Nat.le_refl _) (Nat.le_refl _) (fun r J hq => ?_)
    obtain ⟨rfl, b1, b2⟩ := hq
    have hR1 := b1.ri h
    refine z_aload_n dX10_alike_34 rfl ?_
    refine z_cV0p mX10_puts gRX10_118 dX10_alike_35 (q_puts) (by decide) (by first | assumption | rfl) (by rfl) (Nat.le_of_ble_eq_true rfl) (Nat.le_refl _) (Nat.le_refl _) (fun r J hq => ?_)
    obtain ⟨rfl, c1, c2, c3⟩ := hq
    have hR2 : RI J A hc Hh tc bf := hR1.keep (c1 260 (by decide) (by decide)) (c1 261 (by decide) (by decide)) (c1 271 (by decide) (by decide)) (by rw [c1 259 (by decide) (by decide)]) (by rw [c1 259 (by decide) (by decide)])
    have f2 : ∀ a, a < 259 → J a = I a := fun a ha => by rw [c1 a (by omega) (by omega), b1.1 a (Or.inl ha)]
    have p2 : ∀ p, p < anq A → J 269 p = nI (vO A v p) := fun p hp => by rw [c2 p (by omega)]; exact b2.1 p hp
    have p3 : ∀ p, p < anq A → J 270 p = nI (vK A v p) := fun p hp => by rw [c3 p (by omega)]; exact b2.2.1 p hp
    refine z_aload_n dX10_alike_38 rfl ?_
    refine z_iload_n dX10_alike_39 rfl ?_
    refine z_cV1p mX10_opens gRX10_106 dX10_alike_40 (q_opens hR2.1 h.2.1 rfl hw) (by decide) (by first | assumption | rfl) (by rfl) (Nat.le_of_ble_eq_true rfl) (Nat.le_refl _) (Nat.le_refl _) (fun r J hq => ?_)
    obtain ⟨rfl, d1, d2⟩ := hq
    have hR3 := d1.ri hR2
    have f3 : ∀ a, a < 259 → J a = I a := fun a ha => by rw [d1.1 a (Or.inl ha), f2 a ha]
    have lO : ∀ u p, p < anq A → vO A u p < 1000 := fun u p hp => by
      have : vO A u p < anq A := (Od_en (anq A) (aqd A) (asd A u)).1 p hp
      omega
    have lK : ∀ u p, p < anq A → vK A u p < 1000 := fun u p hp => by
      have q1 := (Ky_lt (seed := asd A u) h.2.1.1 hp).1
      have q2 := (h.2.1.1.2 _ ((Od_en (anq A) (aqd A) (asd A u)).1 p hp)).2.2.2.1
      have q3 : vK A u p < 5 := Nat.lt_of_lt_of_le q1 q2
      omega
    refine z_aload_n dX10_alike_43 rfl ?_
    refine z_iload_n dX10_alike_44 rfl ?_
    refine z_cV1s mX10_common gRX10_121 dX10_alike_45 (q_common hR3.1 hn hk (fun p hp => ⟨d2.1 p hp, lO w p hp⟩) (fun p hp => ⟨by rw [d1.1 269 (by omega)]; exact p2 p hp, lO v p hp⟩) (fun p hp => ⟨d2.2.1 p hp, lK w p hp⟩) (fun p hp => ⟨by rw [d1.1 270 (by omega)]; exact p3 p hp, lK v p hp⟩)) (by decide) (by first | assumption | rfl) (by rfl) (Nat.le_of_ble_eq_true rfl) (Nat.le_refl _) (Nat.le_refl _) ?_
    have ec : cmN k (Od (anq A) (aqd A) (asd A w)) (vO A v) (Ky (anq A) (aqd A) (asd A w)) (vK A v) (anq A) = alF A v w k := cm_al hk
    rw [ec]
    exact z_iret hE dX10_alike_48 ⟨rfl, rfl, f3, hR3⟩
  · have hkk : ¬ is02 k → (k < 0 ∨ 2 < k) := by
      intro hk
      by_cases q1 : k < 0
      · exact Or.inl q1
      · refine Or.inr (Int32.not_le.mp (fun q2 => hk ?_))
        obtain ⟨j, hj, rfl⟩ := nI_of2 (M := 2) (n := 2) rfl q1 q2
        match j, hj with
        | 0, _ => exact Or.inl rfl
        | 1, _ => exact Or.inr (Or.inl rfl)
        | 2, _ => exact Or.inr (Or.inr rfl)
    by_cases hx : isV A x
    · refine z_cV1s mX10_isVersion gRX10_103 dX10_alike_2 (q_isV (r := 1) h.1 hnv (fun _ => rfl) (fun z => absurd hx z)) (by decide) (by first | assumption | rfl) (by rfl) (Nat.le_of_ble_eq_true rfl) (Nat.le_refl _) (Nat.le_refl _) ?_
      refine z_if_eq (tgt := 25) dX10_alike_5 (by decide) (fun hb => absurd hb (by decide)) (fun _ => ?_)
      refine z_aload_n dX10_alike_8 rfl ?_
      refine z_iload_n dX10_alike_9 rfl ?_
      by_cases hy : isV A y
      · have hk : ¬ is02 k := hb.elim (fun z => absurd hx z) (fun z => z.elim (fun z => absurd hy z) id)
        refine z_cV1s mX10_isVersion gRX10_103 dX10_alike_10 (q_isV (r := 1) h.1 hnv (fun _ => rfl) (fun z => absurd hy z)) (by decide) (by first | assumption | rfl) (by rfl) (Nat.le_of_ble_eq_true rfl) (Nat.le_refl _) (Nat.le_refl _) ?_
        refine z_if_eq (tgt := 25) dX10_alike_13 (by decide) (fun hb => absurd hb (by decide)) (fun _ => ?_)
        refine z_iload_n dX10_alike_16 rfl ?_
        refine z_iconst (v := 0) dX10_alike_17 rfl ?_
        refine z_iconst (v := 2) dX10_alike_18 rfl ?_
        refine z_cS3s mX10_in gRX10_50 dX10_alike_19 (q_in (r := 0) (fun q1 q2 => absurd (hkk hk) (fun z => z.elim q1 (fun z => absurd q2 (Int32.not_le.mpr z)))) (fun _ => rfl)) (by decide) (Nat.le_of_ble_eq_true rfl) (Nat.le_refl _) (Nat.le_refl _) ?_
        refine z_if_ne (tgt := 29) dX10_alike_22 (by decide) (fun hb => absurd (rfl) hb) (fun _ => ?_)
        exact bad he
      · refine z_cV1s mX10_isVersion gRX10_103 dX10_alike_10 (q_isV (r := 0) h.1 hnv (fun z => absurd z hy) (fun _ => rfl)) (by decide) (by first | assumption | rfl) (by rfl) (Nat.le_of_ble_eq_true rfl) (Nat.le_refl _) (Nat.le_refl _) ?_
        refine z_if_eq (tgt := 25) dX10_alike_13 (by decide) (fun _ => ?_) (fun hb => absurd (rfl) hb)
        exact bad he
    · refine z_cV1s mX10_isVersion gRX10_103 dX10_alike_2 (q_isV (r := 0) h.1 hnv (fun z => absurd z hx) (fun _ => rfl)) (by decide) (by first | assumption | rfl) (by rfl) (Nat.le_of_ble_eq_true rfl) (Nat.le_refl _) (Nat.le_refl _) ?_
      refine z_if_eq (tgt := 25) dX10_alike_5 (by decide) (fun _ => ?_) (fun hb => absurd (rfl) hb)
      exact bad he

