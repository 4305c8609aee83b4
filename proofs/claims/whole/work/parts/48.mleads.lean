/-! ===== the model: who leads a unit -/
def ldN (qd : Qd) (q k : Nat) : Bool := decide (∀ j, j < k → tog qd j q = false)
def bI (b : Bool) : Int32 := if b = true then 1 else 0
theorem ldN_step (qd : Qd) (q k : Nat) : ldN qd q (k + 1) = (ldN qd q k && !tog qd k q) := by
  unfold ldN
  by_cases h : ∀ j, j < k + 1 → tog qd j q = false
  · rw [decide_eq_true h, decide_eq_true (fun j hj => h j (by omega)), h k (by omega)]; rfl
  · rw [decide_eq_false h]
    by_cases h2 : ∀ j, j < k → tog qd j q = false
    · rw [decide_eq_true h2]
      cases e : tog qd k q with
      | true => rfl
      | false =>
        exact absurd (fun j hj => by
          by_cases ej : j = k
          · rw [ej]; exact e
          · exact h2 j (by omega)) h
    · rw [decide_eq_false h2]; rfl
theorem tog_lt {qd : Qd} {q k : Nat} (h : k < q) : tog qd k q = true ↔ qd q 3 ≠ 0 ∧ qd k 3 = qd q 3 := by
  unfold tog
  rw [decide_eq_true_iff]
  constructor
  · rintro (e | ⟨a, b⟩)
    · omega
    · exact ⟨by rw [← b]; exact a, b⟩
  · rintro ⟨a, b⟩
    exact Or.inr ⟨by rw [b]; exact a, b⟩
theorem q_leads {I : ZI} {A : AS} {q : Nat} {x : Int32} (h : RV (I 260) A) (hV : AV A) (hx : x = nI q) (hq : q < anq A) : ZE yX10_leads cX10_leads 4 (some FieldType.boolean) 1 [.ref 259, .int x] Sg I (some (.int (bI (lead (aqd A) q)))) I := by
  have g0 := m_obj
  have hn := hV.1.1
  subst hx
  refine ZSp.of (own := RX10) (L := [.ref 259, .int (nI q), zj, zj]) mX10_leads rfl (List.all_eq_true.mp rfl) (Nat.le_of_ble_eq_true rfl) rfl (fun X hE hN => ?_)
  have hq3 := (hV.1.2 q hq).2.2.2.2.2.2
  have loop : ∀ (m k : Nat), k + m = q → (ZG X RX10 cX10_leads 4 1 0 0 0 0 4 [.ref 259, .int (nI q), .int (bI (ldN (aqd A) q k)), .int (nI k)] [] Sg I) := by
    intro m
    induction m with
    | zero =>
      intro k hk
      have e : k = q := by omega
      subst e
      have hr : bI (ldN (aqd A) k k) = 0 ∨ bI (ldN (aqd A) k k) = 1 := by
        unfold bI
        cases ldN (aqd A) k k
        · exact Or.inl rfl
        · exact Or.inr rfl
      refine z_iload_n dX10_leads_4 rfl ?_
      refine z_iload_n dX10_leads_5 rfl ?_
      refine z_icmp_ge (tgt := 49) dX10_leads_6 (by decide) (fun _ => ?_) (fun hb => absurd (nI_le (Nat.le_refl _) (by omega)) hb)
      refine z_iload_n dX10_leads_49 rfl ?_
      exact z_ezreturn hE dX10_leads_50 hr rfl rfl
    | succ m ih =>
      intro k hk
      have hkq : k < q := by omega
      have hk3 := (hV.1.2 k (by omega)).2.2.2.2.2.2
      have nxt := ih (k + 1) (by omega)
      rw [ldN_step] at nxt
      have stp : ∀ (w : Int32), w = bI (ldN (aqd A) q k && !tog (aqd A) k q) → (ZG X RX10 cX10_leads 4 1 0 0 0 0 42 [.ref 259, .int (nI q), .int (bI (ldN (aqd A) q k)), .int (nI k)] [.int w] Sg I) := by
        intro w hw
        rw [← hw] at nxt
        refine z_ist2 dX10_leads_42 (by decide) rfl ?_
        refine z_inc3 (w := 1) dX10_leads_43 rfl (by decide) rfl ?_
        refine z_goto (tgt := 4) dX10_leads_46 (by decide) ?_
        rw [nI_1]
        exact nxt
      refine z_iload_n dX10_leads_4 rfl ?_
      refine z_iload_n dX10_leads_5 rfl ?_
      refine z_icmp_ge (tgt := 49) dX10_leads_6 (by decide) (fun hb => absurd hb (nI_ge (by omega) (by omega))) (fun _ => ?_)
      refine z_iload_n dX10_leads_9 rfl ?_
      cases e1 : ldN (aqd A) q k with
      | false =>
        rw [e1] at stp
        refine z_if_eq (tgt := 41) dX10_leads_10 (by decide) (fun _ => ?_) (fun hb => absurd (rfl) hb)
        refine z_iconst (v := 0) dX10_leads_41 rfl ?_
        exact stp 0 rfl
      | true =>
        rw [e1] at stp
        refine z_if_eq (tgt := 41) dX10_leads_10 (by decide) (fun hb => absurd hb (by decide)) (fun _ => ?_)
        refine z_aload_n dX10_leads_13 rfl ?_
        refine z_iload_n dX10_leads_14 rfl ?_
        refine z_iconst (v := 3) dX10_leads_15 rfl ?_
        refine z_cV2s mX10_of gRX10_61 dX10_leads_16 (q_of h hn rfl (show (3 : Int32) = nI 3 from rfl) hq (by decide)) (by decide) (by first | assumption | rfl) (by rfl) (Nat.le_of_ble_eq_true rfl) (Nat.le_refl _) (Nat.le_refl _) ?_
        have one : tog (aqd A) k q = false → (ZG X RX10 cX10_leads 4 1 0 0 0 0 37 [.ref 259, .int (nI q), .int (bI true), .int (nI k)] [] Sg I) := by
          intro hw
          refine z_iconst (v := 1) dX10_leads_37 rfl ?_
          refine z_goto (tgt := 42) dX10_leads_38 (by decide) ?_
          exact stp 1 (by rw [hw]; rfl)
        by_cases ez : aqd A q 3 = 0
        · refine z_if_eq (tgt := 37) dX10_leads_19 (by decide) (fun _ => ?_) (fun hb => absurd (by rw [ez]; rfl) hb)
          refine one ?_
          cases et : tog (aqd A) k q with
          | false => rfl
          | true => exact absurd ez ((tog_lt hkq).mp et).1
        · refine z_if_eq (tgt := 37) dX10_leads_19 (by decide) (fun hb => absurd hb (nI_ne0 (by omega) (by omega))) (fun _ => ?_)
          refine z_aload_n dX10_leads_22 rfl ?_
          refine z_iload_n dX10_leads_23 rfl ?_
          refine z_iconst (v := 3) dX10_leads_24 rfl ?_
          refine z_cV2s mX10_of gRX10_61 dX10_leads_25 (q_of h hn rfl (show (3 : Int32) = nI 3 from rfl) (show k < anq A by omega) (by decide)) (by decide) (by first | assumption | rfl) (by rfl) (Nat.le_of_ble_eq_true rfl) (Nat.le_refl _) (Nat.le_refl _) ?_
          refine z_aload_n dX10_leads_28 rfl ?_
          refine z_iload_n dX10_leads_29 rfl ?_
          refine z_iconst (v := 3) dX10_leads_30 rfl ?_
          refine z_cV2s mX10_of gRX10_61 dX10_leads_31 (q_of h hn rfl (show (3 : Int32) = nI 3 from rfl) hq (by decide)) (by decide) (by first | assumption | rfl) (by rfl) (Nat.le_of_ble_eq_true rfl) (Nat.le_refl _) (Nat.le_refl _) ?_
          by_cases ee : aqd A k 3 = aqd A q 3
          · refine z_icmp_eq (tgt := 41) dX10_leads_34 (by decide) (fun _ => ?_) (fun hb => absurd (by rw [ee]) hb)
            refine z_iconst (v := 0) dX10_leads_41 rfl ?_
            exact stp 0 (by rw [(tog_lt hkq).mpr ⟨ez, ee⟩]; rfl)
          · refine z_icmp_eq (tgt := 41) dX10_leads_34 (by decide) (fun hb => absurd hb (fun z => ee ((nI_eq (by omega) (by omega)).mp z))) (fun _ => ?_)
            refine one ?_
            cases et : tog (aqd A) k q with
            | false => rfl
            | true => exact absurd ((tog_lt hkq).mp et).2 ee
  refine z_iconst (v := 1) dX10_leads_0 rfl ?_
  refine z_ist2 dX10_leads_1 (by decide) rfl ?_
  refine z_iconst (v := 0) dX10_leads_2 rfl ?_
  refine z_ist3 dX10_leads_3 (by decide) rfl ?_
  have := loop q 0 (by omega)
  have e0 : ldN (aqd A) q 0 = true := decide_eq_true (fun j hj => absurd hj (Nat.not_lt_zero j))
  rw [e0] at this
  exact this

