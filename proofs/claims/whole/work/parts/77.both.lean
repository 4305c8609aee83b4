/-! ===== the class and the model side by side ===== -/
def BI (I : ZI) : Prop := ∃ (A : AS) (hc : Nat) (Hh : Nat → AS) (tc : Nat) (bf : Nat → Nat), CI I A hc Hh tc bf ∧ RI I A hc Hh tc bf
theorem RI.up {I J : ZI} {A : AS} {hc : Nat} {Hh : Nat → AS} {tc : Nat} {bf : Nat → Nat} (h : RI I A hc Hh tc bf) (f : ∀ a, 259 ≤ a → J a = I a) : RI J A hc Hh tc bf :=
  h.keep (f 260 (by decide)) (f 261 (by decide)) (f 271 (by decide)) (by rw [f 259 (by decide)]) (by rw [f 259 (by decide)])
theorem CI.low {I J : ZI} {A : AS} {hc : Nat} {Hh : Nat → AS} {tc : Nat} {bf : Nat → Nat} (h : CI I A hc Hh tc bf) (f : ∀ a, a < 259 → J a = I a) : CI J A hc Hh tc bf := by
  refine h.keep (fun a ha => f a (by omega)) (f 138 (by decide)) (fun w hw => ?_)
  rcases h.2.2.2.1 w hw with g | ⟨g1, g2, g3, g4⟩
  · exact Or.inl (by rw [f _ (by omega)]; exact g)
  · exact Or.inr ⟨by rw [f _ (by omega)]; exact g1, g2, g3.keep (fun a q1 q2 => f a (by omega)), g4.keep (fun a q1 q2 => f a (by omega))⟩
theorem fz_0 : vf_n32 FP.fconst0 := by
  unfold vf_n32
  decide +kernel
theorem fz_2 : vf_n32 3221225472 := by
  unfold vf_n32
  decide +kernel
theorem fz_mean {A : AS} (hV : AV A) : vf_n32 (mnF A) := by
  have hns := hV.2.2.2.2.1
  unfold mnF
  by_cases h : ans A = 0
  · rw [if_pos h]; exact fz_0
  · rw [if_neg h]; exact f_div _ h (by omega)
theorem fz_part {A : AS} {x : Int32} {r : UInt32} (hV : AV A) (h : aParting A x r) : vf_n32 r := by
  have hns := hV.2.2.2.2.1
  rcases h with ⟨q, hq, -, rfl⟩ | ⟨-, rfl⟩
  · unfold prF
    by_cases h : ans A / 2 = 0
    · rw [if_pos h]; exact fz_0
    · rw [if_neg h]; exact f_div _ h (by omega)
  · exact fz_2
theorem u_add {I : ZI} {x y z u w : Int32} (h : BI I) : ZP yX9_add cX9_add 6 (some FieldType.int) 6 [.ref 0, .int x, .int y, .int z, .int u, .int w] Sg I (fun r J => (∃ a : Int32, r = some (.int a)) ∧ ZP yX10_add cX10_add 7 (some FieldType.int) 1 [.ref 259, .int x, .int y, .int z, .int u, .int w] Sg J (fun r2 J2 => r2 = r ∧ BI J2)) := by
  obtain ⟨A, hc, Hh, tc, bf, h1, h2⟩ := h
  refine (s_add h1).mono (fun r J q => ?_)
  obtain ⟨f, hD⟩ := q
  refine ⟨?_, (q_add (r0 := r) (P := CI J) (h2.up f) hD).mono (fun r2 J2 p => ?_)⟩
  · rcases hD with ⟨a, e, -⟩ | ⟨g, -, -, -, e, -⟩ <;> exact ⟨_, e⟩
  · obtain ⟨p1, p2, A2, hc2, Hh2, tc2, bf2, hC, hR⟩ := p
    exact ⟨p1, A2, hc2, Hh2, tc2, bf2, hC.low p2, hR⟩
theorem u_remove {I : ZI} {x : Int32} (h : BI I) : ZP yX9_remove cX9_remove 2 (some FieldType.int) 6 [.ref 0, .int x] Sg I (fun r J => (∃ a : Int32, r = some (.int a)) ∧ ZP yX10_remove cX10_remove 3 (some FieldType.int) 2 [.ref 259, .int x] Sg J (fun r2 J2 => r2 = r ∧ BI J2)) := by
  obtain ⟨A, hc, Hh, tc, bf, h1, h2⟩ := h
  refine (s_remove h1).mono (fun r J q => ?_)
  obtain ⟨f, hD⟩ := q
  refine ⟨?_, (q_remove (r0 := r) (P := CI J) (h2.up f) hD).mono (fun r2 J2 p => ?_)⟩
  · rcases hD with ⟨-, e, -⟩ | ⟨-, -, e, -⟩ | ⟨g, -, -, -, e, -⟩ <;> exact ⟨_, e⟩
  · obtain ⟨p1, p2, A2, hc2, Hh2, tc2, bf2, hC, hR⟩ := p
    exact ⟨p1, A2, hc2, Hh2, tc2, bf2, hC.low p2, hR⟩
theorem u_change {I : ZI} {x w v : Int32} (h : BI I) : ZP yX9_change cX9_change 5 (some FieldType.int) 6 [.ref 0, .int x, .int w, .int v] Sg I (fun r J => (∃ a : Int32, r = some (.int a)) ∧ ZP yX10_change cX10_change 4 (some FieldType.int) 2 [.ref 259, .int x, .int w, .int v] Sg J (fun r2 J2 => r2 = r ∧ BI J2)) := by
  obtain ⟨A, hc, Hh, tc, bf, h1, h2⟩ := h
  refine (s_change h1).mono (fun r J q => ?_)
  obtain ⟨f, hD⟩ := q
  refine ⟨?_, (q_change (r0 := r) (P := CI J) (h2.up f) hD).mono (fun r2 J2 p => ?_)⟩
  · rcases hD with ⟨a, e, -⟩ | ⟨g1, g2, g3, -, -, e, -⟩ <;> exact ⟨_, e⟩
  · obtain ⟨p1, p2, A2, hc2, Hh2, tc2, bf2, hC, hR⟩ := p
    exact ⟨p1, A2, hc2, Hh2, tc2, bf2, hC.low p2, hR⟩
theorem u_question {I : ZI} {x y : Int32} (h : BI I) : ZP yX9_question cX9_question 3 (some FieldType.int) 2 [.ref 0, .int x, .int y] Sg I (fun r J => (∃ a : Int32, r = some (.int a)) ∧ ZP yX10_question cX10_question 3 (some FieldType.int) 2 [.ref 259, .int x, .int y] Sg J (fun r2 J2 => r2 = r ∧ BI J2)) := by
  obtain ⟨A, hc, Hh, tc, bf, h1, h2⟩ := h
  refine (s_question h1).mono (fun r J q => ?_)
  obtain ⟨⟨a, rfl, ha⟩, rfl⟩ := q
  exact ⟨⟨a, rfl⟩, (q_question h2 ha).toP ⟨rfl, A, hc, Hh, tc, bf, h1, h2⟩⟩
theorem u_questions {I : ZI} (h : BI I) : ZP yX9_questions cX9_questions 1 (some FieldType.int) 0 [.ref 0] Sg I (fun r J => (∃ a : Int32, r = some (.int a)) ∧ ZP yX10_questions cX10_questions 1 (some FieldType.int) 0 [.ref 259] Sg J (fun r2 J2 => r2 = r ∧ BI J2)) := by
  obtain ⟨A, hc, Hh, tc, bf, h1, h2⟩ := h
  exact (s_questions h1).toP ⟨⟨_, rfl⟩, (q_questions h2).toP ⟨rfl, A, hc, Hh, tc, bf, h1, h2⟩⟩
theorem u_version {I : ZI} {x : Int32} (h : BI I) : ZP yX9_version cX9_version 3 (some FieldType.int) 6 [.ref 0, .int x] Sg I (fun r J => (∃ a : Int32, r = some (.int a)) ∧ ZP yX10_version cX10_version 2 (some FieldType.int) 1 [.ref 259, .int x] Sg J (fun r2 J2 => r2 = r ∧ BI J2)) := by
  obtain ⟨A, hc, Hh, tc, bf, h1, h2⟩ := h
  refine (s_version h1).mono (fun r J q => ?_)
  obtain ⟨f, hD⟩ := q
  refine ⟨?_, (q_version (r0 := r) (P := CI J) (h2.up f) hD).mono (fun r2 J2 p => ?_)⟩
  · rcases hD with ⟨a, e, -⟩ | ⟨-, -, e, -⟩ <;> exact ⟨_, e⟩
  · obtain ⟨p1, p2, A2, hc2, Hh2, tc2, bf2, hC, hR⟩ := p
    exact ⟨p1, A2, hc2, Hh2, tc2, bf2, hC.low p2, hR⟩
theorem u_drop {I : ZI} (h : BI I) : ZP yX9_drop cX9_drop 1 (some FieldType.long) 6 [.ref 0] Sg I (fun r J => (∃ a : Int64, r = some (.long a)) ∧ ZP yX10_drop cX10_drop 1 (some FieldType.long) 1 [.ref 259] Sg J (fun r2 J2 => r2 = r ∧ BI J2)) := by
  obtain ⟨A, hc, Hh, tc, bf, h1, h2⟩ := h
  refine (s_drop h1).mono (fun r J q => ?_)
  obtain ⟨f, hD⟩ := q
  refine ⟨?_, (q_drop (r0 := r) (P := CI J) (h2.up f) hD).mono (fun r2 J2 p => ?_)⟩
  · rcases hD with ⟨-, e, -⟩ | ⟨-, -, e, -⟩ <;> exact ⟨_, e⟩
  · obtain ⟨p1, p2, A2, hc2, Hh2, tc2, bf2, hC, hR⟩ := p
    exact ⟨p1, A2, hc2, Hh2, tc2, bf2, hC.low p2, hR⟩
theorem u_versions {I : ZI} (h : BI I) : ZP yX9_versions cX9_versions 1 (some FieldType.int) 0 [.ref 0] Sg I (fun r J => (∃ a : Int32, r = some (.int a)) ∧ ZP yX10_versions cX10_versions 1 (some FieldType.int) 0 [.ref 259] Sg J (fun r2 J2 => r2 = r ∧ BI J2)) := by
  obtain ⟨A, hc, Hh, tc, bf, h1, h2⟩ := h
  exact (s_versions h1).toP ⟨⟨_, rfl⟩, (q_versions h2).toP ⟨rfl, A, hc, Hh, tc, bf, h1, h2⟩⟩
theorem u_at {I : ZI} {x y w : Int32} (h : BI I) : ZP yX9_at cX9_at 5 (some FieldType.int) 6 [.ref 0, .int x, .int y, .int w] Sg I (fun r J => (∃ a : Int32, r = some (.int a)) ∧ ZP yX10_at cX10_at 4 (some FieldType.int) 5 [.ref 259, .int x, .int y, .int w] Sg J (fun r2 J2 => r2 = r ∧ BI J2)) := by
  obtain ⟨A, hc, Hh, tc, bf, h1, h2⟩ := h
  refine (s_at h1).mono (fun r J q => ?_)
  obtain ⟨⟨a, rfl, ha⟩, f, hC⟩ := q
  exact ⟨⟨a, rfl⟩, (q_at (h2.up f) ha).mono (fun r2 J2 p => ⟨p.1, A, hc, Hh, tc, bf, hC.low p.2.1, p.2.2⟩)⟩
theorem u_where {I : ZI} {x y : Int32} (h : BI I) : ZP yX9_where cX9_where 4 (some FieldType.int) 6 [.ref 0, .int x, .int y] Sg I (fun r J => (∃ a : Int32, r = some (.int a)) ∧ ZP yX10_where cX10_where 3 (some FieldType.int) 5 [.ref 259, .int x, .int y] Sg J (fun r2 J2 => r2 = r ∧ BI J2)) := by
  obtain ⟨A, hc, Hh, tc, bf, h1, h2⟩ := h
  refine (s_where h1).mono (fun r J q => ?_)
  obtain ⟨⟨a, rfl, ha⟩, f, hC⟩ := q
  exact ⟨⟨a, rfl⟩, (q_where (h2.up f) ha).mono (fun r2 J2 p => ⟨p.1, A, hc, Hh, tc, bf, hC.low p.2.1, p.2.2⟩)⟩
theorem u_choice {I : ZI} {x y z : Int32} (h : BI I) : ZP yX9_choice cX9_choice 5 (some FieldType.int) 6 [.ref 0, .int x, .int y, .int z] Sg I (fun r J => (∃ a : Int32, r = some (.int a)) ∧ ZP yX10_choice cX10_choice 4 (some FieldType.int) 5 [.ref 259, .int x, .int y, .int z] Sg J (fun r2 J2 => r2 = r ∧ BI J2)) := by
  obtain ⟨A, hc, Hh, tc, bf, h1, h2⟩ := h
  refine (s_choice h1).mono (fun r J q => ?_)
  obtain ⟨⟨a, rfl, ha⟩, f, hC⟩ := q
  exact ⟨⟨a, rfl⟩, (q_choice (h2.up f) ha).mono (fun r2 J2 p => ⟨p.1, A, hc, Hh, tc, bf, hC.low p.2.1, p.2.2⟩)⟩
theorem u_alike {I : ZI} {x y k : Int32} (h : BI I) : ZP yX9_alike cX9_alike 6 (some FieldType.int) 6 [.ref 0, .int x, .int y, .int k] Sg I (fun r J => (∃ a : Int32, r = some (.int a)) ∧ ZP yX10_alike cX10_alike 4 (some FieldType.int) 5 [.ref 259, .int x, .int y, .int k] Sg J (fun r2 J2 => r2 = r ∧ BI J2)) := by
  obtain ⟨A, hc, Hh, tc, bf, h1, h2⟩ := h
  refine (s_alike h1).mono (fun r J q => ?_)
  obtain ⟨⟨a, rfl, ha⟩, f, hC⟩ := q
  exact ⟨⟨a, rfl⟩, (q_alike (h2.up f) ha).mono (fun r2 J2 p => ⟨p.1, A, hc, Hh, tc, bf, hC.low p.2.1, p.2.2⟩)⟩
theorem u_unlike {I : ZI} {x y : Int32} (h : BI I) : ZP yX9_unlike cX9_unlike 7 (some FieldType.long) 7 [.ref 0, .int x, .int y] Sg I (fun r J => (∃ a : Int64, r = some (.long a)) ∧ ZP yX10_unlike cX10_unlike 8 (some FieldType.long) 5 [.ref 259, .int x, .int y] Sg J (fun r2 J2 => r2 = r ∧ BI J2)) := by
  obtain ⟨A, hc, Hh, tc, bf, h1, h2⟩ := h
  refine (s_unlike h1).mono (fun r J q => ?_)
  obtain ⟨⟨a, rfl, ha⟩, f, hC⟩ := q
  exact ⟨⟨a, rfl⟩, (q_unlike (h2.up f) ha).mono (fun r2 J2 p => ⟨p.1, A, hc, Hh, tc, bf, hC.low p.2.1, p.2.2⟩)⟩
theorem u_setLines {I : ZI} {x : Int32} (h : BI I) : ZP yX9_setLines cX9_setLines 3 (some FieldType.int) 6 [.ref 0, .int x] Sg I (fun r J => (∃ a : Int32, r = some (.int a)) ∧ ZP yX10_setLines cX10_setLines 2 (some FieldType.int) 2 [.ref 259, .int x] Sg J (fun r2 J2 => r2 = r ∧ BI J2)) := by
  obtain ⟨A, hc, Hh, tc, bf, h1, h2⟩ := h
  refine (s_setLines h1).mono (fun r J q => ?_)
  obtain ⟨f, hD⟩ := q
  refine ⟨?_, (q_setLines (r0 := r) (P := CI J) (h2.up f) hD).mono (fun r2 J2 p => ?_)⟩
  · rcases hD with ⟨-, e, -⟩ | ⟨g, -, -, -, e, -⟩ <;> exact ⟨_, e⟩
  · obtain ⟨p1, p2, A2, hc2, Hh2, tc2, bf2, hC, hR⟩ := p
    exact ⟨p1, A2, hc2, Hh2, tc2, bf2, hC.low p2, hR⟩
theorem u_pages {I : ZI} {x : Int32} (h : BI I) : ZP yX9_pages cX9_pages 3 (some FieldType.int) 6 [.ref 0, .int x] Sg I (fun r J => (∃ a : Int32, r = some (.int a)) ∧ ZP yX10_pages cX10_pages 2 (some FieldType.int) 5 [.ref 259, .int x] Sg J (fun r2 J2 => r2 = r ∧ BI J2)) := by
  obtain ⟨A, hc, Hh, tc, bf, h1, h2⟩ := h
  refine (s_pages h1).mono (fun r J q => ?_)
  obtain ⟨⟨a, rfl, ha⟩, f, hC⟩ := q
  exact ⟨⟨a, rfl⟩, (q_pages (h2.up f) ha).mono (fun r2 J2 p => ⟨p.1, A, hc, Hh, tc, bf, hC.low p.2.1, p.2.2⟩)⟩
theorem u_page {I : ZI} {x y w : Int32} (h : BI I) : ZP yX9_page cX9_page 5 (some FieldType.int) 6 [.ref 0, .int x, .int y, .int w] Sg I (fun r J => (∃ a : Int32, r = some (.int a)) ∧ ZP yX10_page cX10_page 7 (some FieldType.int) 5 [.ref 259, .int x, .int y, .int w] Sg J (fun r2 J2 => r2 = r ∧ BI J2)) := by
  obtain ⟨A, hc, Hh, tc, bf, h1, h2⟩ := h
  refine (s_page h1).mono (fun r J q => ?_)
  obtain ⟨⟨a, rfl, ha⟩, f, hC⟩ := q
  exact ⟨⟨a, rfl⟩, (q_page (h2.up f) ha).mono (fun r2 J2 p => ⟨p.1, A, hc, Hh, tc, bf, hC.low p.2.1, p.2.2⟩)⟩
theorem u_type {I : ZI} {x : Int32} (h : BI I) : ZP yX9_type cX9_type 2 (some FieldType.int) 1 [.ref 0, .int x] Sg I (fun r J => (∃ a : Int32, r = some (.int a)) ∧ ZP yX10_type cX10_type 2 (some FieldType.int) 1 [.ref 259, .int x] Sg J (fun r2 J2 => r2 = r ∧ BI J2)) := by
  obtain ⟨A, hc, Hh, tc, bf, h1, h2⟩ := h
  refine (s_type h1).mono (fun r J q => ?_)
  obtain ⟨f, hD⟩ := q
  refine ⟨?_, (q_type (r0 := r) (P := CI J) (h2.up f) hD).mono (fun r2 J2 p => ?_)⟩
  · rcases hD with ⟨a, e, -⟩ | ⟨g, -, -, -, -, e, -⟩ <;> exact ⟨_, e⟩
  · obtain ⟨p1, p2, A2, hc2, Hh2, tc2, bf2, hC, hR⟩ := p
    exact ⟨p1, A2, hc2, Hh2, tc2, bf2, hC.low p2, hR⟩
theorem u_clear {I : ZI} (h : BI I) : ZP yX9_clear cX9_clear 2 (some FieldType.int) 0 [.ref 0] Sg I (fun r J => (∃ a : Int32, r = some (.int a)) ∧ ZP yX10_clear cX10_clear 2 (some FieldType.int) 0 [.ref 259] Sg J (fun r2 J2 => r2 = r ∧ BI J2)) := by
  obtain ⟨A, hc, Hh, tc, bf, h1, h2⟩ := h
  refine (s_clear h1).mono (fun r J q => ?_)
  obtain ⟨f, rfl, hC⟩ := q
  exact ⟨⟨_, rfl⟩, (q_clear (h2.up f)).mono (fun r2 J2 p => ⟨p.1, A, hc, Hh, 0, bf, hC.low p.2.1, p.2.2⟩)⟩
theorem u_sheet {I : ZI} {x : Int32} (h : BI I) : ZP yX9_sheet cX9_sheet 4 (some FieldType.int) 6 [.ref 0, .int x] Sg I (fun r J => (∃ a : Int32, r = some (.int a)) ∧ ZP yX10_sheet cX10_sheet 5 (some FieldType.int) 5 [.ref 259, .int x] Sg J (fun r2 J2 => r2 = r ∧ BI J2)) := by
  obtain ⟨A, hc, Hh, tc, bf, h1, h2⟩ := h
  refine (s_sheet h1).mono (fun r J q => ?_)
  obtain ⟨f, hD⟩ := q
  refine ⟨?_, (q_sheet (r0 := r) (P := CI J) (h2.up f) hD).mono (fun r2 J2 p => ?_)⟩
  · rcases hD with ⟨-, e, -⟩ | ⟨-, -, e, -⟩ | ⟨g1, g2, -, -, -, -, e, -⟩ | ⟨g, -, -, -, -, e, -⟩ <;> exact ⟨_, e⟩
  · obtain ⟨p1, p2, A2, hc2, Hh2, tc2, bf2, hC, hR⟩ := p
    exact ⟨p1, A2, hc2, Hh2, tc2, bf2, hC.low p2, hR⟩
theorem u_guess {I : ZI} {x y z : Int32} (h : BI I) : ZP yX9_guess cX9_guess 7 (some FieldType.int) 6 [.ref 0, .int x, .int y, .int z] Sg I (fun r J => (∃ a : Int32, r = some (.int a)) ∧ ZP yX10_guess cX10_guess 7 (some FieldType.int) 5 [.ref 259, .int x, .int y, .int z] Sg J (fun r2 J2 => r2 = r ∧ BI J2)) := by
  obtain ⟨A, hc, Hh, tc, bf, h1, h2⟩ := h
  refine (s_guess h1).mono (fun r J q => ?_)
  obtain ⟨f, hD⟩ := q
  refine ⟨?_, (q_guess (r0 := r) (P := CI J) (h2.up f) hD).mono (fun r2 J2 p => ?_)⟩
  · rcases hD with ⟨-, e, -⟩ | ⟨-, -, -, e, -⟩ | ⟨g1, g2, -, -, -, -, -, e, -⟩ <;> exact ⟨_, e⟩
  · obtain ⟨p1, p2, A2, hc2, Hh2, tc2, bf2, hC, hR⟩ := p
    exact ⟨p1, A2, hc2, Hh2, tc2, bf2, hC.low p2, hR⟩
theorem u_forget {I : ZI} (h : BI I) : ZP yX9_forget cX9_forget 2 (some FieldType.int) 5 [.ref 0] Sg I (fun r J => (∃ a : Int32, r = some (.int a)) ∧ ZP yX10_forget cX10_forget 2 (some FieldType.int) 1 [.ref 259] Sg J (fun r2 J2 => r2 = r ∧ BI J2)) := by
  obtain ⟨A, hc, Hh, tc, bf, h1, h2⟩ := h
  refine (s_forget h1).mono (fun r J q => ?_)
  obtain ⟨f, rfl, hC⟩ := q
  exact ⟨⟨_, rfl⟩, (q_forget (h2.up f)).mono (fun r2 J2 p => ⟨p.1, _, _, _, tc, bf, hC.low p.2.1, p.2.2⟩)⟩
theorem u_result {I : ZI} {x w : Int32} (h : BI I) : ZP yX9_result cX9_result 3 (some FieldType.int) 4 [.ref 0, .int x, .int w] Sg I (fun r J => (∃ a : Int32, r = some (.int a)) ∧ ZP yX10_result cX10_result 3 (some FieldType.int) 9 [.ref 259, .int x, .int w] Sg J (fun r2 J2 => r2 = r ∧ BI J2)) := by
  obtain ⟨A, hc, Hh, tc, bf, h1, h2⟩ := h
  refine (s_result h1).mono (fun r J q => ?_)
  obtain ⟨⟨a, rfl, ha⟩, rfl⟩ := q
  exact ⟨⟨a, rfl⟩, (q_result h2 ha).mono (fun r2 J2 p => ⟨p.1, A, hc, Hh, tc, bf, h1.low p.2.1, p.2.2⟩)⟩
theorem u_answer {I : ZI} {x y : Int32} (h : BI I) : ZP yX9_answer cX9_answer 4 (some FieldType.int) 2 [.ref 0, .int x, .int y] Sg I (fun r J => (∃ a : Int32, r = some (.int a)) ∧ ZP yX10_answer cX10_answer 3 (some FieldType.int) 6 [.ref 259, .int x, .int y] Sg J (fun r2 J2 => r2 = r ∧ BI J2)) := by
  obtain ⟨A, hc, Hh, tc, bf, h1, h2⟩ := h
  refine (s_answer h1).mono (fun r J q => ?_)
  obtain ⟨⟨a, rfl, ha⟩, rfl⟩ := q
  exact ⟨⟨a, rfl⟩, (q_answer h2 ha).mono (fun r2 J2 p => ⟨p.1, A, hc, Hh, tc, bf, h1.low p.2.1, p.2.2⟩)⟩
theorem u_about {I : ZI} {y w : Int32} (h : BI I) : ZP yX9_about cX9_about 6 (some FieldType.int) 4 [.ref 0, .int y, .int w] Sg I (fun r J => (∃ a : Int32, r = some (.int a)) ∧ ZP yX10_about cX10_about 9 (some FieldType.int) 7 [.ref 259, .int y, .int w] Sg J (fun r2 J2 => r2 = r ∧ BI J2)) := by
  obtain ⟨A, hc, Hh, tc, bf, h1, h2⟩ := h
  refine (s_about h1).mono (fun r J q => ?_)
  obtain ⟨⟨a, rfl, ha⟩, rfl⟩ := q
  exact ⟨⟨a, rfl⟩, (q_about h2 ha).mono (fun r2 J2 p => ⟨p.1, A, hc, Hh, tc, bf, h1.low p.2.1, p.2.2⟩)⟩
theorem u_parting {I : ZI} {x : Int32} (h : BI I) : ZP yX9_parting cX9_parting 7 (some FieldType.float) 4 [.ref 0, .int x] Sg I (fun r J => (∃ a : UInt32, r = some (.float a) ∧ vf_n32 a) ∧ ZP yX10_parting cX10_parting 7 (some FieldType.float) 7 [.ref 259, .int x] Sg J (fun r2 J2 => r2 = r ∧ BI J2)) := by
  obtain ⟨A, hc, Hh, tc, bf, h1, h2⟩ := h
  refine (s_parting h1).mono (fun r J q => ?_)
  obtain ⟨⟨a, rfl, ha⟩, rfl⟩ := q
  exact ⟨⟨a, rfl, fz_part h1.2.1 ha⟩, (q_parting h2 ha).mono (fun r2 J2 p => ⟨p.1, A, hc, Hh, tc, bf, h1.low p.2.1, p.2.2⟩)⟩
theorem u_mean {I : ZI} (h : BI I) : ZP yX9_mean cX9_mean 3 (some FieldType.float) 2 [.ref 0] Sg I (fun r J => (∃ a : UInt32, r = some (.float a) ∧ vf_n32 a) ∧ ZP yX10_mean cX10_mean 3 (some FieldType.float) 7 [.ref 259] Sg J (fun r2 J2 => r2 = r ∧ BI J2)) := by
  obtain ⟨A, hc, Hh, tc, bf, h1, h2⟩ := h
  exact (s_mean h1).toP ⟨⟨_, rfl, fz_mean h1.2.1⟩, (q_mean h2).mono (fun r2 J2 p => ⟨p.1, A, hc, Hh, tc, bf, h1.low p.2.1, p.2.2⟩)⟩
theorem u_sameWrong {I : ZI} {x y : Int32} (h : BI I) : ZP yX9_sameWrong cX9_sameWrong 3 (some FieldType.int) 3 [.ref 0, .int x, .int y] Sg I (fun r J => (∃ a : Int32, r = some (.int a)) ∧ ZP yX10_sameWrong cX10_sameWrong 3 (some FieldType.int) 7 [.ref 259, .int x, .int y] Sg J (fun r2 J2 => r2 = r ∧ BI J2)) := by
  obtain ⟨A, hc, Hh, tc, bf, h1, h2⟩ := h
  refine (s_sameWrong h1).mono (fun r J q => ?_)
  obtain ⟨⟨a, rfl, ha⟩, rfl⟩ := q
  exact ⟨⟨a, rfl⟩, (q_sameWrong h2 ha).mono (fun r2 J2 p => ⟨p.1, A, hc, Hh, tc, bf, h1.low p.2.1, p.2.2⟩)⟩
theorem u_suspects {I : ZI} (h : BI I) : ZP yX9_suspects cX9_suspects 6 (some FieldType.int) 3 [.ref 0] Sg I (fun r J => (∃ a : Int32, r = some (.int a)) ∧ ZP yX10_suspects cX10_suspects 6 (some FieldType.int) 7 [.ref 259] Sg J (fun r2 J2 => r2 = r ∧ BI J2)) := by
  obtain ⟨A, hc, Hh, tc, bf, h1, h2⟩ := h
  exact (s_suspects h1).toP ⟨⟨_, rfl⟩, (q_suspects h2).mono (fun r2 J2 p => ⟨p.1, A, hc, Hh, tc, bf, h1.low p.2.1, p.2.2⟩)⟩
theorem u_mistaken {I : ZI} {x y : Int32} (h : BI I) : ZP yX9_mistaken cX9_mistaken 7 (some FieldType.int) 6 [.ref 0, .int x, .int y] Sg I (fun r J => (∃ a : Int32, r = some (.int a)) ∧ ZP yX10_mistaken cX10_mistaken 3 (some FieldType.int) 5 [.ref 259, .int x, .int y] Sg J (fun r2 J2 => r2 = r ∧ BI J2)) := by
  obtain ⟨A, hc, Hh, tc, bf, h1, h2⟩ := h
  refine (s_mistaken h1).mono (fun r J q => ?_)
  obtain ⟨⟨a, rfl, ha⟩, f, hC⟩ := q
  exact ⟨⟨a, rfl⟩, (q_mistaken (h2.up f) ha).mono (fun r2 J2 p => ⟨p.1, A, hc, Hh, tc, bf, hC.low p.2.1, p.2.2⟩)⟩
theorem u_undo {I : ZI} (h : BI I) : ZP yX9_undo cX9_undo 1 (some FieldType.int) 5 [.ref 0] Sg I (fun r J => (∃ a : Int32, r = some (.int a)) ∧ ZP yX10_undo cX10_undo 2 (some FieldType.int) 0 [.ref 259] Sg J (fun r2 J2 => r2 = r ∧ BI J2)) := by
  obtain ⟨A, hc, Hh, tc, bf, h1, h2⟩ := h
  refine (s_undo h1).mono (fun r J q => ?_)
  obtain ⟨f, hD⟩ := q
  refine ⟨?_, (q_undo (r0 := r) (P := CI J) (h2.up f) hD).mono (fun r2 J2 p => ?_)⟩
  · rcases hD with ⟨-, e, -⟩ | ⟨g, -, e, -⟩ <;> exact ⟨_, e⟩
  · obtain ⟨p1, p2, A2, hc2, Hh2, tc2, bf2, hC, hR⟩ := p
    exact ⟨p1, A2, hc2, Hh2, tc2, bf2, hC.low p2, hR⟩
theorem u_fingerprint {I : ZI} (h : BI I) : ZP yX9_fingerprint cX9_fingerprint 3 (some FieldType.long) 7 [.ref 0] Sg I (fun r J => (∃ a : Int64, r = some (.long a)) ∧ ZP yX10_fingerprint cX10_fingerprint 6 (some FieldType.long) 9 [.ref 259] Sg J (fun r2 J2 => r2 = r ∧ BI J2)) := by
  obtain ⟨A, hc, Hh, tc, bf, h1, h2⟩ := h
  refine (s_fingerprint h1).mono (fun r J q => ?_)
  obtain ⟨rfl, f, hC⟩ := q
  exact ⟨⟨_, rfl⟩, (q_fingerprint (h2.up f)).mono (fun r2 J2 p => ⟨p.1, A, hc, Hh, tc, bf, hC.low p.2.1, p.2.2⟩)⟩
