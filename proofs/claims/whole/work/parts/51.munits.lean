/-! ===== the model: the units, one behind another -/
theorem tog_dec {qd : Qd} {u j : Nat} : tog qd u j = true ↔ (u = j ∨ (qd u 3 ≠ 0 ∧ qd u 3 = qd j 3)) := by
  unfold tog
  rw [decide_eq_true_iff]
theorem q_mixUnits {X : ZX} {Q2 : Option Value → List ZC → ZI → Prop} {I : ZI} {A : AS} {seed : Int32} (hE : ZEnd X none 0 0 Q2) (h : RV (I 260) A) (hV : AV A) (hQ : ∀ J, MFr I J → MPf J A seed → Q2 none Sg J) :
    ∀ (n k : Nat) (J : ZI), k + n = (col (lead (aqd A)) (anq A)).1 → MFr I J → Rp (J 266) (mxU (anq A) (aqd A) seed).2 (col (lead (aqd A)) (anq A)).1 → J 259 3 = (mxO (anq A) (aqd A) (mxU (anq A) (aqd A) seed).2 (mxU (anq A) (aqd A) seed).1 k).1 → Rp (J 262) (mxO (anq A) (aqd A) (mxU (anq A) (aqd A) seed).2 (mxU (anq A) (aqd A) seed).1 k).2.2 (mxO (anq A) (aqd A) (mxU (anq A) (aqd A) seed).2 (mxU (anq A) (aqd A) seed).1 k).2.1
      → (ZG X RX10 cX10_mixesAll 6 3 0 0 0 0 95 [.ref 259, .int seed, .int (nI (col (lead (aqd A)) (anq A)).1), .int (nI (mxO (anq A) (aqd A) (mxU (anq A) (aqd A) seed).2 (mxU (anq A) (aqd A) seed).1 k).2.1), .int (nI k), zj] [] Sg J) := by
  have g0 := m_obj
  have hn := hV.1.1
  have hue := mxU_en (anq A) (aqd A) seed
  have hcn := col_le (lead (aqd A)) (anq A)
  intro n
  induction n with
  | zero =>
    intro k J hk a1 a2 a3 a4
    have e : k = (col (lead (aqd A)) (anq A)).1 := by omega
    subst e
    have hnn : (mxO (anq A) (aqd A) (mxU (anq A) (aqd A) seed).2 (mxU (anq A) (aqd A) seed).1 (col (lead (aqd A)) (anq A)).1).2.1 = anq A := Ord3_n (anq A) (aqd A) seed
    rw [hnn]
    rw [hnn] at a4
    refine z_iload dX10_mixesAll_95 rfl ?_
    refine z_iload_n dX10_mixesAll_97 rfl ?_
    refine z_icmp_ge (tgt := 235) dX10_mixesAll_98 (by decide) (fun _ => ?_) (fun hb => absurd (nI_le (Nat.le_refl _) (by omega)) hb)
    refine z_iconst (v := 0) dX10_mixesAll_235 rfl ?_
    refine z_ist4 dX10_mixesAll_236 (by decide) rfl ?_
    exact q_mixLast hE h hV hQ (anq A) 0 J (by omega) a1 a4 a3 (fun j hj => absurd hj (Nat.not_lt_zero j)) (fun j hj => absurd hj (Nat.not_lt_zero j))
  | succ n ih =>
    intro k J0 hk a1 a2 a3 a4
    have hk1 : k < (col (lead (aqd A)) (anq A)).1 := by omega
    obtain ⟨hu, -⟩ := hue.1 k hk1
    have en1 := mxO_en (x := (mxU (anq A) (aqd A) seed).1) hue (k + 1) (by omega)
    have hle : (mxO (anq A) (aqd A) (mxU (anq A) (aqd A) seed).2 (mxU (anq A) (aqd A) seed).1 (k + 1)).2.1 ≤ anq A := fb_holes (anq A) _ _ (fun k hk => (en1.1 k hk).1) en1.2.2
    have hU : J0 266 k = nI ((mxU (anq A) (aqd A) seed).2 k) := a2 k hk1
    have hst : mxO (anq A) (aqd A) (mxU (anq A) (aqd A) seed).2 (mxU (anq A) (aqd A) seed).1 (k + 1) = ((mxM (anq A) (aqd A) (mxO (anq A) (aqd A) (mxU (anq A) (aqd A) seed).2 (mxU (anq A) (aqd A) seed).1 k).1 ((mxU (anq A) (aqd A) seed).2 k)).1, (mxO (anq A) (aqd A) (mxU (anq A) (aqd A) seed).2 (mxU (anq A) (aqd A) seed).1 k).2.1 + (col (tog (aqd A) ((mxU (anq A) (aqd A) seed).2 k)) (anq A)).1, fun p => if p < (mxO (anq A) (aqd A) (mxU (anq A) (aqd A) seed).2 (mxU (anq A) (aqd A) seed).1 k).2.1 then (mxO (anq A) (aqd A) (mxU (anq A) (aqd A) seed).2 (mxU (anq A) (aqd A) seed).1 k).2.2 p else (mxM (anq A) (aqd A) (mxO (anq A) (aqd A) (mxU (anq A) (aqd A) seed).2 (mxU (anq A) (aqd A) seed).1 k).1 ((mxU (anq A) (aqd A) seed).2 k)).2 (p - (mxO (anq A) (aqd A) (mxU (anq A) (aqd A) seed).2 (mxU (anq A) (aqd A) seed).1 k).2.1)) := rfl
    have hih := ih (k + 1)
    rw [hst] at hle hih
    generalize mxO (anq A) (aqd A) (mxU (anq A) (aqd A) seed).2 (mxU (anq A) (aqd A) seed).1 k = M at a3 a4 hle hih ⊢
    obtain ⟨x, pl, o⟩ := M
    have a3 : J0 259 3 = x := a3
    have a4 : Rp (J0 262) o pl := a4
    generalize (mxU (anq A) (aqd A) seed).2 k = u at hu hU hle hih
    have hle : pl + (col (tog (aqd A) u) (anq A)).1 ≤ anq A := hle
    have hM : mxM (anq A) (aqd A) x u = mixN ((col (tog (aqd A) u) (anq A)).1 - 1) (x, (col (tog (aqd A) u) (anq A)).2) := rfl
    have hRV : RV (J0 260) A := by rw [a1.1 _ (by omega)]; exact h
    have hu3 := (hV.1.2 u hu).2.2.2.2.2.2
    -- the row goes behind the order
    have copy : ∀ (m t : Nat) (J1 K : ZI) (g : Nat → Nat), g = (mxM (anq A) (aqd A) x u).2 → t + m = (col (tog (aqd A) u) (anq A)).1 → MFr I K → Rp (K 266) (mxU (anq A) (aqd A) seed).2 (col (lead (aqd A)) (anq A)).1 → K 259 3 = (mxM (anq A) (aqd A) x u).1 → K 259 8 = nI (col (tog (aqd A) u) (anq A)).1 → Rp (K 265) g (col (tog (aqd A) u) (anq A)).1 → Rp (K 262) (fun p => if p < pl then o p else g (p - pl)) (pl + t)
        → (ZG X RX10 cX10_mixesAll 6 3 0 0 0 0 198 [.ref 259, .int seed, .int (nI (col (lead (aqd A)) (anq A)).1), .int (nI (pl + t)), .int (nI k), .int (nI t)] [] Sg K) := by
      intro m
      induction m with
      | zero =>
        intro t J1 K g hg ht c1 c2 c3 c4 c5 c6
        have e : t = (col (tog (aqd A) u) (anq A)).1 := by omega
        subst e
        refine z_iload dX10_mixesAll_198 rfl ?_
        refine z_aload_n dX10_mixesAll_200 rfl ?_
        refine z_getI fRX10_75 dX10_mixesAll_201 (by first | assumption | rfl) (by rfl) ?_
        refine z_icmp_ge (tgt := 229) dX10_mixesAll_204 (by decide) (fun _ => ?_) (fun hb => absurd (by rw [c4]; exact nI_le (Nat.le_refl _) (by omega)) hb)
        refine z_inc4 (w := 1) dX10_mixesAll_229 rfl (by decide) rfl ?_
        refine z_goto (tgt := 95) dX10_mixesAll_232 (by decide) ?_
        rw [nI_1]
        refine z_fg5 ?_
        subst hg
        exact hih K (by omega) c1 c2 c3 c6
      | succ m ih2 =>
        intro t J1 K g hg ht c1 c2 c3 c4 c5 c6
        refine z_iload dX10_mixesAll_198 rfl ?_
        refine z_aload_n dX10_mixesAll_200 rfl ?_
        refine z_getI fRX10_75 dX10_mixesAll_201 (by first | assumption | rfl) (by rfl) ?_
        refine z_icmp_ge (tgt := 229) dX10_mixesAll_204 (by decide) (fun hb => absurd hb (by rw [c4]; exact nI_ge (by omega) (by omega))) (fun _ => ?_)
        refine z_aload_n dX10_mixesAll_207 rfl ?_
        refine z_getR fRX10_16 dX10_mixesAll_208 (by first | assumption | rfl) (by rfl) ?_
        refine z_iload_n dX10_mixesAll_211 rfl ?_
        refine z_aload_n dX10_mixesAll_212 rfl ?_
        refine z_getR fRX10_25 dX10_mixesAll_213 (by first | assumption | rfl) (by rfl) ?_
        refine z_iload dX10_mixesAll_216 rfl ?_
        refine z_ialdN dX10_mixesAll_218 m_row (rfl) (by omega) (by decide) ?_
        rw [c5 t (by omega)]
        refine z_iastN dX10_mixesAll_219 m_order (rfl) (by omega) (by decide) ?_
        refine z_inc3 (w := 1) dX10_mixesAll_220 rfl (by decide) rfl ?_
        refine z_inc5 (w := 1) dX10_mixesAll_223 rfl (by decide) rfl ?_
        refine z_goto (tgt := 198) dX10_mixesAll_226 (by decide) ?_
        rw [nI_1, nI_1]
        refine ih2 (t + 1) J1 _ g hg (by omega) ⟨fun a ha => by rw [zup_ne _ _ _ (by omega)]; exact c1.1 a ha, fun i q1 q2 => by rw [zup_ne _ _ _ (by decide)]; exact c1.2 i q1 q2⟩ (by rw [zup_ne _ _ _ (by decide)]; exact c2) (by rw [zup_ne _ _ _ (by decide)]; exact c3) (by rw [zup_ne _ _ _ (by decide)]; exact c4) (by rw [zup_ne _ _ _ (by decide)]; exact c5) ?_
        intro p hp
        rw [zup_at]
        by_cases e : p = pl + t
        · subst e
          rw [upd_at]
          show _ = nI (if pl + t < pl then o (pl + t) else g (pl + t - pl))
          rw [if_neg (by omega), Nat.add_sub_cancel_left]
        · rw [upd_ne _ _ e]
          exact c6 p (by omega)
    -- the unit's questions into the row
    have coll : ∀ (m j : Nat) (K : ZI), j + m = anq A → (∀ a, a ≠ 259 → a ≠ 265 → K a = J0 a) → (∀ i, i ≠ 8 → K 259 i = J0 259 i) → K 259 8 = nI (col (tog (aqd A) u) j).1 → Rp (K 265) (col (tog (aqd A) u) j).2 (col (tog (aqd A) u) j).1
        → (ZG X RX10 cX10_mixesAll 6 3 0 0 0 0 109 [.ref 259, .int seed, .int (nI (col (lead (aqd A)) (anq A)).1), .int (nI pl), .int (nI k), .int (nI j)] [] Sg K) := by
      intro m
      induction m with
      | zero =>
        intro j K hj c1 c2 c3 c4
        have e : j = anq A := by omega
        subst e
        have hRK : RV (K 260) A := by rw [c1 _ (by decide) (by decide)]; exact hRV
        refine z_iload dX10_mixesAll_109 rfl ?_
        refine z_aload_n dX10_mixesAll_111 rfl ?_
        refine z_getR fRX10_7 dX10_mixesAll_112 (by first | assumption | rfl) (by rfl) ?_
        refine z_iconst (v := 0) dX10_mixesAll_115 rfl ?_
        refine z_ialdN (j := 0) dX10_mixesAll_116 m_v (rfl) (by decide) (by decide) ?_
        rw [hRK.1]
        refine z_icmp_ge (tgt := 191) dX10_mixesAll_117 (by decide) (fun _ => ?_) (fun hb => absurd (nI_le (Nat.le_refl _) (by omega)) hb)
        refine z_aload_n dX10_mixesAll_191 rfl ?_
        refine z_cV0p mX10_mixes gRX10_82 dX10_mixesAll_192 (q_mixes c3 (by omega)) (by decide) (by first | assumption | rfl) (by rfl) (Nat.le_of_ble_eq_true rfl) (Nat.le_refl _) (Nat.le_refl _) (fun r J hq => ?_)
        obtain ⟨rfl, b1, b2, b3, b4⟩ := hq
        have hm := mix_rp ((col (tog (aqd A) u) (anq A)).1 - 1) (K 259 3) (K 265) (col (tog (aqd A) u) (anq A)).2 (col (tog (aqd A) u) (anq A)).1 (by omega) c4
        rw [← b3, ← b4, c2 3 (by decide), a3, ← hM] at hm
        refine z_iconst (v := 0) dX10_mixesAll_195 rfl ?_
        refine z_ist5 dX10_mixesAll_196 (by decide) rfl ?_
        refine copy (col (tog (aqd A) u) (anq A)).1 0 J J _ rfl (by omega) ⟨fun a ha => by rw [b1 a (by omega) (by omega), c1 a (by omega) (by omega)]; exact a1.1 a ha, fun i q1 q2 => by rw [b2 i q1, c2 i q2]; exact a1.2 i q1 q2⟩ (by rw [b1 _ (by decide) (by decide), c1 _ (by decide) (by decide)]; exact a2) hm.1 (by rw [b2 _ (by decide)]; exact c3) hm.2 ?_
        rw [b1 _ (by decide) (by decide), c1 _ (by decide) (by decide)]
        intro p hp
        have hp2 : p < pl := by omega
        show _ = nI (if p < pl then o p else _)
        rw [if_pos hp2]
        exact a4 p hp2
      | succ m ih2 =>
        intro j K hj c1 c2 c3 c4
        have hj1 : j < anq A := by omega
        have hj3 := (hV.1.2 j hj1).2.2.2.2.2.2
        have hcj := col_le (tog (aqd A) u) j
        have hRK : RV (K 260) A := by rw [c1 _ (by decide) (by decide)]; exact hRV
        have hUK : K 266 k = nI u := by rw [c1 _ (by decide) (by decide)]; exact hU
        have nope : ¬ tog (aqd A) u j = true → (ZG X RX10 cX10_mixesAll 6 3 0 0 0 0 185 [.ref 259, .int seed, .int (nI (col (lead (aqd A)) (anq A)).1), .int (nI pl), .int (nI k), .int (nI j)] [] Sg K) := by
          intro ht
          refine z_inc5 (w := 1) dX10_mixesAll_185 rfl (by decide) rfl ?_
          refine z_goto (tgt := 109) dX10_mixesAll_188 (by decide) ?_
          rw [nI_1]
          exact ih2 (j + 1) K (by omega) c1 c2 (by rw [col_no ht]; exact c3) (by rw [col_no ht]; exact c4)
        have yes : tog (aqd A) u j = true → (ZG X RX10 cX10_mixesAll 6 3 0 0 0 0 164 [.ref 259, .int seed, .int (nI (col (lead (aqd A)) (anq A)).1), .int (nI pl), .int (nI k), .int (nI j)] [] Sg K) := by
          intro ht
          refine z_aload_n dX10_mixesAll_164 rfl ?_
          refine z_getR fRX10_25 dX10_mixesAll_165 (by first | assumption | rfl) (by rfl) ?_
          refine z_aload_n dX10_mixesAll_168 rfl ?_
          refine z_getI fRX10_75 dX10_mixesAll_169 (by first | assumption | rfl) (by rfl) ?_
          refine z_iload dX10_mixesAll_172 rfl ?_
          rw [c3]
          refine z_iastN dX10_mixesAll_174 m_row (rfl) (by omega) (by decide) ?_
          refine z_aload_n dX10_mixesAll_175 rfl ?_
          refine z_dup dX10_mixesAll_176 rfl ?_
          refine z_getI fRX10_75 dX10_mixesAll_177 (by first | assumption | rfl) (by rfl) ?_
          refine z_iconst (v := 1) dX10_mixesAll_180 rfl ?_
          refine z_iadd dX10_mixesAll_181 ?_
          refine z_putI fRX10_75 dX10_mixesAll_182 (by first | assumption | rfl) (by rfl) ?_
          refine z_inc5 (w := 1) dX10_mixesAll_185 rfl (by decide) rfl ?_
          refine z_goto (tgt := 109) dX10_mixesAll_188 (by decide) ?_
          have e9 : zup K 265 (col (tog (aqd A) u) j).1 (nI j) 259 8 = nI (col (tog (aqd A) u) j).1 := by rw [zup_ne _ _ _ (by decide)]; exact c3
          rw [e9, nI_1, nI_1]
          refine ih2 (j + 1) _ (by omega) (fun a q1 q2 => by rw [zup_ne _ _ _ q1, zup_ne _ _ _ q2]; exact c1 a q1 q2) (fun i q => by rw [zup_at, upd_ne _ _ q, zup_ne _ _ _ (by decide)]; exact c2 i q) (by rw [zup_at, upd_at, col_yes ht]) ?_
          rw [zup_ne _ _ _ (by decide), zup_at, col_yes ht]
          intro i hi
          have hi2 : i < (col (tog (aqd A) u) j).1 + 1 := hi
          show upd _ _ _ i = nI (if i = (col (tog (aqd A) u) j).1 then j else (col (tog (aqd A) u) j).2 i)
          by_cases ei : i = (col (tog (aqd A) u) j).1
          · rw [if_pos ei, ei, upd_at]
          · rw [if_neg ei, upd_ne _ _ ei]
            exact c4 i (by omega)
        refine z_iload dX10_mixesAll_109 rfl ?_
        refine z_aload_n dX10_mixesAll_111 rfl ?_
        refine z_getR fRX10_7 dX10_mixesAll_112 (by first | assumption | rfl) (by rfl) ?_
        refine z_iconst (v := 0) dX10_mixesAll_115 rfl ?_
        refine z_ialdN (j := 0) dX10_mixesAll_116 m_v (rfl) (by decide) (by decide) ?_
        rw [hRK.1]
        refine z_icmp_ge (tgt := 191) dX10_mixesAll_117 (by decide) (fun hb => absurd hb (nI_ge (by omega) (by omega))) (fun _ => ?_)
        refine z_iload dX10_mixesAll_120 rfl ?_
        refine z_aload_n dX10_mixesAll_122 rfl ?_
        refine z_getR fRX10_28 dX10_mixesAll_123 (by first | assumption | rfl) (by rfl) ?_
        refine z_iload dX10_mixesAll_126 rfl ?_
        refine z_ialdN dX10_mixesAll_128 m_units (rfl) (by omega) (by decide) ?_
        rw [hUK]
        by_cases e1 : j = u
        · refine z_icmp_eq (tgt := 164) dX10_mixesAll_129 (by decide) (fun _ => ?_) (fun hb => absurd (by rw [e1]) hb)
          exact yes (tog_dec.mpr (Or.inl e1.symm))
        · refine z_icmp_eq (tgt := 164) dX10_mixesAll_129 (by decide) (fun hb => absurd hb (fun z => e1 ((nI_eq (by omega) (by omega)).mp z))) (fun _ => ?_)
          refine z_aload_n dX10_mixesAll_132 rfl ?_
          refine z_iload dX10_mixesAll_133 rfl ?_
          refine z_iconst (v := 3) dX10_mixesAll_135 rfl ?_
          refine z_cV2s mX10_of gRX10_61 dX10_mixesAll_136 (q_of hRK hn rfl (show (3 : Int32) = nI 3 from rfl) hj1 (by decide)) (by decide) (by first | assumption | rfl) (by rfl) (Nat.le_of_ble_eq_true rfl) (Nat.le_refl _) (Nat.le_refl _) ?_
          by_cases e2 : aqd A j 3 = 0
          · refine z_if_eq (tgt := 185) dX10_mixesAll_139 (by decide) (fun _ => ?_) (fun hb => absurd (by rw [e2]; rfl) hb)
            refine nope (fun z => ?_)
            rcases tog_dec.mp z with z | ⟨z1, z2⟩
            · exact e1 z.symm
            · exact z1 (z2.trans e2)
          · refine z_if_eq (tgt := 185) dX10_mixesAll_139 (by decide) (fun hb => absurd hb (nI_ne0 (by omega) (by omega))) (fun _ => ?_)
            refine z_aload_n dX10_mixesAll_142 rfl ?_
            refine z_iload dX10_mixesAll_143 rfl ?_
            refine z_iconst (v := 3) dX10_mixesAll_145 rfl ?_
            refine z_cV2s mX10_of gRX10_61 dX10_mixesAll_146 (q_of hRK hn rfl (show (3 : Int32) = nI 3 from rfl) hj1 (by decide)) (by decide) (by first | assumption | rfl) (by rfl) (Nat.le_of_ble_eq_true rfl) (Nat.le_refl _) (Nat.le_refl _) ?_
            refine z_aload_n dX10_mixesAll_149 rfl ?_
            refine z_aload_n dX10_mixesAll_150 rfl ?_
            refine z_getR fRX10_28 dX10_mixesAll_151 (by first | assumption | rfl) (by rfl) ?_
            refine z_iload dX10_mixesAll_154 rfl ?_
            refine z_ialdN dX10_mixesAll_156 m_units (rfl) (by omega) (by decide) ?_
            rw [hUK]
            refine z_iconst (v := 3) dX10_mixesAll_157 rfl ?_
            refine z_cV2s mX10_of gRX10_61 dX10_mixesAll_158 (q_of hRK hn rfl (show (3 : Int32) = nI 3 from rfl) hu (by decide)) (by decide) (by first | assumption | rfl) (by rfl) (Nat.le_of_ble_eq_true rfl) (Nat.le_refl _) (Nat.le_refl _) ?_
            by_cases e3 : aqd A j 3 = aqd A u 3
            · refine z_icmp_ne (tgt := 185) dX10_mixesAll_161 (by decide) (fun hb => absurd (by rw [e3]) hb) (fun _ => ?_)
              exact yes (tog_dec.mpr (Or.inr ⟨by rw [← e3]; exact e2, e3.symm⟩))
            · refine z_icmp_ne (tgt := 185) dX10_mixesAll_161 (by decide) (fun _ => ?_) (fun hb => absurd hb (fun z => e3 ((nI_eq (by omega) (by omega)).mp z)))
              refine nope (fun z => ?_)
              rcases tog_dec.mp z with z | ⟨z1, z2⟩
              · exact e1 z.symm
              · exact e3 z2.symm
    refine z_iload dX10_mixesAll_95 rfl ?_
    refine z_iload_n dX10_mixesAll_97 rfl ?_
    refine z_icmp_ge (tgt := 235) dX10_mixesAll_98 (by decide) (fun hb => absurd hb (nI_ge (by omega) (by omega))) (fun _ => ?_)
    refine z_aload_n dX10_mixesAll_101 rfl ?_
    refine z_iconst (v := 0) dX10_mixesAll_102 rfl ?_
    refine z_putI fRX10_75 dX10_mixesAll_103 (by first | assumption | rfl) (by rfl) ?_
    refine z_iconst (v := 0) dX10_mixesAll_106 rfl ?_
    refine z_ist5 dX10_mixesAll_107 (by decide) rfl ?_
    refine coll (anq A) 0 _ (by omega) (fun a q1 q2 => zup_ne _ _ _ q1) (fun i q => by rw [zup_at, upd_ne _ _ q]) (by rw [zup_at, upd_at]; rfl) (fun j hj => absurd hj (Nat.not_lt_zero j))

