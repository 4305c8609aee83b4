/-! ===== the law's pages ===== -/
/-- where the walk over the pages stands ahead of a place -/
def PgS (A : AS) (v p : Nat) (page line : Int32) : Prop := (p = 0 ∧ page = -1 ∧ line = 0) ∨ ∃ i k, i < vN A v ∧ k < vP A v (i + 1) - vP A v i ∧ p = vP A v i + k + 1 ∧ page = nI i ∧ line = nI (smh (vH A v) (vP A v i) (k + 1))
theorem pg_step {A : AS} {v p i k : Nat} {page line : Int32} (hV : AV A) (hS : PgS A v p page line) (hi : i < vN A v) (hk : k < vP A v (i + 1) - vP A v i) (hp : p = vP A v i + k) : (k = 0 ∧ page + 1 = nI i) ∨ (0 < k ∧ page = nI i ∧ line = nI (smh (vH A v) (vP A v i) k)) := by
  rcases hS with ⟨h0, rfl, rfl⟩ | ⟨i', k', hi', hk', hp', rfl, rfl⟩
  · left
    have : i = 0 := by
      rcases Nat.eq_zero_or_pos i with e | e
      · exact e
      · have := vP_lt (v := v) hV e (by omega)
        omega
    subst this
    exact ⟨by omega, by rw [nI_0]; decide⟩
  · rcases Nat.lt_trichotomy i i' with c | c | c
    · exfalso
      have h1 : vP A v (i + 1) ≤ vP A v i' := by
        rcases Nat.eq_or_lt_of_le (show i + 1 ≤ i' by omega) with e | e
        · rw [e]; exact Nat.le_refl _
        · exact Nat.le_of_lt (vP_lt (v := v) hV e (by omega))
      omega
    · subst c
      right
      exact ⟨by omega, rfl, by rw [show k' + 1 = k by omega]⟩
    · left
      have h1 : vP A v (i' + 1) ≤ vP A v i := by
        rcases Nat.eq_or_lt_of_le (show i' + 1 ≤ i by omega) with e | e
        · rw [e]; exact Nat.le_refl _
        · exact Nat.le_of_lt (vP_lt (v := v) hV e (by omega))
      have e2 : i' + 1 = i := by
        rcases Nat.eq_or_lt_of_le (show i' + 1 ≤ i by omega) with e | e
        · exact e
        · have := vP_lt (v := v) hV e (by omega)
          omega
      exact ⟨by omega, by rw [nI_1, e2]⟩
theorem pg_end {A : AS} {v : Nat} {page line : Int32} (hV : AV A) (hS : PgS A v (anq A) page line) : page = nI (vN A v) - 1 ∧ (vN A v = 0 ↔ anq A = 0) := by
  have he := vP_end (v := v) hV
  have h0 : vN A v = 0 ↔ anq A = 0 := by
    constructor
    · intro e
      rw [e] at he
      exact he.symm
    · intro e
      rcases Nat.eq_zero_or_pos (vN A v) with c | c
      · exact c
      · have := vP_lt (v := v) hV c (Nat.le_refl _)
        omega
  refine ⟨?_, h0⟩
  rcases hS with ⟨e, rfl, rfl⟩ | ⟨i, k, hi, hk, hp, rfl, rfl⟩
  · rw [h0.mpr e]; decide
  · have : i + 1 = vN A v := by
      rcases Nat.eq_or_lt_of_le (show i + 1 ≤ vN A v by omega) with e | e
      · exact e
      · have := vP_lt (v := v) hV e (Nat.le_refl _)
        omega
    rw [← this, nI_pred]
theorem l_pages {T : CT} {I : ZI} {v : Nat} (h : KI T I) (hv : v < anv T.1) : ZK yL_pages cL_pages 10 (some FieldType.boolean) 7 [.ref 0, .int (nI v), .int (nI (anq T.1))] T I (.int 1) := by
  have hV := h.av
  have h20 := hV.n20
  have hN := vN_le T.1 v
  have hPe := vP_end (v := v) hV
  have h0 := at_tv
  refine ZSp.of (own := RL) (L := [.ref 0, .int (nI v), .int (nI (anq T.1)), zj, zj, zj, zj, zj, zj, zj]) mL_pages rfl (List.all_eq_true.mp rfl) (Nat.le_of_ble_eq_true rfl) rfl (fun X hE hN => ?_)
  have loop2 : ∀ (m p : Nat) (page line : Int32) (most : Nat) (J : ZI), p + m = anq T.1 → most ≤ 60 → PgS T.1 v p page line → KI T J → (ZG X RL cL_pages 10 7 0 0 0 0 95 [.ref 0, .int (nI v), .int (nI (anq T.1)), .int (nI (vN T.1 v)), .int page, .int line, .int (nI most), .int (nI (anq T.1)), .int (nI p), zj] [] Sg J) := by
    intro m
    induction m with
    | zero =>
      intro p page line most J hp hm hS hK
      have e : p = anq T.1 := by omega
      subst e
      obtain ⟨e1, e2⟩ := pg_end hV hS
      refine z_iload dL_pages_95 rfl ?_
      refine z_iload_n dL_pages_97 rfl ?_
      refine z_icmp_ge (tgt := 216) dL_pages_98 (by decide) (fun _ => ?_) (fun hb => absurd (nI_le (Nat.le_refl _) (by omega)) hb)
      refine z_iload dL_pages_216 rfl ?_
      refine z_iload_n dL_pages_218 rfl ?_
      refine z_icmp_ne (tgt := 262) dL_pages_219 (by decide) (fun hb => absurd (rfl) hb) (fun _ => ?_)
      refine z_iload dL_pages_222 rfl ?_
      refine z_iload_n dL_pages_224 rfl ?_
      refine z_iconst (v := 1) dL_pages_225 rfl ?_
      refine z_isub dL_pages_226 ?_
      refine z_icmp_ne (tgt := 262) dL_pages_227 (by decide) (fun hb => absurd (e1) hb) (fun _ => ?_)
      refine z_iload_n dL_pages_230 rfl ?_
      have K : (ZG X RL cL_pages 10 7 0 0 0 0 251 [.ref 0, .int (nI v), .int (nI (anq T.1)), .int (nI (vN T.1 v)), .int page, .int line, .int (nI most), .int (nI (anq T.1)), .int (nI (anq T.1)), zj] [] Sg J) := by
        refine z_iload dL_pages_251 rfl ?_
        refine z_bipush (v := 60) dL_pages_253 rfl ?_
        refine z_icmp_gt (tgt := 262) dL_pages_255 (by decide) (fun hb => absurd hb (nI_nlt (a := 60) (b := most) (by omega) (by decide))) (fun _ => ?_)
        refine z_iconst (v := 1) dL_pages_258 rfl ?_
        refine z_goto (tgt := 263) dL_pages_259 (by decide) ?_
        exact z_zret hE dL_pages_263 rfl ⟨rfl, rfl, hK⟩
      by_cases c : vN T.1 v = 0
      · have c2 := e2.mp c
        refine z_if_ne (tgt := 238) dL_pages_231 (by decide) (fun hb => absurd ((by rw [c]; rfl)) hb) (fun _ => ?_)
        refine z_iconst (v := 1) dL_pages_234 rfl ?_
        refine z_goto (tgt := 239) dL_pages_235 (by decide) ?_
        refine z_iload_n dL_pages_239 rfl ?_
        refine z_if_ne (tgt := 247) dL_pages_240 (by decide) (fun hb => absurd ((by rw [c2]; rfl)) hb) (fun _ => ?_)
        refine z_iconst (v := 1) dL_pages_243 rfl ?_
        refine z_goto (tgt := 248) dL_pages_244 (by decide) ?_
        refine z_icmp_ne (tgt := 262) dL_pages_248 (by decide) (fun hb => absurd (rfl) hb) (fun _ => ?_)
        exact K
      · have c2 : ¬ anq T.1 = 0 := fun q => c (e2.mpr q)
        refine z_if_ne (tgt := 238) dL_pages_231 (by decide) (fun _ => ?_) (fun hb => absurd hb (nI_ne0 (by omega) (by omega)))
        refine z_iconst (v := 0) dL_pages_238 rfl ?_
        refine z_iload_n dL_pages_239 rfl ?_
        refine z_if_ne (tgt := 247) dL_pages_240 (by decide) (fun _ => ?_) (fun hb => absurd hb (nI_ne0 (by omega) (by omega)))
        refine z_iconst (v := 0) dL_pages_247 rfl ?_
        refine z_icmp_ne (tgt := 262) dL_pages_248 (by decide) (fun hb => absurd (rfl) hb) (fun _ => ?_)
        exact K
    | succ m ih =>
      intro p page line most J hp hm hS hK
      have hpn : p < anq T.1 := by omega
      obtain ⟨i, k, hi, hk, hpe⟩ := vP_page (v := v) hV hpn
      obtain ⟨a2, a3⟩ := at_pg (v := v) hV hi hk
      rw [← hpe] at a2 a3
      have hPi := vP_in (v := v) hV hi
      have hH := vH_in (v := v) hV hpn
      have hqo := vO_lt (v := v) hpn
      have hst := pg_step hV hS hi hk hpe
      have nxt : ∀ (J : ZI), KI T J → (ZG X RL cL_pages 10 7 0 0 0 0 210 [.ref 0, .int (nI v), .int (nI (anq T.1)), .int (nI (vN T.1 v)), .int (nI i), .int (nI (smh (vH T.1 v) (vP T.1 v i) (k + 1))), .int (nI most), .int (nI (anq T.1)), .int (nI p), .int (nI (vH T.1 v p))] [] Sg J) := by
        intro J hK
        refine z_inc8 (w := 1) dL_pages_210 rfl (by decide) rfl ?_
        refine z_goto (tgt := 95) dL_pages_213 (by decide) ?_
        have := ih (p + 1) (nI i) (nI (smh (vH T.1 v) (vP T.1 v i) (k + 1))) most J (by omega) hm (Or.inr ⟨i, k, hi, hk, by omega, rfl, rfl⟩) hK
        rw [nI_1]
        refine z_fg9 ?_
        exact this
      have last : ∀ (J : ZI), KI T J → vP T.1 v (i + 1) = vP T.1 v i + (k + 1) → (ZG X RL cL_pages 10 7 0 0 0 0 195 [.ref 0, .int (nI v), .int (nI (anq T.1)), .int (nI (vN T.1 v)), .int (nI i), .int (nI (smh (vH T.1 v) (vP T.1 v i) (k + 1))), .int (nI most), .int (nI (anq T.1)), .int (nI p), .int (nI (vH T.1 v p))] [] Sg J) := by
        intro J hK he
        refine z_aload_n dL_pages_195 rfl ?_
        refine z_iload_n dL_pages_196 rfl ?_
        refine z_iload dL_pages_197 rfl ?_
        refine z_iconst (v := 1) dL_pages_199 rfl ?_
        refine z_cV3p mX9_page gRL_57 dL_pages_200 (k_page1 hK rfl hv rfl hi) (by decide) (by first | assumption | rfl) (by rfl) (Nat.le_of_ble_eq_true rfl) (Nat.le_refl _) (Nat.le_refl _) (fun r J hq => ?_)
        obtain ⟨rfl, hK⟩ := hq
        refine z_iload dL_pages_203 rfl ?_
        refine z_icmp_eq (tgt := 210) dL_pages_205 (by decide) (fun _ => ?_) (fun hb => absurd ((by rw [pgh, he, Nat.add_sub_cancel_left])) hb)
        exact nxt J hK
      have K : ∀ (J : ZI), KI T J → (ZG X RL cL_pages 10 7 0 0 0 0 137 [.ref 0, .int (nI v), .int (nI (anq T.1)), .int (nI (vN T.1 v)), .int (nI i), .int (nI (smh (vH T.1 v) (vP T.1 v i) k)), .int (nI most), .int (nI (anq T.1)), .int (nI p), .int (nI (vH T.1 v p))] [] Sg J) := by
        intro J hK
        refine z_aload_n dL_pages_137 rfl ?_
        refine z_iload_n dL_pages_138 rfl ?_
        refine z_iload dL_pages_139 rfl ?_
        refine z_iconst (v := 2) dL_pages_141 rfl ?_
        refine z_cV3p mX9_at gRL_33 dL_pages_142 (k_at hK rfl hv rfl hpn (Or.inr (Or.inr (Or.inl rfl)))) (by decide) (by first | assumption | rfl) (by rfl) (Nat.le_of_ble_eq_true rfl) (Nat.le_refl _) (Nat.le_refl _) (fun r J hq => ?_)
        obtain ⟨rfl, hK⟩ := hq
        rw [a2]
        refine z_iload dL_pages_145 rfl ?_
        refine z_icmp_ne (tgt := 163) dL_pages_147 (by decide) (fun hb => absurd (rfl) hb) (fun _ => ?_)
        refine z_aload_n dL_pages_150 rfl ?_
        refine z_iload_n dL_pages_151 rfl ?_
        refine z_iload dL_pages_152 rfl ?_
        refine z_iconst (v := 3) dL_pages_154 rfl ?_
        refine z_cV3p mX9_at gRL_33 dL_pages_155 (k_at hK rfl hv rfl hpn (Or.inr (Or.inr (Or.inr rfl)))) (by decide) (by first | assumption | rfl) (by rfl) (Nat.le_of_ble_eq_true rfl) (Nat.le_refl _) (Nat.le_refl _) (fun r J hq => ?_)
        obtain ⟨rfl, hK⟩ := hq
        rw [a3]
        refine z_iload dL_pages_158 rfl ?_
        refine z_icmp_eq (tgt := 165) dL_pages_160 (by decide) (fun _ => ?_) (fun hb => absurd (rfl) hb)
        refine z_iload dL_pages_165 rfl ?_
        refine z_iload dL_pages_167 rfl ?_
        refine z_iadd dL_pages_169 ?_
        refine z_ist5 dL_pages_170 (by decide) rfl ?_
        refine z_iload dL_pages_172 rfl ?_
        refine z_iload_n dL_pages_174 rfl ?_
        refine z_iconst (v := 1) dL_pages_175 rfl ?_
        refine z_isub dL_pages_176 ?_
        rw [nI_add, show smh (vH T.1 v) (vP T.1 v i) k + vH T.1 v p = smh (vH T.1 v) (vP T.1 v i) (k + 1) by rw [smh, hpe]]
        rw [show nI (anq T.1) - 1 = nI (anq T.1 - 1) from xI_sub (b := 1) (by omega)]
        by_cases c : p = anq T.1 - 1
        · refine z_icmp_eq (tgt := 195) dL_pages_177 (by decide) (fun _ => ?_) (fun hb => absurd ((by rw [c])) hb)
          exact last _ hK (by omega)
        · refine z_icmp_eq (tgt := 195) dL_pages_177 (by decide) (fun hb => absurd hb ((fun e => c ((nI_eq (by omega) (by omega)).mp e)))) (fun _ => ?_)
          refine z_aload_n dL_pages_180 rfl ?_
          refine z_iload_n dL_pages_181 rfl ?_
          refine z_iload dL_pages_182 rfl ?_
          refine z_iconst (v := 1) dL_pages_184 rfl ?_
          refine z_iadd dL_pages_185 ?_
          refine z_iconst (v := 2) dL_pages_186 rfl ?_
          rw [nI_1]
          refine z_cV3p mX9_at gRL_33 dL_pages_187 (k_at hK rfl hv rfl (show p + 1 < anq T.1 by omega) (Or.inr (Or.inr (Or.inl rfl)))) (by decide) (by first | assumption | rfl) (by rfl) (Nat.le_of_ble_eq_true rfl) (Nat.le_refl _) (Nat.le_refl _) (fun r J hq => ?_)
          obtain ⟨rfl, hK⟩ := hq
          refine z_iload dL_pages_190 rfl ?_
          by_cases c2 : k + 1 < vP T.1 v (i + 1) - vP T.1 v i
          · have b2 := (at_pg (v := v) hV hi c2).1
            rw [show vP T.1 v i + (k + 1) = p + 1 by omega] at b2
            rw [b2]
            refine z_icmp_eq (tgt := 210) dL_pages_192 (by decide) (fun _ => ?_) (fun hb => absurd (rfl) hb)
            exact nxt _ hK
          · refine z_icmp_eq (tgt := 210) dL_pages_192 (by decide) (fun hb => ?_) (fun hb => ?_)
            · exact nxt _ hK
            · exact last _ hK (by omega)
      refine z_iload dL_pages_95 rfl ?_
      refine z_iload_n dL_pages_97 rfl ?_
      refine z_icmp_ge (tgt := 216) dL_pages_98 (by decide) (fun hb => absurd hb (nI_ge (by omega) (by omega))) (fun _ => ?_)
      refine z_aload_n dL_pages_101 rfl ?_
      refine z_aload_n dL_pages_102 rfl ?_
      refine z_iload_n dL_pages_103 rfl ?_
      refine z_iload dL_pages_104 rfl ?_
      refine z_iconst (v := 0) dL_pages_106 rfl ?_
      refine z_cV3p mX9_at gRL_33 dL_pages_107 (k_at hK rfl hv rfl hpn (Or.inl rfl)) (by decide) (by first | assumption | rfl) (by rfl) (Nat.le_of_ble_eq_true rfl) (Nat.le_refl _) (Nat.le_refl _) (fun r J hq => ?_)
      obtain ⟨rfl, hK⟩ := hq
      rw [at0]
      refine z_iconst (v := 0) dL_pages_110 rfl ?_
      refine z_cV2p mX9_question gRL_29 dL_pages_111 (k_question (j := 0) hK rfl hqo rfl (by decide)) (by decide) (by first | assumption | rfl) (by rfl) (Nat.le_of_ble_eq_true rfl) (Nat.le_refl _) (Nat.le_refl _) (fun r J hq => ?_)
      obtain ⟨rfl, hK⟩ := hq
      rw [show aqd T.1 (vO T.1 v p) 0 = vH T.1 v p from rfl]
      refine z_ist9 dL_pages_114 (by decide) rfl ?_
      refine z_aload_n dL_pages_116 rfl ?_
      refine z_iload_n dL_pages_117 rfl ?_
      refine z_iload dL_pages_118 rfl ?_
      refine z_iconst (v := 2) dL_pages_120 rfl ?_
      refine z_cV3p mX9_at gRL_33 dL_pages_121 (k_at hK rfl hv rfl hpn (Or.inr (Or.inr (Or.inl rfl)))) (by decide) (by first | assumption | rfl) (by rfl) (Nat.le_of_ble_eq_true rfl) (Nat.le_refl _) (Nat.le_refl _) (fun r J hq => ?_)
      obtain ⟨rfl, hK⟩ := hq
      rw [a2]
      refine z_iload dL_pages_124 rfl ?_
      refine z_iconst (v := 1) dL_pages_126 rfl ?_
      refine z_iadd dL_pages_127 ?_
      rcases hst with ⟨rfl, e⟩ | ⟨hk0, rfl, rfl⟩
      · rw [e]
        refine z_icmp_ne (tgt := 137) dL_pages_128 (by decide) (fun hb => absurd (rfl) hb) (fun _ => ?_)
        refine z_inc4 (w := 1) dL_pages_131 rfl (by decide) rfl ?_
        refine z_iconst (v := 0) dL_pages_134 rfl ?_
        refine z_ist5 dL_pages_135 (by decide) rfl ?_
        rw [e]
        exact K _ hK
      · rw [nI_1]
        refine z_icmp_ne (tgt := 137) dL_pages_128 (by decide) (fun _ => ?_) (fun hb => absurd hb ((fun e => by have := (nI_eq (by omega) (by omega)).mp e; omega)))
        exact K _ hK
  have loop1 : ∀ (m k : Nat) (most : Nat) (J : ZI), k + m = vN T.1 v → most ≤ 60 → KI T J → (ZG X RL cL_pages 10 7 0 0 0 0 21 [.ref 0, .int (nI v), .int (nI (anq T.1)), .int (nI (vN T.1 v)), .int (-1), .int 0, .int (nI most), .int (nI (vP T.1 v k)), .int (nI k), zj] [] Sg J) := by
    intro m
    induction m with
    | zero =>
      intro k most J hk hm hK
      have e : k = vN T.1 v := by omega
      subst e
      refine z_iload dL_pages_21 rfl ?_
      refine z_iload_n dL_pages_23 rfl ?_
      refine z_icmp_ge (tgt := 92) dL_pages_24 (by decide) (fun _ => ?_) (fun hb => absurd (nI_le (Nat.le_refl _) (by omega)) hb)
      refine z_iconst (v := 0) dL_pages_92 rfl ?_
      refine z_ist8 dL_pages_93 (by decide) rfl ?_
      rw [hPe]
      exact loop2 (anq T.1) 0 (-1) 0 most J (Nat.zero_add _) hm (Or.inl ⟨rfl, rfl, rfl⟩) hK
    | succ m ih =>
      intro k most J hk hm hK
      have hkN : k < vN T.1 v := by omega
      have hPk := vP_in (v := v) hV hkN
      have hg := pgh_in (v := v) hV hkN
      have K : ∀ (m2 : Nat) (J : ZI), m2 ≤ 60 → KI T J → (ZG X RL cL_pages 10 7 0 0 0 0 51 [.ref 0, .int (nI v), .int (nI (anq T.1)), .int (nI (vN T.1 v)), .int (-1), .int 0, .int (nI most), .int (nI (vP T.1 v k)), .int (nI k), .int (nI (pgh T.1 v k))] [.int (nI m2)] Sg J) := by
        intro m2 J hm2 hK
        refine z_ist6 dL_pages_51 (by decide) rfl ?_
        refine z_iload dL_pages_53 rfl ?_
        refine z_aload_n dL_pages_55 rfl ?_
        refine z_iload_n dL_pages_56 rfl ?_
        refine z_iload dL_pages_57 rfl ?_
        refine z_iconst (v := 0) dL_pages_59 rfl ?_
        refine z_cV3p mX9_page gRL_57 dL_pages_60 (k_page0 hK rfl hv rfl hkN) (by decide) (by first | assumption | rfl) (by rfl) (Nat.le_of_ble_eq_true rfl) (Nat.le_refl _) (Nat.le_refl _) (fun r J hq => ?_)
        obtain ⟨rfl, hK⟩ := hq
        refine z_iadd dL_pages_63 ?_
        refine z_ist7 dL_pages_64 (by decide) rfl ?_
        refine z_iload dL_pages_66 rfl ?_
        refine z_iconst (v := 1) dL_pages_68 rfl ?_
        rw [nI_add, show vP T.1 v k + (vP T.1 v (k + 1) - vP T.1 v k) = vP T.1 v (k + 1) by omega]
        refine z_icmp_lt (tgt := 84) dL_pages_69 (by decide) (fun hb => absurd hb (nI_nlt (a := pgh T.1 v k) (b := 1) (by omega) (by omega))) (fun _ => ?_)
        refine z_aload_n dL_pages_72 rfl ?_
        refine z_iload_n dL_pages_73 rfl ?_
        refine z_iload dL_pages_74 rfl ?_
        refine z_iconst (v := 0) dL_pages_76 rfl ?_
        refine z_cV3p mX9_page gRL_57 dL_pages_77 (k_page0 hK rfl hv rfl hkN) (by decide) (by first | assumption | rfl) (by rfl) (Nat.le_of_ble_eq_true rfl) (Nat.le_refl _) (Nat.le_refl _) (fun r J hq => ?_)
        obtain ⟨rfl, hK⟩ := hq
        refine z_iconst (v := 1) dL_pages_80 rfl ?_
        refine z_icmp_ge (tgt := 86) dL_pages_81 (by decide) (fun _ => ?_) (fun hb => absurd (nI_le (a := 1) (b := vP T.1 v (k + 1) - vP T.1 v k) (by omega) (by omega)) hb)
        refine z_inc8 (w := 1) dL_pages_86 rfl (by decide) rfl ?_
        refine z_goto (tgt := 21) dL_pages_89 (by decide) ?_
        rw [nI_1]
        refine z_fg9 ?_
        exact ih (k + 1) m2 _ (by omega) hm2 hK
      refine z_iload dL_pages_21 rfl ?_
      refine z_iload_n dL_pages_23 rfl ?_
      refine z_icmp_ge (tgt := 92) dL_pages_24 (by decide) (fun hb => absurd hb (nI_ge (by omega) (by omega))) (fun _ => ?_)
      refine z_aload_n dL_pages_27 rfl ?_
      refine z_iload_n dL_pages_28 rfl ?_
      refine z_iload dL_pages_29 rfl ?_
      refine z_iconst (v := 1) dL_pages_31 rfl ?_
      refine z_cV3p mX9_page gRL_57 dL_pages_32 (k_page1 hK rfl hv rfl hkN) (by decide) (by first | assumption | rfl) (by rfl) (Nat.le_of_ble_eq_true rfl) (Nat.le_refl _) (Nat.le_refl _) (fun r J hq => ?_)
      obtain ⟨rfl, hK⟩ := hq
      refine z_ist9 dL_pages_35 (by decide) rfl ?_
      refine z_iload dL_pages_37 rfl ?_
      refine z_iload dL_pages_39 rfl ?_
      refine z_icmp_le (tgt := 49) dL_pages_41 (by decide) (fun hb => ?_) (fun hb => ?_)
      · refine z_iload dL_pages_49 rfl ?_
        exact K most _ hm hK
      · refine z_iload dL_pages_44 rfl ?_
        refine z_goto (tgt := 51) dL_pages_46 (by decide) ?_
        exact K _ _ hg.2 hK
  refine z_aload_n dL_pages_0 rfl ?_
  refine z_iload_n dL_pages_1 rfl ?_
  refine z_cV1p mX9_pages gRL_54 dL_pages_2 (k_pages h rfl hv) (by decide) (by first | assumption | rfl) (by rfl) (Nat.le_of_ble_eq_true rfl) (Nat.le_refl _) (Nat.le_refl _) (fun r J hq => ?_)
  obtain ⟨rfl, hK⟩ := hq
  refine z_ist3 dL_pages_5 (by decide) rfl ?_
  refine z_iconst (v := -1) dL_pages_6 rfl ?_
  refine z_ist4 dL_pages_7 (by decide) rfl ?_
  refine z_iconst (v := 0) dL_pages_9 rfl ?_
  refine z_ist5 dL_pages_10 (by decide) rfl ?_
  refine z_iconst (v := 0) dL_pages_12 rfl ?_
  refine z_ist6 dL_pages_13 (by decide) rfl ?_
  refine z_iconst (v := 0) dL_pages_15 rfl ?_
  refine z_ist7 dL_pages_16 (by decide) rfl ?_
  refine z_iconst (v := 0) dL_pages_18 rfl ?_
  refine z_ist8 dL_pages_19 (by decide) rfl ?_
  exact loop1 (vN T.1 v) 0 0 _ (Nat.zero_add _) (by decide) hK

