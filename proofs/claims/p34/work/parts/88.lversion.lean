/-! ===== the law's version ===== -/
theorem l_version {T : CT} {I : ZI} {v : Nat} (h : KI T I) (hv : v < anv T.1) : ZK yL_version cL_version 13 (some FieldType.boolean) 8 [.ref 0, .int (nI v), .int (nI (anq T.1))] T I (.int 1) := by
  have hV := h.av
  have h20 := hV.n20
  have h0 := at_tv
  refine ZSp.of (own := RL) (L := [.ref 0, .int (nI v), .int (nI (anq T.1)), zj, zj, zj, zj, zj, zj, zj, zj, zj, zj]) mL_version rfl (List.all_eq_true.mp rfl) (Nat.le_of_ble_eq_true rfl) rfl (fun X hE hN => ?_)
  have loop : ∀ (m p : Nat) (m1 m2 : Int32) (J : ZI), p + m = anq T.1 → BM m1 (fun q => ∃ p', p' < p ∧ vO T.1 v p' = q) → BM m2 (fun g => g ≠ 0 ∧ ∃ p', p' < p ∧ aqd T.1 (vO T.1 v p') 3 = g) → KI T J → (ZG X RL cL_version 13 8 0 0 0 0 11 [.ref 0, .int (nI v), .int (nI (anq T.1)), .int m1, .int m2, .int (nI (if p = 0 then 0 else aqd T.1 (vO T.1 v (p - 1)) 3)), .int (nI p), zj, zj, zj, zj, zj, zj] [] Sg J) := by
    intro m
    induction m with
    | zero =>
      intro p m1 m2 J hp hm1 hm2 hK
      have e : p = anq T.1 := by omega
      subst e
      refine z_iload dL_version_11 rfl ?_
      refine z_iload_n dL_version_13 rfl ?_
      refine z_icmp_ge (tgt := 283) dL_version_14 (by decide) (fun _ => ?_) (fun hb => absurd (nI_le (Nat.le_refl _) (by omega)) hb)
      refine z_aload_n dL_version_283 rfl ?_
      refine z_iload_n dL_version_284 rfl ?_
      refine z_iload_n dL_version_285 rfl ?_
      refine z_iconst (v := 0) dL_version_286 rfl ?_
      refine z_cV3p mX9_alike gRL_42 dL_version_287 (k_alike hK rfl hv rfl hv (Or.inl rfl)) (by decide) (by first | assumption | rfl) (by rfl) (Nat.le_of_ble_eq_true rfl) (Nat.le_refl _) (Nat.le_refl _) (fun r J hq => ?_)
      obtain ⟨rfl, hK⟩ := hq
      rw [al0]
      refine z_iload_n dL_version_290 rfl ?_
      refine z_icmp_ne (tgt := 339) dL_version_291 (by decide) (fun hb => absurd (rfl) hb) (fun _ => ?_)
      refine z_aload_n dL_version_294 rfl ?_
      refine z_iload_n dL_version_295 rfl ?_
      refine z_iload_n dL_version_296 rfl ?_
      refine z_iconst (v := 1) dL_version_297 rfl ?_
      refine z_cV3p mX9_alike gRL_42 dL_version_298 (k_alike hK rfl hv rfl hv (Or.inr (Or.inl rfl))) (by decide) (by first | assumption | rfl) (by rfl) (Nat.le_of_ble_eq_true rfl) (Nat.le_refl _) (Nat.le_refl _) (fun r J hq => ?_)
      obtain ⟨rfl, hK⟩ := hq
      rw [al1]
      refine z_iload_n dL_version_301 rfl ?_
      refine z_icmp_ne (tgt := 339) dL_version_302 (by decide) (fun hb => absurd (rfl) hb) (fun _ => ?_)
      refine z_aload_n dL_version_305 rfl ?_
      refine z_iload_n dL_version_306 rfl ?_
      refine z_iload_n dL_version_307 rfl ?_
      refine z_iconst (v := 2) dL_version_308 rfl ?_
      refine z_cV3p mX9_alike gRL_42 dL_version_309 (k_alike hK rfl hv rfl hv (Or.inr (Or.inr rfl))) (by decide) (by first | assumption | rfl) (by rfl) (Nat.le_of_ble_eq_true rfl) (Nat.le_refl _) (Nat.le_refl _) (fun r J hq => ?_)
      obtain ⟨rfl, hK⟩ := hq
      rw [al2]
      refine z_iload_n dL_version_312 rfl ?_
      have K : ∀ (J : ZI), KI T J → (ZG X RL cL_version 13 8 0 0 0 0 326 [.ref 0, .int (nI v), .int (nI (anq T.1)), .int m1, .int m2, .int (nI (if anq T.1 = 0 then 0 else aqd T.1 (vO T.1 v (anq T.1 - 1)) 3)), .int (nI (anq T.1)), zj, zj, zj, zj, zj, zj] [] Sg J) := by
        intro J hK
        refine z_aload_n dL_version_326 rfl ?_
        refine z_iload_n dL_version_327 rfl ?_
        refine z_iload_n dL_version_328 rfl ?_
        refine z_cS3p mL_pages gRL_97 dL_version_329 (l_pages hK hv) (by decide) (Nat.le_of_ble_eq_true rfl) (Nat.le_refl _) (Nat.le_refl _) (fun r J hq => ?_)
        obtain ⟨rfl, hK⟩ := hq
        refine z_if_eq (tgt := 339) dL_version_332 (by decide) (fun hb => absurd hb ((by decide))) (fun _ => ?_)
        refine z_iconst (v := 1) dL_version_335 rfl ?_
        refine z_goto (tgt := 340) dL_version_336 (by decide) ?_
        exact z_zret hE dL_version_340 rfl ⟨rfl, rfl, hK⟩
      by_cases c : anq T.1 = 0
      · refine z_if_ne (tgt := 320) dL_version_313 (by decide) (fun hb => absurd ((by rw [c]; rfl)) hb) (fun _ => ?_)
        refine z_iconst (v := 0) dL_version_316 rfl ?_
        refine z_goto (tgt := 323) dL_version_317 (by decide) ?_
        refine z_icmp_ne (tgt := 339) dL_version_323 (by decide) (fun hb => absurd ((by rw [c]; rfl)) hb) (fun _ => ?_)
        exact K _ hK
      · refine z_if_ne (tgt := 320) dL_version_313 (by decide) (fun _ => ?_) (fun hb => absurd hb (nI_ne0 (by omega) (by omega)))
        refine z_iload_n dL_version_320 rfl ?_
        refine z_iconst (v := 1) dL_version_321 rfl ?_
        refine z_isub dL_version_322 ?_
        refine z_icmp_ne (tgt := 339) dL_version_323 (by decide) (fun hb => absurd ((xI_sub (b := 1) (by omega)).symm) hb) (fun _ => ?_)
        exact K _ hK
    | succ m ih =>
      intro p m1 m2 J hp hm1 hm2 hK
      have hpn : p < anq T.1 := by omega
      have hqo := vO_lt (v := v) hpn
      have h5 := aqd5 hV hqo
      have hns : ¬ ((m1 >>> (nI (vO T.1 v p) &&& 31)) &&& 1 = 1) := fun e => by
        obtain ⟨p', h1, h2⟩ := (hm1.tst (by omega)).mp e
        have := vO_inj (show p' < anq T.1 by omega) hpn h2
        omega
      -- behind the choices
      have fin : ∀ (m1' m2' mh c : Int32) (J : ZI), BM m1' (fun q => ∃ p', p' < p + 1 ∧ vO T.1 v p' = q) → BM m2' (fun g => g ≠ 0 ∧ ∃ p', p' < p + 1 ∧ aqd T.1 (vO T.1 v p') 3 = g) → KI T J → (ZG X RL cL_version 13 8 0 0 0 0 246 [.ref 0, .int (nI v), .int (nI (anq T.1)), .int m1', .int m2', .int (nI (aqd T.1 (vO T.1 v p) 3)), .int (nI p), .int (nI (vO T.1 v p)), .int (nI (aqd T.1 (vO T.1 v p) 3)), .int (nI (aqd T.1 (vO T.1 v p) 4)), .int mh, .int c, zj] [] Sg J) := by
        intro m1' m2' mh c J hm1' hm2' hK
        refine z_aload_n dL_version_246 rfl ?_
        refine z_iload_n dL_version_247 rfl ?_
        refine z_iload dL_version_248 rfl ?_
        refine z_iload dL_version_250 rfl ?_
        refine z_cV3p mX9_choice gRL_39 dL_version_252 (k_choiceB hK (Or.inr (Or.inr ⟨v, p, hv, rfl, hpn, rfl, nb_no (Nat.le_refl _) (by omega)⟩))) (by decide) (by first | assumption | rfl) (by rfl) (Nat.le_of_ble_eq_true rfl) (Nat.le_refl _) (Nat.le_refl _) (fun r J hq => ?_)
        obtain ⟨rfl, hK⟩ := hq
        refine z_sipush (v := -1001) dL_version_255 rfl ?_
        refine z_icmp_ne (tgt := 275) dL_version_258 (by decide) (fun hb => absurd (rfl) hb) (fun _ => ?_)
        refine z_aload_n dL_version_261 rfl ?_
        refine z_iload_n dL_version_262 rfl ?_
        refine z_iload dL_version_263 rfl ?_
        refine z_iconst (v := -1) dL_version_265 rfl ?_
        refine z_cV3p mX9_choice gRL_39 dL_version_266 (k_choiceB hK (Or.inr (Or.inr ⟨v, p, hv, rfl, hpn, rfl, nb_m1 (by omega)⟩))) (by decide) (by first | assumption | rfl) (by rfl) (Nat.le_of_ble_eq_true rfl) (Nat.le_refl _) (Nat.le_refl _) (fun r J hq => ?_)
        obtain ⟨rfl, hK⟩ := hq
        refine z_sipush (v := -1001) dL_version_269 rfl ?_
        refine z_icmp_eq (tgt := 277) dL_version_272 (by decide) (fun _ => ?_) (fun hb => absurd (rfl) hb)
        refine z_inc6 (w := 1) dL_version_277 rfl (by decide) rfl ?_
        refine z_goto (tgt := 11) dL_version_280 (by decide) ?_
        have := ih (p + 1) m1' m2' _ (by omega) hm1' hm2' hK
        rw [if_neg (Nat.succ_ne_zero p), Nat.add_sub_cancel] at this
        rw [nI_1]
        refine z_fg7 ?_
        refine z_fg8 ?_
        refine z_fg9 ?_
        refine z_fg10 ?_
        refine z_fg11 ?_
        exact this
      have inner : ∀ (m1' m2' : Int32) (hm1' : BM m1' (fun q => ∃ p', p' < p + 1 ∧ vO T.1 v p' = q)) (hm2' : BM m2' (fun g => g ≠ 0 ∧ ∃ p', p' < p + 1 ∧ aqd T.1 (vO T.1 v p') 3 = g)) (n k : Nat) (mh : Int32) (J : ZI), k + n = aqd T.1 (vO T.1 v p) 4 → BM mh (fun c => ∃ k', k' < k ∧ vC T.1 v p k' = c) → KI T J → (ZG X RL cL_version 13 8 0 0 0 0 127 [.ref 0, .int (nI v), .int (nI (anq T.1)), .int m1', .int m2', .int (nI (aqd T.1 (vO T.1 v p) 3)), .int (nI p), .int (nI (vO T.1 v p)), .int (nI (aqd T.1 (vO T.1 v p) 3)), .int (nI (aqd T.1 (vO T.1 v p) 4)), .int mh, .int (nI k), zj] [] Sg J) := by
        intro m1' m2' hm1' hm2' n
        induction n with
        | zero =>
          intro k mh J hk hmh hK
          have e : k = aqd T.1 (vO T.1 v p) 4 := by omega
          refine z_iload dL_version_127 rfl ?_
          refine z_iload dL_version_129 rfl ?_
          refine z_icmp_ge (tgt := 246) dL_version_131 (by decide) (fun _ => ?_) (fun hb => absurd (nI_le (by omega) (by omega)) hb)
          exact fin m1' m2' mh _ J hm1' hm2' hK
        | succ n ihn =>
          intro k mh J hk hmh hK
          have hkC : k < aqd T.1 (vO T.1 v p) 4 := by omega
          have hc := vC_lt hkC
          have hki := vK_iff hV hpn hkC
          have hnt : ¬ ((mh >>> (nI (vC T.1 v p k) &&& 31)) &&& 1 = 1) := fun e => by
            obtain ⟨k', h1, h2⟩ := (hmh.tst (by omega)).mp e
            have := vC_inj (v := v) (p := p) (show k' < aqd T.1 (vO T.1 v p) 4 by omega) hkC h2
            omega
          have K231 : ∀ (J : ZI), KI T J → (ZG X RL cL_version 13 8 0 0 0 0 231 [.ref 0, .int (nI v), .int (nI (anq T.1)), .int m1', .int m2', .int (nI (aqd T.1 (vO T.1 v p) 3)), .int (nI p), .int (nI (vO T.1 v p)), .int (nI (aqd T.1 (vO T.1 v p) 3)), .int (nI (aqd T.1 (vO T.1 v p) 4)), .int mh, .int (nI k), .int (nI (vC T.1 v p k))] [] Sg J) := by
            intro J hK
            refine z_iload dL_version_231 rfl ?_
            refine z_iconst (v := 1) dL_version_233 rfl ?_
            refine z_iload dL_version_234 rfl ?_
            refine z_ishl dL_version_236 ?_
            refine z_ior dL_version_237 ?_
            refine z_ist10 dL_version_238 (by decide) rfl ?_
            refine z_inc11 (w := 1) dL_version_240 rfl (by decide) rfl ?_
            refine z_goto (tgt := 127) dL_version_243 (by decide) ?_
            rw [nI_1]
            refine z_fg12 ?_
            refine ihn (k + 1) _ _ (by omega) (hmh.set (by omega) (fun j => ?_)) hK
            constructor
            · rintro ⟨k', h1, h2⟩
              rcases Nat.lt_succ_iff_lt_or_eq.mp h1 with a | a
              · exact Or.inl ⟨k', a, h2⟩
              · subst a; exact Or.inr h2.symm
            · rintro (⟨k', h1, h2⟩ | e)
              · exact ⟨k', by omega, h2⟩
              · exact ⟨k, by omega, e.symm⟩
          have K191 : ∀ (J : ZI), KI T J → (ZG X RL cL_version 13 8 0 0 0 0 191 [.ref 0, .int (nI v), .int (nI (anq T.1)), .int m1', .int m2', .int (nI (aqd T.1 (vO T.1 v p) 3)), .int (nI p), .int (nI (vO T.1 v p)), .int (nI (aqd T.1 (vO T.1 v p) 3)), .int (nI (aqd T.1 (vO T.1 v p) 4)), .int mh, .int (nI k), .int (nI (vC T.1 v p k))] [] Sg J) := by
            intro J hK
            have hKl := (Ky_lt (seed := asd T.1 v) hV.1 hpn).1
            have hKl : vK T.1 v p < aqd T.1 (vO T.1 v p) 4 := hKl
            refine z_iload dL_version_191 rfl ?_
            refine z_aload_n dL_version_193 rfl ?_
            refine z_iload dL_version_194 rfl ?_
            refine z_iconst (v := 1) dL_version_196 rfl ?_
            refine z_cV2p mX9_question gRL_29 dL_version_197 (k_question (j := 1) hK rfl hqo rfl (by decide)) (by decide) (by first | assumption | rfl) (by rfl) (Nat.le_of_ble_eq_true rfl) (Nat.le_refl _) (Nat.le_refl _) (fun r J hq => ?_)
            obtain ⟨rfl, hK⟩ := hq
            by_cases e : vK T.1 v p = k
            · have e2 := hki.mpr e
              refine z_icmp_ne (tgt := 207) dL_version_200 (by decide) (fun hb => absurd ((by rw [e2])) hb) (fun _ => ?_)
              refine z_iconst (v := 1) dL_version_203 rfl ?_
              refine z_goto (tgt := 208) dL_version_204 (by decide) ?_
              refine z_aload_n dL_version_208 rfl ?_
              refine z_iload_n dL_version_209 rfl ?_
              refine z_iload dL_version_210 rfl ?_
              refine z_iconst (v := 1) dL_version_212 rfl ?_
              refine z_cV3p mX9_at gRL_33 dL_version_213 (k_at hK rfl hv rfl hpn (Or.inr (Or.inl rfl))) (by decide) (by first | assumption | rfl) (by rfl) (Nat.le_of_ble_eq_true rfl) (Nat.le_refl _) (Nat.le_refl _) (fun r J hq => ?_)
              obtain ⟨rfl, hK⟩ := hq
              rw [at1]
              refine z_iload dL_version_216 rfl ?_
              refine z_icmp_ne (tgt := 225) dL_version_218 (by decide) (fun hb => absurd ((by rw [e])) hb) (fun _ => ?_)
              refine z_iconst (v := 1) dL_version_221 rfl ?_
              refine z_goto (tgt := 226) dL_version_222 (by decide) ?_
              refine z_icmp_eq (tgt := 231) dL_version_226 (by decide) (fun _ => ?_) (fun hb => absurd (rfl) hb)
              exact K231 _ hK
            · have e2 : ¬ vC T.1 v p k = aqd T.1 (vO T.1 v p) 1 := fun q => e (hki.mp q)
              refine z_icmp_ne (tgt := 207) dL_version_200 (by decide) (fun _ => ?_) (fun hb => absurd hb ((fun q => e2 ((nI_eq (by omega) (by omega)).mp q))))
              refine z_iconst (v := 0) dL_version_207 rfl ?_
              refine z_aload_n dL_version_208 rfl ?_
              refine z_iload_n dL_version_209 rfl ?_
              refine z_iload dL_version_210 rfl ?_
              refine z_iconst (v := 1) dL_version_212 rfl ?_
              refine z_cV3p mX9_at gRL_33 dL_version_213 (k_at hK rfl hv rfl hpn (Or.inr (Or.inl rfl))) (by decide) (by first | assumption | rfl) (by rfl) (Nat.le_of_ble_eq_true rfl) (Nat.le_refl _) (Nat.le_refl _) (fun r J hq => ?_)
              obtain ⟨rfl, hK⟩ := hq
              rw [at1]
              refine z_iload dL_version_216 rfl ?_
              refine z_icmp_ne (tgt := 225) dL_version_218 (by decide) (fun _ => ?_) (fun hb => absurd hb ((fun q => e ((nI_eq (by omega) (by omega)).mp q))))
              refine z_iconst (v := 0) dL_version_225 rfl ?_
              refine z_icmp_eq (tgt := 231) dL_version_226 (by decide) (fun _ => ?_) (fun hb => absurd (rfl) hb)
              exact K231 _ hK
          refine z_iload dL_version_127 rfl ?_
          refine z_iload dL_version_129 rfl ?_
          refine z_icmp_ge (tgt := 246) dL_version_131 (by decide) (fun hb => absurd hb (nI_ge (by omega) (by omega))) (fun _ => ?_)
          refine z_aload_n dL_version_134 rfl ?_
          refine z_iload_n dL_version_135 rfl ?_
          refine z_iload dL_version_136 rfl ?_
          refine z_iload dL_version_138 rfl ?_
          refine z_cV3p mX9_choice gRL_39 dL_version_140 (k_choice hK rfl hv rfl hpn rfl hkC) (by decide) (by first | assumption | rfl) (by rfl) (Nat.le_of_ble_eq_true rfl) (Nat.le_refl _) (Nat.le_refl _) (fun r J hq => ?_)
          obtain ⟨rfl, hK⟩ := hq
          refine z_ist12 dL_version_143 (by decide) rfl ?_
          refine z_iload dL_version_145 rfl ?_
          refine z_if_lt (tgt := 229) dL_version_147 (by decide) (fun hb => absurd hb (nI_pos (by omega))) (fun _ => ?_)
          refine z_iload dL_version_150 rfl ?_
          refine z_iload dL_version_152 rfl ?_
          refine z_icmp_ge (tgt := 229) dL_version_154 (by decide) (fun hb => absurd hb (nI_ge (by omega) (by omega))) (fun _ => ?_)
          refine z_iload dL_version_157 rfl ?_
          refine z_iload dL_version_159 rfl ?_
          refine z_ishr dL_version_161 ?_
          refine z_iconst (v := 1) dL_version_162 rfl ?_
          refine z_iand dL_version_163 ?_
          refine z_iconst (v := 1) dL_version_164 rfl ?_
          refine z_icmp_eq (tgt := 229) dL_version_165 (by decide) (fun hb => absurd hb (hnt)) (fun _ => ?_)
          refine z_aload_n dL_version_168 rfl ?_
          refine z_iload dL_version_169 rfl ?_
          refine z_iconst (v := 2) dL_version_171 rfl ?_
          refine z_cV2p mX9_question gRL_29 dL_version_172 (k_question (j := 2) hK rfl hqo rfl (by decide)) (by decide) (by first | assumption | rfl) (by rfl) (Nat.le_of_ble_eq_true rfl) (Nat.le_refl _) (Nat.le_refl _) (fun r J hq => ?_)
          obtain ⟨rfl, hK⟩ := hq
          refine z_iload dL_version_175 rfl ?_
          refine z_ishr dL_version_177 ?_
          refine z_iconst (v := 1) dL_version_178 rfl ?_
          refine z_iand dL_version_179 ?_
          refine z_iconst (v := 1) dL_version_180 rfl ?_
          by_cases e : (aqd T.1 (vO T.1 v p) 2).testBit k = true
          · refine z_icmp_ne (tgt := 191) dL_version_181 (by decide) (fun hb => absurd (((b_tst _ (by omega)).mpr (by rw [bt_nI (by omega)]; exact e))) hb) (fun _ => ?_)
            refine z_iload dL_version_184 rfl ?_
            refine z_iload dL_version_186 rfl ?_
            refine z_icmp_ne (tgt := 229) dL_version_188 (by decide) (fun hb => absurd ((by rw [vC_keep e])) hb) (fun _ => ?_)
            exact K191 _ hK
          · refine z_icmp_ne (tgt := 191) dL_version_181 (by decide) (fun _ => ?_) (fun hb => absurd hb ((fun q => e (by rw [← bt_nI (by omega)]; exact (b_tst _ (by omega)).mp q))))
            exact K191 _ hK
      have K92 : ∀ (J : ZI), KI T J → (ZG X RL cL_version 13 8 0 0 0 0 92 [.ref 0, .int (nI v), .int (nI (anq T.1)), .int m1, .int m2, .int (nI (if p = 0 then 0 else aqd T.1 (vO T.1 v (p - 1)) 3)), .int (nI p), .int (nI (vO T.1 v p)), .int (nI (aqd T.1 (vO T.1 v p) 3)), .int (nI (aqd T.1 (vO T.1 v p) 4)), zj, zj, zj] [] Sg J) := by
        intro J hK
        have hm1' : BM (m1 ||| (1 <<< (nI (vO T.1 v p) &&& 31))) (fun q => ∃ p', p' < p + 1 ∧ vO T.1 v p' = q) := hm1.set (by omega) (fun j => by
          constructor
          · rintro ⟨p', h1, h2⟩
            rcases Nat.lt_succ_iff_lt_or_eq.mp h1 with a | a
            · exact Or.inl ⟨p', a, h2⟩
            · subst a; exact Or.inr h2.symm
          · rintro (⟨p', h1, h2⟩ | e)
            · exact ⟨p', by omega, h2⟩
            · exact ⟨p, by omega, e.symm⟩)
        have K117 : ∀ (m1' m2' : Int32), BM m1' (fun q => ∃ p', p' < p + 1 ∧ vO T.1 v p' = q) → BM m2' (fun g => g ≠ 0 ∧ ∃ p', p' < p + 1 ∧ aqd T.1 (vO T.1 v p') 3 = g) → (ZG X RL cL_version 13 8 0 0 0 0 117 [.ref 0, .int (nI v), .int (nI (anq T.1)), .int m1', .int m2', .int (nI (if p = 0 then 0 else aqd T.1 (vO T.1 v (p - 1)) 3)), .int (nI p), .int (nI (vO T.1 v p)), .int (nI (aqd T.1 (vO T.1 v p) 3)), .int (nI (aqd T.1 (vO T.1 v p) 4)), zj, zj, zj] [] Sg J) := by
          intro m1' m2' hm1' hm2'
          refine z_iload dL_version_117 rfl ?_
          refine z_ist5 dL_version_119 (by decide) rfl ?_
          refine z_iconst (v := 0) dL_version_121 rfl ?_
          refine z_ist10 dL_version_122 (by decide) rfl ?_
          refine z_iconst (v := 0) dL_version_124 rfl ?_
          refine z_ist11 dL_version_125 (by decide) rfl ?_
          exact inner m1' m2' hm1' hm2' (aqd T.1 (vO T.1 v p) 4) 0 0 J (Nat.zero_add _) (BM.zero (fun q => by rintro ⟨k', h1, -⟩; exact absurd h1 (Nat.not_lt_zero k'))) hK
        refine z_iload_n dL_version_92 rfl ?_
        refine z_iconst (v := 1) dL_version_93 rfl ?_
        refine z_iload dL_version_94 rfl ?_
        refine z_ishl dL_version_96 ?_
        refine z_ior dL_version_97 ?_
        refine z_ist3 dL_version_98 (by decide) rfl ?_
        refine z_iload dL_version_99 rfl ?_
        refine z_iload dL_version_101 rfl ?_
        by_cases g : aqd T.1 (vO T.1 v p) 3 = 0
        · refine z_if_ne (tgt := 110) dL_version_103 (by decide) (fun hb => absurd ((by rw [g]; rfl)) hb) (fun _ => ?_)
          refine z_iconst (v := 0) dL_version_106 rfl ?_
          refine z_goto (tgt := 114) dL_version_107 (by decide) ?_
          refine z_ior dL_version_114 ?_
          refine z_ist4 dL_version_115 (by decide) rfl ?_
          refine K117 _ _ hm1' (hm2.same (fun j => ?_))
          constructor
          · rintro ⟨h1, p', h2, h3⟩
            rcases Nat.lt_succ_iff_lt_or_eq.mp h2 with a | a
            · exact ⟨h1, p', a, h3⟩
            · subst a; exact absurd (h3.symm.trans g) h1
          · rintro ⟨h1, p', h2, h3⟩
            exact ⟨h1, p', by omega, h3⟩
        · refine z_if_ne (tgt := 110) dL_version_103 (by decide) (fun _ => ?_) (fun hb => absurd hb (nI_ne0 (by omega) (by omega)))
          refine z_iconst (v := 1) dL_version_110 rfl ?_
          refine z_iload dL_version_111 rfl ?_
          refine z_ishl dL_version_113 ?_
          refine z_ior dL_version_114 ?_
          refine z_ist4 dL_version_115 (by decide) rfl ?_
          refine K117 _ _ hm1' (hm2.set (by omega) (fun j => ?_))
          constructor
          · rintro ⟨h1, p', h2, h3⟩
            rcases Nat.lt_succ_iff_lt_or_eq.mp h2 with a | a
            · exact Or.inl ⟨h1, p', a, h3⟩
            · subst a; exact Or.inr h3.symm
          · rintro (⟨h1, p', h2, h3⟩ | e)
            · exact ⟨h1, p', by omega, h3⟩
            · exact ⟨by rw [e]; exact g, p, by omega, e.symm⟩
      refine z_iload dL_version_11 rfl ?_
      refine z_iload_n dL_version_13 rfl ?_
      refine z_icmp_ge (tgt := 283) dL_version_14 (by decide) (fun hb => absurd hb (nI_ge (by omega) (by omega))) (fun _ => ?_)
      refine z_aload_n dL_version_17 rfl ?_
      refine z_iload_n dL_version_18 rfl ?_
      refine z_iload dL_version_19 rfl ?_
      refine z_iconst (v := 0) dL_version_21 rfl ?_
      refine z_cV3p mX9_at gRL_33 dL_version_22 (k_at hK rfl hv rfl hpn (Or.inl rfl)) (by decide) (by first | assumption | rfl) (by rfl) (Nat.le_of_ble_eq_true rfl) (Nat.le_refl _) (Nat.le_refl _) (fun r J hq => ?_)
      obtain ⟨rfl, hK⟩ := hq
      rw [at0]
      refine z_ist7 dL_version_25 (by decide) rfl ?_
      refine z_aload_n dL_version_27 rfl ?_
      refine z_iload dL_version_28 rfl ?_
      refine z_iconst (v := 3) dL_version_30 rfl ?_
      refine z_cV2p mX9_question gRL_29 dL_version_31 (k_question (j := 3) hK rfl hqo rfl (by decide)) (by decide) (by first | assumption | rfl) (by rfl) (Nat.le_of_ble_eq_true rfl) (Nat.le_refl _) (Nat.le_refl _) (fun r J hq => ?_)
      obtain ⟨rfl, hK⟩ := hq
      refine z_ist8 dL_version_34 (by decide) rfl ?_
      refine z_aload_n dL_version_36 rfl ?_
      refine z_iload dL_version_37 rfl ?_
      refine z_iconst (v := 4) dL_version_39 rfl ?_
      refine z_cV2p mX9_question gRL_29 dL_version_40 (k_question (j := 4) hK rfl hqo rfl (by decide)) (by decide) (by first | assumption | rfl) (by rfl) (Nat.le_of_ble_eq_true rfl) (Nat.le_refl _) (Nat.le_refl _) (fun r J hq => ?_)
      obtain ⟨rfl, hK⟩ := hq
      refine z_ist9 dL_version_43 (by decide) rfl ?_
      refine z_iload_n dL_version_45 rfl ?_
      refine z_iload dL_version_46 rfl ?_
      refine z_ishr dL_version_48 ?_
      refine z_iconst (v := 1) dL_version_49 rfl ?_
      refine z_iand dL_version_50 ?_
      refine z_iconst (v := 1) dL_version_51 rfl ?_
      refine z_icmp_eq (tgt := 90) dL_version_52 (by decide) (fun hb => absurd hb (hns)) (fun _ => ?_)
      refine z_aload_n dL_version_55 rfl ?_
      refine z_iload_n dL_version_56 rfl ?_
      refine z_iload dL_version_57 rfl ?_
      refine z_cV2p mX9_where gRL_36 dL_version_59 (k_where hK rfl hv hpn rfl) (by decide) (by first | assumption | rfl) (by rfl) (Nat.le_of_ble_eq_true rfl) (Nat.le_refl _) (Nat.le_refl _) (fun r J hq => ?_)
      obtain ⟨rfl, hK⟩ := hq
      refine z_iload dL_version_62 rfl ?_
      refine z_icmp_ne (tgt := 90) dL_version_64 (by decide) (fun hb => absurd (rfl) hb) (fun _ => ?_)
      refine z_iload dL_version_67 rfl ?_
      by_cases g : aqd T.1 (vO T.1 v p) 3 = 0
      · refine z_if_eq (tgt := 92) dL_version_69 (by decide) (fun _ => ?_) (fun hb => absurd ((by rw [g]; rfl)) hb)
        exact K92 _ hK
      · refine z_if_eq (tgt := 92) dL_version_69 (by decide) (fun hb => absurd hb (nI_ne0 (by omega) (by omega))) (fun _ => ?_)
        refine z_iload dL_version_72 rfl ?_
        refine z_iload dL_version_74 rfl ?_
        by_cases g2 : aqd T.1 (vO T.1 v p) 3 = (if p = 0 then 0 else aqd T.1 (vO T.1 v (p - 1)) 3)
        · refine z_icmp_eq (tgt := 92) dL_version_76 (by decide) (fun _ => ?_) (fun hb => absurd ((by rw [← g2])) hb)
          exact K92 _ hK
        · have hng : ¬ ((m2 >>> (nI (aqd T.1 (vO T.1 v p) 3) &&& 31)) &&& 1 = 1) := fun e => by
            obtain ⟨-, p', h1, h2⟩ := (hm2.tst (by omega)).mp e
            refine g2 ?_
            rw [if_neg (by omega)]
            exact (gr_con (v := v) (a := p') (b := p - 1) (c := p) (by omega) (by omega) hpn g h2).symm
          have hl5 : (if p = 0 then 0 else aqd T.1 (vO T.1 v (p - 1)) 3) ≤ 5 := by
            split
            · omega
            · exact (aqd5 hV (vO_lt (v := v) (show p - 1 < anq T.1 by omega))).2.2.1
          refine z_icmp_eq (tgt := 92) dL_version_76 (by decide) (fun hb => absurd hb ((fun e => g2 ((nI_eq (by omega) (by omega)).mp e)))) (fun _ => ?_)
          refine z_iload dL_version_79 rfl ?_
          refine z_iload dL_version_81 rfl ?_
          refine z_ishr dL_version_83 ?_
          refine z_iconst (v := 1) dL_version_84 rfl ?_
          refine z_iand dL_version_85 ?_
          refine z_iconst (v := 1) dL_version_86 rfl ?_
          refine z_icmp_ne (tgt := 92) dL_version_87 (by decide) (fun _ => ?_) (fun hb => absurd hb (hng))
          exact K92 _ hK
  refine z_iconst (v := 0) dL_version_0 rfl ?_
  refine z_ist3 dL_version_1 (by decide) rfl ?_
  refine z_iconst (v := 0) dL_version_2 rfl ?_
  refine z_ist4 dL_version_3 (by decide) rfl ?_
  refine z_iconst (v := 0) dL_version_5 rfl ?_
  refine z_ist5 dL_version_6 (by decide) rfl ?_
  refine z_iconst (v := 0) dL_version_8 rfl ?_
  refine z_ist6 dL_version_9 (by decide) rfl ?_
  exact loop (anq T.1) 0 0 0 I (Nat.zero_add _) (BM.zero (fun q => by rintro ⟨k', h1, -⟩; exact absurd h1 (Nat.not_lt_zero k'))) (BM.zero (fun q => by rintro ⟨-, k', h1, -⟩; exact absurd h1 (Nat.not_lt_zero k'))) h

