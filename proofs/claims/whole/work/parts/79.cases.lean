/-! ===== the law's cases ===== -/
abbrev LL (j : Nat) : List Value := [zj, .ref 0, .ref 259, .int (nI j), zj, zj, zj, zj]
theorem lcmp_0 (x : Int64) : lg_cmp x x = 0 := by
  unfold lg_cmp
  rw [if_neg (fun h => Int64.lt_irrefl h), if_pos rfl]
theorem y_LL {j : Nat} {v4 v5 v6 v7 : Value} : ∀ (k : Nat) (w : Value), (LL j)[k]? = some w → zknown w = true → ([zj, .ref 0, .ref 259, .int (nI j), v4, v5, v6, v7] : List Value)[k]? = some w := by
  intro k w hk hw
  match k, hk with
  | 0, hk => cases hk; cases hw
  | 1, hk => exact hk
  | 2, hk => exact hk
  | 3, hk => exact hk
  | 4, hk => cases hk; cases hw
  | 5, hk => cases hk; cases hw
  | 6, hk => cases hk; cases hw
  | 7, hk => cases hk; cases hw
  | n + 8, hk => cases hk
theorem l_case0 {bs Ls j : Nat} {xs : Nat → Int32} {X : ZX} {I : ZI} (hY : YS bs Ls xs X) (hj : j + 6 ≤ Ls) (hL : Ls ≤ 3072) (h : BI I) (nxt : ∀ J, BI J → YG bs X RL code 8 11 600000 7302250 272 11553 1098 (LL j) [] Sg J) : YG bs X RL code 8 11 600000 7302250 272 11553 172 (LL j) [] Sg I := by
  refine y_aload_n dL_law_172 rfl ?_
  refine y_arg (v := 1) (i := j) (j := j + 1) hY dL_law_173 dL_law_174 dL_law_175 dL_law_176 dL_law_177 rfl rfl (nI_1 j) (by omega) (by omega) ?_
  refine y_arg (v := 2) (i := j) (j := j + 2) hY dL_law_178 dL_law_179 dL_law_180 dL_law_181 dL_law_182 rfl rfl (nI_add j 2) (by omega) (by omega) ?_
  refine y_arg (v := 3) (i := j) (j := j + 3) hY dL_law_183 dL_law_184 dL_law_185 dL_law_186 dL_law_187 rfl rfl (nI_add j 3) (by omega) (by omega) ?_
  refine y_arg (v := 4) (i := j) (j := j + 4) hY dL_law_188 dL_law_189 dL_law_190 dL_law_191 dL_law_192 rfl rfl (nI_add j 4) (by omega) (by omega) ?_
  refine y_arg (v := 5) (i := j) (j := j + 5) hY dL_law_193 dL_law_194 dL_law_195 dL_law_196 dL_law_197 rfl rfl (nI_add j 5) (by omega) (by omega) ?_
  refine y_cV5p mX9_add gRL_13 dL_law_198 (u_add h) (by decide) at_tv (by rfl) (Nat.le_of_ble_eq_true rfl) (Nat.le_of_ble_eq_true rfl) (Nat.le_of_ble_eq_true rfl) (fun r0 J0 hq0 => ?_)
  obtain ⟨⟨a, rfl⟩, hz⟩ := hq0
  refine y_aload_n dL_law_201 rfl ?_
  refine y_arg (v := 1) (i := j) (j := j + 1) hY dL_law_202 dL_law_203 dL_law_204 dL_law_205 dL_law_206 rfl rfl (nI_1 j) (by omega) (by omega) ?_
  refine y_arg (v := 2) (i := j) (j := j + 2) hY dL_law_207 dL_law_208 dL_law_209 dL_law_210 dL_law_211 rfl rfl (nI_add j 2) (by omega) (by omega) ?_
  refine y_arg (v := 3) (i := j) (j := j + 3) hY dL_law_212 dL_law_213 dL_law_214 dL_law_215 dL_law_216 rfl rfl (nI_add j 3) (by omega) (by omega) ?_
  refine y_arg (v := 4) (i := j) (j := j + 4) hY dL_law_217 dL_law_218 dL_law_219 dL_law_220 dL_law_221 rfl rfl (nI_add j 4) (by omega) (by omega) ?_
  refine y_arg (v := 5) (i := j) (j := j + 5) hY dL_law_222 dL_law_223 dL_law_224 dL_law_225 dL_law_226 rfl rfl (nI_add j 5) (by omega) (by omega) ?_
  refine y_cV5p mX10_add gRL_17 dL_law_227 hz (by decide) m_obj (by rfl) (Nat.le_of_ble_eq_true rfl) (Nat.le_of_ble_eq_true rfl) (Nat.le_of_ble_eq_true rfl) (fun r1 J1 hq1 => ?_)
  obtain ⟨rfl, hB⟩ := hq1
  refine y_icmp_eq (tgt := 1098) dL_law_230 (by decide) (fun _ => ?_) (fun hb => absurd rfl hb)
  exact nxt J1 hB
theorem l_case1 {bs Ls j : Nat} {xs : Nat → Int32} {X : ZX} {I : ZI} (hY : YS bs Ls xs X) (hj : j + 6 ≤ Ls) (hL : Ls ≤ 3072) (h : BI I) (nxt : ∀ J, BI J → YG bs X RL code 8 11 600000 7302250 272 11553 1098 (LL j) [] Sg J) : YG bs X RL code 8 11 600000 7302250 272 11553 235 (LL j) [] Sg I := by
  refine y_aload_n dL_law_235 rfl ?_
  refine y_arg (v := 1) (i := j) (j := j + 1) hY dL_law_236 dL_law_237 dL_law_238 dL_law_239 dL_law_240 rfl rfl (nI_1 j) (by omega) (by omega) ?_
  refine y_cV1p mX9_remove gRL_18 dL_law_241 (u_remove h) (by decide) at_tv (by rfl) (Nat.le_of_ble_eq_true rfl) (Nat.le_of_ble_eq_true rfl) (Nat.le_of_ble_eq_true rfl) (fun r0 J0 hq0 => ?_)
  obtain ⟨⟨a, rfl⟩, hz⟩ := hq0
  refine y_aload_n dL_law_244 rfl ?_
  refine y_arg (v := 1) (i := j) (j := j + 1) hY dL_law_245 dL_law_246 dL_law_247 dL_law_248 dL_law_249 rfl rfl (nI_1 j) (by omega) (by omega) ?_
  refine y_cV1p mX10_remove gRL_22 dL_law_250 hz (by decide) m_obj (by rfl) (Nat.le_of_ble_eq_true rfl) (Nat.le_of_ble_eq_true rfl) (Nat.le_of_ble_eq_true rfl) (fun r1 J1 hq1 => ?_)
  obtain ⟨rfl, hB⟩ := hq1
  refine y_icmp_eq (tgt := 1098) dL_law_253 (by decide) (fun _ => ?_) (fun hb => absurd rfl hb)
  exact nxt J1 hB
theorem l_case2 {bs Ls j : Nat} {xs : Nat → Int32} {X : ZX} {I : ZI} (hY : YS bs Ls xs X) (hj : j + 6 ≤ Ls) (hL : Ls ≤ 3072) (h : BI I) (nxt : ∀ J, BI J → YG bs X RL code 8 11 600000 7302250 272 11553 1098 (LL j) [] Sg J) : YG bs X RL code 8 11 600000 7302250 272 11553 258 (LL j) [] Sg I := by
  refine y_aload_n dL_law_258 rfl ?_
  refine y_arg (v := 1) (i := j) (j := j + 1) hY dL_law_259 dL_law_260 dL_law_261 dL_law_262 dL_law_263 rfl rfl (nI_1 j) (by omega) (by omega) ?_
  refine y_arg (v := 2) (i := j) (j := j + 2) hY dL_law_264 dL_law_265 dL_law_266 dL_law_267 dL_law_268 rfl rfl (nI_add j 2) (by omega) (by omega) ?_
  refine y_arg (v := 3) (i := j) (j := j + 3) hY dL_law_269 dL_law_270 dL_law_271 dL_law_272 dL_law_273 rfl rfl (nI_add j 3) (by omega) (by omega) ?_
  refine y_cV3p mX9_change gRL_23 dL_law_274 (u_change h) (by decide) at_tv (by rfl) (Nat.le_of_ble_eq_true rfl) (Nat.le_of_ble_eq_true rfl) (Nat.le_of_ble_eq_true rfl) (fun r0 J0 hq0 => ?_)
  obtain ⟨⟨a, rfl⟩, hz⟩ := hq0
  refine y_aload_n dL_law_277 rfl ?_
  refine y_arg (v := 1) (i := j) (j := j + 1) hY dL_law_278 dL_law_279 dL_law_280 dL_law_281 dL_law_282 rfl rfl (nI_1 j) (by omega) (by omega) ?_
  refine y_arg (v := 2) (i := j) (j := j + 2) hY dL_law_283 dL_law_284 dL_law_285 dL_law_286 dL_law_287 rfl rfl (nI_add j 2) (by omega) (by omega) ?_
  refine y_arg (v := 3) (i := j) (j := j + 3) hY dL_law_288 dL_law_289 dL_law_290 dL_law_291 dL_law_292 rfl rfl (nI_add j 3) (by omega) (by omega) ?_
  refine y_cV3p mX10_change gRL_27 dL_law_293 hz (by decide) m_obj (by rfl) (Nat.le_of_ble_eq_true rfl) (Nat.le_of_ble_eq_true rfl) (Nat.le_of_ble_eq_true rfl) (fun r1 J1 hq1 => ?_)
  obtain ⟨rfl, hB⟩ := hq1
  refine y_icmp_eq (tgt := 1098) dL_law_296 (by decide) (fun _ => ?_) (fun hb => absurd rfl hb)
  exact nxt J1 hB
theorem l_case3 {bs Ls j : Nat} {xs : Nat → Int32} {X : ZX} {I : ZI} (hY : YS bs Ls xs X) (hj : j + 6 ≤ Ls) (hL : Ls ≤ 3072) (h : BI I) (nxt : ∀ J, BI J → YG bs X RL code 8 11 600000 7302250 272 11553 1098 (LL j) [] Sg J) : YG bs X RL code 8 11 600000 7302250 272 11553 301 (LL j) [] Sg I := by
  refine y_aload_n dL_law_301 rfl ?_
  refine y_arg (v := 1) (i := j) (j := j + 1) hY dL_law_302 dL_law_303 dL_law_304 dL_law_305 dL_law_306 rfl rfl (nI_1 j) (by omega) (by omega) ?_
  refine y_arg (v := 2) (i := j) (j := j + 2) hY dL_law_307 dL_law_308 dL_law_309 dL_law_310 dL_law_311 rfl rfl (nI_add j 2) (by omega) (by omega) ?_
  refine y_cV2p mX9_question gRL_28 dL_law_312 (u_question h) (by decide) at_tv (by rfl) (Nat.le_of_ble_eq_true rfl) (Nat.le_of_ble_eq_true rfl) (Nat.le_of_ble_eq_true rfl) (fun r0 J0 hq0 => ?_)
  obtain ⟨⟨a, rfl⟩, hz⟩ := hq0
  refine y_aload_n dL_law_315 rfl ?_
  refine y_arg (v := 1) (i := j) (j := j + 1) hY dL_law_316 dL_law_317 dL_law_318 dL_law_319 dL_law_320 rfl rfl (nI_1 j) (by omega) (by omega) ?_
  refine y_arg (v := 2) (i := j) (j := j + 2) hY dL_law_321 dL_law_322 dL_law_323 dL_law_324 dL_law_325 rfl rfl (nI_add j 2) (by omega) (by omega) ?_
  refine y_cV2p mX10_question gRL_32 dL_law_326 hz (by decide) m_obj (by rfl) (Nat.le_of_ble_eq_true rfl) (Nat.le_of_ble_eq_true rfl) (Nat.le_of_ble_eq_true rfl) (fun r1 J1 hq1 => ?_)
  obtain ⟨rfl, hB⟩ := hq1
  refine y_icmp_eq (tgt := 1098) dL_law_329 (by decide) (fun _ => ?_) (fun hb => absurd rfl hb)
  exact nxt J1 hB
theorem l_case4 {bs Ls j : Nat} {xs : Nat → Int32} {X : ZX} {I : ZI} (hY : YS bs Ls xs X) (hj : j + 6 ≤ Ls) (hL : Ls ≤ 3072) (h : BI I) (nxt : ∀ J, BI J → YG bs X RL code 8 11 600000 7302250 272 11553 1098 (LL j) [] Sg J) : YG bs X RL code 8 11 600000 7302250 272 11553 334 (LL j) [] Sg I := by
  refine y_aload_n dL_law_334 rfl ?_
  refine y_cV0p mX9_questions gRL_33 dL_law_335 (u_questions h) (by decide) at_tv (by rfl) (Nat.le_of_ble_eq_true rfl) (Nat.le_of_ble_eq_true rfl) (Nat.le_of_ble_eq_true rfl) (fun r0 J0 hq0 => ?_)
  obtain ⟨⟨a, rfl⟩, hz⟩ := hq0
  refine y_aload_n dL_law_338 rfl ?_
  refine y_cV0p mX10_questions gRL_37 dL_law_339 hz (by decide) m_obj (by rfl) (Nat.le_of_ble_eq_true rfl) (Nat.le_of_ble_eq_true rfl) (Nat.le_of_ble_eq_true rfl) (fun r1 J1 hq1 => ?_)
  obtain ⟨rfl, hB⟩ := hq1
  refine y_icmp_eq (tgt := 1098) dL_law_342 (by decide) (fun _ => ?_) (fun hb => absurd rfl hb)
  exact nxt J1 hB
theorem l_case5 {bs Ls j : Nat} {xs : Nat → Int32} {X : ZX} {I : ZI} (hY : YS bs Ls xs X) (hj : j + 6 ≤ Ls) (hL : Ls ≤ 3072) (h : BI I) (nxt : ∀ J, BI J → YG bs X RL code 8 11 600000 7302250 272 11553 1098 (LL j) [] Sg J) : YG bs X RL code 8 11 600000 7302250 272 11553 347 (LL j) [] Sg I := by
  refine y_aload_n dL_law_347 rfl ?_
  refine y_arg (v := 1) (i := j) (j := j + 1) hY dL_law_348 dL_law_349 dL_law_350 dL_law_351 dL_law_352 rfl rfl (nI_1 j) (by omega) (by omega) ?_
  refine y_cV1p mX9_version gRL_38 dL_law_353 (u_version h) (by decide) at_tv (by rfl) (Nat.le_of_ble_eq_true rfl) (Nat.le_of_ble_eq_true rfl) (Nat.le_of_ble_eq_true rfl) (fun r0 J0 hq0 => ?_)
  obtain ⟨⟨a, rfl⟩, hz⟩ := hq0
  refine y_aload_n dL_law_356 rfl ?_
  refine y_arg (v := 1) (i := j) (j := j + 1) hY dL_law_357 dL_law_358 dL_law_359 dL_law_360 dL_law_361 rfl rfl (nI_1 j) (by omega) (by omega) ?_
  refine y_cV1p mX10_version gRL_41 dL_law_362 hz (by decide) m_obj (by rfl) (Nat.le_of_ble_eq_true rfl) (Nat.le_of_ble_eq_true rfl) (Nat.le_of_ble_eq_true rfl) (fun r1 J1 hq1 => ?_)
  obtain ⟨rfl, hB⟩ := hq1
  refine y_icmp_eq (tgt := 1098) dL_law_365 (by decide) (fun _ => ?_) (fun hb => absurd rfl hb)
  exact nxt J1 hB
theorem l_case6 {bs Ls j : Nat} {xs : Nat → Int32} {X : ZX} {I : ZI} (hY : YS bs Ls xs X) (hj : j + 6 ≤ Ls) (hL : Ls ≤ 3072) (h : BI I) (nxt : ∀ J, BI J → YG bs X RL code 8 11 600000 7302250 272 11553 1098 (LL j) [] Sg J) : YG bs X RL code 8 11 600000 7302250 272 11553 370 (LL j) [] Sg I := by
  refine y_aload_n dL_law_370 rfl ?_
  refine y_cV0p mX9_drop gRL_42 dL_law_371 (u_drop h) (by decide) at_tv (by rfl) (Nat.le_of_ble_eq_true rfl) (Nat.le_of_ble_eq_true rfl) (Nat.le_of_ble_eq_true rfl) (fun r0 J0 hq0 => ?_)
  obtain ⟨⟨a, rfl⟩, hz⟩ := hq0
  refine y_aload_n dL_law_374 rfl ?_
  refine y_cV0p mX10_drop gRL_46 dL_law_375 hz (by decide) m_obj (by rfl) (Nat.le_of_ble_eq_true rfl) (Nat.le_of_ble_eq_true rfl) (Nat.le_of_ble_eq_true rfl) (fun r1 J1 hq1 => ?_)
  obtain ⟨rfl, hB⟩ := hq1
  refine y_lcmp dL_law_378 ?_
  refine y_if_eq (tgt := 1098) dL_law_379 (by decide) (fun _ => ?_) (fun hb => absurd (lcmp_0 a) hb)
  exact nxt J1 hB
theorem l_case7 {bs Ls j : Nat} {xs : Nat → Int32} {X : ZX} {I : ZI} (hY : YS bs Ls xs X) (hj : j + 6 ≤ Ls) (hL : Ls ≤ 3072) (h : BI I) (nxt : ∀ J, BI J → YG bs X RL code 8 11 600000 7302250 272 11553 1098 (LL j) [] Sg J) : YG bs X RL code 8 11 600000 7302250 272 11553 384 (LL j) [] Sg I := by
  refine y_aload_n dL_law_384 rfl ?_
  refine y_cV0p mX9_versions gRL_47 dL_law_385 (u_versions h) (by decide) at_tv (by rfl) (Nat.le_of_ble_eq_true rfl) (Nat.le_of_ble_eq_true rfl) (Nat.le_of_ble_eq_true rfl) (fun r0 J0 hq0 => ?_)
  obtain ⟨⟨a, rfl⟩, hz⟩ := hq0
  refine y_aload_n dL_law_388 rfl ?_
  refine y_cV0p mX10_versions gRL_50 dL_law_389 hz (by decide) m_obj (by rfl) (Nat.le_of_ble_eq_true rfl) (Nat.le_of_ble_eq_true rfl) (Nat.le_of_ble_eq_true rfl) (fun r1 J1 hq1 => ?_)
  obtain ⟨rfl, hB⟩ := hq1
  refine y_icmp_eq (tgt := 1098) dL_law_392 (by decide) (fun _ => ?_) (fun hb => absurd rfl hb)
  exact nxt J1 hB
theorem l_case8 {bs Ls j : Nat} {xs : Nat → Int32} {X : ZX} {I : ZI} (hY : YS bs Ls xs X) (hj : j + 6 ≤ Ls) (hL : Ls ≤ 3072) (h : BI I) (nxt : ∀ J, BI J → YG bs X RL code 8 11 600000 7302250 272 11553 1098 (LL j) [] Sg J) : YG bs X RL code 8 11 600000 7302250 272 11553 397 (LL j) [] Sg I := by
  refine y_aload_n dL_law_397 rfl ?_
  refine y_arg (v := 1) (i := j) (j := j + 1) hY dL_law_398 dL_law_399 dL_law_400 dL_law_401 dL_law_402 rfl rfl (nI_1 j) (by omega) (by omega) ?_
  refine y_arg (v := 2) (i := j) (j := j + 2) hY dL_law_403 dL_law_404 dL_law_405 dL_law_406 dL_law_407 rfl rfl (nI_add j 2) (by omega) (by omega) ?_
  refine y_arg (v := 3) (i := j) (j := j + 3) hY dL_law_408 dL_law_409 dL_law_410 dL_law_411 dL_law_412 rfl rfl (nI_add j 3) (by omega) (by omega) ?_
  refine y_cV3p mX9_at gRL_51 dL_law_413 (u_at h) (by decide) at_tv (by rfl) (Nat.le_of_ble_eq_true rfl) (Nat.le_of_ble_eq_true rfl) (Nat.le_of_ble_eq_true rfl) (fun r0 J0 hq0 => ?_)
  obtain ⟨⟨a, rfl⟩, hz⟩ := hq0
  refine y_aload_n dL_law_416 rfl ?_
  refine y_arg (v := 1) (i := j) (j := j + 1) hY dL_law_417 dL_law_418 dL_law_419 dL_law_420 dL_law_421 rfl rfl (nI_1 j) (by omega) (by omega) ?_
  refine y_arg (v := 2) (i := j) (j := j + 2) hY dL_law_422 dL_law_423 dL_law_424 dL_law_425 dL_law_426 rfl rfl (nI_add j 2) (by omega) (by omega) ?_
  refine y_arg (v := 3) (i := j) (j := j + 3) hY dL_law_427 dL_law_428 dL_law_429 dL_law_430 dL_law_431 rfl rfl (nI_add j 3) (by omega) (by omega) ?_
  refine y_cV3p mX10_at gRL_54 dL_law_432 hz (by decide) m_obj (by rfl) (Nat.le_of_ble_eq_true rfl) (Nat.le_of_ble_eq_true rfl) (Nat.le_of_ble_eq_true rfl) (fun r1 J1 hq1 => ?_)
  obtain ⟨rfl, hB⟩ := hq1
  refine y_icmp_eq (tgt := 1098) dL_law_435 (by decide) (fun _ => ?_) (fun hb => absurd rfl hb)
  exact nxt J1 hB
theorem l_case9 {bs Ls j : Nat} {xs : Nat → Int32} {X : ZX} {I : ZI} (hY : YS bs Ls xs X) (hj : j + 6 ≤ Ls) (hL : Ls ≤ 3072) (h : BI I) (nxt : ∀ J, BI J → YG bs X RL code 8 11 600000 7302250 272 11553 1098 (LL j) [] Sg J) : YG bs X RL code 8 11 600000 7302250 272 11553 440 (LL j) [] Sg I := by
  refine y_aload_n dL_law_440 rfl ?_
  refine y_arg (v := 1) (i := j) (j := j + 1) hY dL_law_441 dL_law_442 dL_law_443 dL_law_444 dL_law_445 rfl rfl (nI_1 j) (by omega) (by omega) ?_
  refine y_arg (v := 2) (i := j) (j := j + 2) hY dL_law_446 dL_law_447 dL_law_448 dL_law_449 dL_law_450 rfl rfl (nI_add j 2) (by omega) (by omega) ?_
  refine y_cV2p mX9_where gRL_55 dL_law_451 (u_where h) (by decide) at_tv (by rfl) (Nat.le_of_ble_eq_true rfl) (Nat.le_of_ble_eq_true rfl) (Nat.le_of_ble_eq_true rfl) (fun r0 J0 hq0 => ?_)
  obtain ⟨⟨a, rfl⟩, hz⟩ := hq0
  refine y_aload_n dL_law_454 rfl ?_
  refine y_arg (v := 1) (i := j) (j := j + 1) hY dL_law_455 dL_law_456 dL_law_457 dL_law_458 dL_law_459 rfl rfl (nI_1 j) (by omega) (by omega) ?_
  refine y_arg (v := 2) (i := j) (j := j + 2) hY dL_law_460 dL_law_461 dL_law_462 dL_law_463 dL_law_464 rfl rfl (nI_add j 2) (by omega) (by omega) ?_
  refine y_cV2p mX10_where gRL_58 dL_law_465 hz (by decide) m_obj (by rfl) (Nat.le_of_ble_eq_true rfl) (Nat.le_of_ble_eq_true rfl) (Nat.le_of_ble_eq_true rfl) (fun r1 J1 hq1 => ?_)
  obtain ⟨rfl, hB⟩ := hq1
  refine y_icmp_eq (tgt := 1098) dL_law_468 (by decide) (fun _ => ?_) (fun hb => absurd rfl hb)
  exact nxt J1 hB
theorem l_case10 {bs Ls j : Nat} {xs : Nat → Int32} {X : ZX} {I : ZI} (hY : YS bs Ls xs X) (hj : j + 6 ≤ Ls) (hL : Ls ≤ 3072) (h : BI I) (nxt : ∀ J, BI J → YG bs X RL code 8 11 600000 7302250 272 11553 1098 (LL j) [] Sg J) : YG bs X RL code 8 11 600000 7302250 272 11553 473 (LL j) [] Sg I := by
  refine y_aload_n dL_law_473 rfl ?_
  refine y_arg (v := 1) (i := j) (j := j + 1) hY dL_law_474 dL_law_475 dL_law_476 dL_law_477 dL_law_478 rfl rfl (nI_1 j) (by omega) (by omega) ?_
  refine y_arg (v := 2) (i := j) (j := j + 2) hY dL_law_479 dL_law_480 dL_law_481 dL_law_482 dL_law_483 rfl rfl (nI_add j 2) (by omega) (by omega) ?_
  refine y_arg (v := 3) (i := j) (j := j + 3) hY dL_law_484 dL_law_485 dL_law_486 dL_law_487 dL_law_488 rfl rfl (nI_add j 3) (by omega) (by omega) ?_
  refine y_cV3p mX9_choice gRL_59 dL_law_489 (u_choice h) (by decide) at_tv (by rfl) (Nat.le_of_ble_eq_true rfl) (Nat.le_of_ble_eq_true rfl) (Nat.le_of_ble_eq_true rfl) (fun r0 J0 hq0 => ?_)
  obtain ⟨⟨a, rfl⟩, hz⟩ := hq0
  refine y_aload_n dL_law_492 rfl ?_
  refine y_arg (v := 1) (i := j) (j := j + 1) hY dL_law_493 dL_law_494 dL_law_495 dL_law_496 dL_law_497 rfl rfl (nI_1 j) (by omega) (by omega) ?_
  refine y_arg (v := 2) (i := j) (j := j + 2) hY dL_law_498 dL_law_499 dL_law_500 dL_law_501 dL_law_502 rfl rfl (nI_add j 2) (by omega) (by omega) ?_
  refine y_arg (v := 3) (i := j) (j := j + 3) hY dL_law_503 dL_law_504 dL_law_505 dL_law_506 dL_law_507 rfl rfl (nI_add j 3) (by omega) (by omega) ?_
  refine y_cV3p mX10_choice gRL_62 dL_law_508 hz (by decide) m_obj (by rfl) (Nat.le_of_ble_eq_true rfl) (Nat.le_of_ble_eq_true rfl) (Nat.le_of_ble_eq_true rfl) (fun r1 J1 hq1 => ?_)
  obtain ⟨rfl, hB⟩ := hq1
  refine y_icmp_eq (tgt := 1098) dL_law_511 (by decide) (fun _ => ?_) (fun hb => absurd rfl hb)
  exact nxt J1 hB
theorem l_case11 {bs Ls j : Nat} {xs : Nat → Int32} {X : ZX} {I : ZI} (hY : YS bs Ls xs X) (hj : j + 6 ≤ Ls) (hL : Ls ≤ 3072) (h : BI I) (nxt : ∀ J, BI J → YG bs X RL code 8 11 600000 7302250 272 11553 1098 (LL j) [] Sg J) : YG bs X RL code 8 11 600000 7302250 272 11553 516 (LL j) [] Sg I := by
  refine y_aload_n dL_law_516 rfl ?_
  refine y_arg (v := 1) (i := j) (j := j + 1) hY dL_law_517 dL_law_518 dL_law_519 dL_law_520 dL_law_521 rfl rfl (nI_1 j) (by omega) (by omega) ?_
  refine y_arg (v := 2) (i := j) (j := j + 2) hY dL_law_522 dL_law_523 dL_law_524 dL_law_525 dL_law_526 rfl rfl (nI_add j 2) (by omega) (by omega) ?_
  refine y_arg (v := 3) (i := j) (j := j + 3) hY dL_law_527 dL_law_528 dL_law_529 dL_law_530 dL_law_531 rfl rfl (nI_add j 3) (by omega) (by omega) ?_
  refine y_cV3p mX9_alike gRL_63 dL_law_532 (u_alike h) (by decide) at_tv (by rfl) (Nat.le_of_ble_eq_true rfl) (Nat.le_of_ble_eq_true rfl) (Nat.le_of_ble_eq_true rfl) (fun r0 J0 hq0 => ?_)
  obtain ⟨⟨a, rfl⟩, hz⟩ := hq0
  refine y_aload_n dL_law_535 rfl ?_
  refine y_arg (v := 1) (i := j) (j := j + 1) hY dL_law_536 dL_law_537 dL_law_538 dL_law_539 dL_law_540 rfl rfl (nI_1 j) (by omega) (by omega) ?_
  refine y_arg (v := 2) (i := j) (j := j + 2) hY dL_law_541 dL_law_542 dL_law_543 dL_law_544 dL_law_545 rfl rfl (nI_add j 2) (by omega) (by omega) ?_
  refine y_arg (v := 3) (i := j) (j := j + 3) hY dL_law_546 dL_law_547 dL_law_548 dL_law_549 dL_law_550 rfl rfl (nI_add j 3) (by omega) (by omega) ?_
  refine y_cV3p mX10_alike gRL_66 dL_law_551 hz (by decide) m_obj (by rfl) (Nat.le_of_ble_eq_true rfl) (Nat.le_of_ble_eq_true rfl) (Nat.le_of_ble_eq_true rfl) (fun r1 J1 hq1 => ?_)
  obtain ⟨rfl, hB⟩ := hq1
  refine y_icmp_eq (tgt := 1098) dL_law_554 (by decide) (fun _ => ?_) (fun hb => absurd rfl hb)
  exact nxt J1 hB
theorem l_case12 {bs Ls j : Nat} {xs : Nat → Int32} {X : ZX} {I : ZI} (hY : YS bs Ls xs X) (hj : j + 6 ≤ Ls) (hL : Ls ≤ 3072) (h : BI I) (nxt : ∀ J, BI J → YG bs X RL code 8 11 600000 7302250 272 11553 1098 (LL j) [] Sg J) : YG bs X RL code 8 11 600000 7302250 272 11553 559 (LL j) [] Sg I := by
  refine y_aload_n dL_law_559 rfl ?_
  refine y_arg (v := 1) (i := j) (j := j + 1) hY dL_law_560 dL_law_561 dL_law_562 dL_law_563 dL_law_564 rfl rfl (nI_1 j) (by omega) (by omega) ?_
  refine y_arg (v := 2) (i := j) (j := j + 2) hY dL_law_565 dL_law_566 dL_law_567 dL_law_568 dL_law_569 rfl rfl (nI_add j 2) (by omega) (by omega) ?_
  refine y_cV2p mX9_unlike gRL_67 dL_law_570 (u_unlike h) (by decide) at_tv (by rfl) (Nat.le_of_ble_eq_true rfl) (Nat.le_of_ble_eq_true rfl) (Nat.le_of_ble_eq_true rfl) (fun r0 J0 hq0 => ?_)
  obtain ⟨⟨a, rfl⟩, hz⟩ := hq0
  refine y_aload_n dL_law_573 rfl ?_
  refine y_arg (v := 1) (i := j) (j := j + 1) hY dL_law_574 dL_law_575 dL_law_576 dL_law_577 dL_law_578 rfl rfl (nI_1 j) (by omega) (by omega) ?_
  refine y_arg (v := 2) (i := j) (j := j + 2) hY dL_law_579 dL_law_580 dL_law_581 dL_law_582 dL_law_583 rfl rfl (nI_add j 2) (by omega) (by omega) ?_
  refine y_cV2p mX10_unlike gRL_71 dL_law_584 hz (by decide) m_obj (by rfl) (Nat.le_of_ble_eq_true rfl) (Nat.le_of_ble_eq_true rfl) (Nat.le_of_ble_eq_true rfl) (fun r1 J1 hq1 => ?_)
  obtain ⟨rfl, hB⟩ := hq1
  refine y_lcmp dL_law_587 ?_
  refine y_if_eq (tgt := 1098) dL_law_588 (by decide) (fun _ => ?_) (fun hb => absurd (lcmp_0 a) hb)
  exact nxt J1 hB
theorem l_case13 {bs Ls j : Nat} {xs : Nat → Int32} {X : ZX} {I : ZI} (hY : YS bs Ls xs X) (hj : j + 6 ≤ Ls) (hL : Ls ≤ 3072) (h : BI I) (nxt : ∀ J, BI J → YG bs X RL code 8 11 600000 7302250 272 11553 1098 (LL j) [] Sg J) : YG bs X RL code 8 11 600000 7302250 272 11553 593 (LL j) [] Sg I := by
  refine y_aload_n dL_law_593 rfl ?_
  refine y_arg (v := 1) (i := j) (j := j + 1) hY dL_law_594 dL_law_595 dL_law_596 dL_law_597 dL_law_598 rfl rfl (nI_1 j) (by omega) (by omega) ?_
  refine y_cV1p mX9_setLines gRL_72 dL_law_599 (u_setLines h) (by decide) at_tv (by rfl) (Nat.le_of_ble_eq_true rfl) (Nat.le_of_ble_eq_true rfl) (Nat.le_of_ble_eq_true rfl) (fun r0 J0 hq0 => ?_)
  obtain ⟨⟨a, rfl⟩, hz⟩ := hq0
  refine y_aload_n dL_law_602 rfl ?_
  refine y_arg (v := 1) (i := j) (j := j + 1) hY dL_law_603 dL_law_604 dL_law_605 dL_law_606 dL_law_607 rfl rfl (nI_1 j) (by omega) (by omega) ?_
  refine y_cV1p mX10_setLines gRL_75 dL_law_608 hz (by decide) m_obj (by rfl) (Nat.le_of_ble_eq_true rfl) (Nat.le_of_ble_eq_true rfl) (Nat.le_of_ble_eq_true rfl) (fun r1 J1 hq1 => ?_)
  obtain ⟨rfl, hB⟩ := hq1
  refine y_icmp_eq (tgt := 1098) dL_law_611 (by decide) (fun _ => ?_) (fun hb => absurd rfl hb)
  exact nxt J1 hB
theorem l_case14 {bs Ls j : Nat} {xs : Nat → Int32} {X : ZX} {I : ZI} (hY : YS bs Ls xs X) (hj : j + 6 ≤ Ls) (hL : Ls ≤ 3072) (h : BI I) (nxt : ∀ J, BI J → YG bs X RL code 8 11 600000 7302250 272 11553 1098 (LL j) [] Sg J) : YG bs X RL code 8 11 600000 7302250 272 11553 616 (LL j) [] Sg I := by
  refine y_aload_n dL_law_616 rfl ?_
  refine y_arg (v := 1) (i := j) (j := j + 1) hY dL_law_617 dL_law_618 dL_law_619 dL_law_620 dL_law_621 rfl rfl (nI_1 j) (by omega) (by omega) ?_
  refine y_cV1p mX9_pages gRL_76 dL_law_622 (u_pages h) (by decide) at_tv (by rfl) (Nat.le_of_ble_eq_true rfl) (Nat.le_of_ble_eq_true rfl) (Nat.le_of_ble_eq_true rfl) (fun r0 J0 hq0 => ?_)
  obtain ⟨⟨a, rfl⟩, hz⟩ := hq0
  refine y_aload_n dL_law_625 rfl ?_
  refine y_arg (v := 1) (i := j) (j := j + 1) hY dL_law_626 dL_law_627 dL_law_628 dL_law_629 dL_law_630 rfl rfl (nI_1 j) (by omega) (by omega) ?_
  refine y_cV1p mX10_pages gRL_79 dL_law_631 hz (by decide) m_obj (by rfl) (Nat.le_of_ble_eq_true rfl) (Nat.le_of_ble_eq_true rfl) (Nat.le_of_ble_eq_true rfl) (fun r1 J1 hq1 => ?_)
  obtain ⟨rfl, hB⟩ := hq1
  refine y_icmp_eq (tgt := 1098) dL_law_634 (by decide) (fun _ => ?_) (fun hb => absurd rfl hb)
  exact nxt J1 hB
theorem l_case15 {bs Ls j : Nat} {xs : Nat → Int32} {X : ZX} {I : ZI} (hY : YS bs Ls xs X) (hj : j + 6 ≤ Ls) (hL : Ls ≤ 3072) (h : BI I) (nxt : ∀ J, BI J → YG bs X RL code 8 11 600000 7302250 272 11553 1098 (LL j) [] Sg J) : YG bs X RL code 8 11 600000 7302250 272 11553 639 (LL j) [] Sg I := by
  refine y_aload_n dL_law_639 rfl ?_
  refine y_arg (v := 1) (i := j) (j := j + 1) hY dL_law_640 dL_law_641 dL_law_642 dL_law_643 dL_law_644 rfl rfl (nI_1 j) (by omega) (by omega) ?_
  refine y_arg (v := 2) (i := j) (j := j + 2) hY dL_law_645 dL_law_646 dL_law_647 dL_law_648 dL_law_649 rfl rfl (nI_add j 2) (by omega) (by omega) ?_
  refine y_arg (v := 3) (i := j) (j := j + 3) hY dL_law_650 dL_law_651 dL_law_652 dL_law_653 dL_law_654 rfl rfl (nI_add j 3) (by omega) (by omega) ?_
  refine y_cV3p mX9_page gRL_80 dL_law_655 (u_page h) (by decide) at_tv (by rfl) (Nat.le_of_ble_eq_true rfl) (Nat.le_of_ble_eq_true rfl) (Nat.le_of_ble_eq_true rfl) (fun r0 J0 hq0 => ?_)
  obtain ⟨⟨a, rfl⟩, hz⟩ := hq0
  refine y_aload_n dL_law_658 rfl ?_
  refine y_arg (v := 1) (i := j) (j := j + 1) hY dL_law_659 dL_law_660 dL_law_661 dL_law_662 dL_law_663 rfl rfl (nI_1 j) (by omega) (by omega) ?_
  refine y_arg (v := 2) (i := j) (j := j + 2) hY dL_law_664 dL_law_665 dL_law_666 dL_law_667 dL_law_668 rfl rfl (nI_add j 2) (by omega) (by omega) ?_
  refine y_arg (v := 3) (i := j) (j := j + 3) hY dL_law_669 dL_law_670 dL_law_671 dL_law_672 dL_law_673 rfl rfl (nI_add j 3) (by omega) (by omega) ?_
  refine y_cV3p mX10_page gRL_83 dL_law_674 hz (by decide) m_obj (by rfl) (Nat.le_of_ble_eq_true rfl) (Nat.le_of_ble_eq_true rfl) (Nat.le_of_ble_eq_true rfl) (fun r1 J1 hq1 => ?_)
  obtain ⟨rfl, hB⟩ := hq1
  refine y_icmp_eq (tgt := 1098) dL_law_677 (by decide) (fun _ => ?_) (fun hb => absurd rfl hb)
  exact nxt J1 hB
theorem l_case16 {bs Ls j : Nat} {xs : Nat → Int32} {X : ZX} {I : ZI} (hY : YS bs Ls xs X) (hj : j + 6 ≤ Ls) (hL : Ls ≤ 3072) (h : BI I) (nxt : ∀ J, BI J → YG bs X RL code 8 11 600000 7302250 272 11553 1098 (LL j) [] Sg J) : YG bs X RL code 8 11 600000 7302250 272 11553 682 (LL j) [] Sg I := by
  refine y_aload_n dL_law_682 rfl ?_
  refine y_arg (v := 1) (i := j) (j := j + 1) hY dL_law_683 dL_law_684 dL_law_685 dL_law_686 dL_law_687 rfl rfl (nI_1 j) (by omega) (by omega) ?_
  refine y_cV1p mX9_type gRL_84 dL_law_688 (u_type h) (by decide) at_tv (by rfl) (Nat.le_of_ble_eq_true rfl) (Nat.le_of_ble_eq_true rfl) (Nat.le_of_ble_eq_true rfl) (fun r0 J0 hq0 => ?_)
  obtain ⟨⟨a, rfl⟩, hz⟩ := hq0
  refine y_aload_n dL_law_691 rfl ?_
  refine y_arg (v := 1) (i := j) (j := j + 1) hY dL_law_692 dL_law_693 dL_law_694 dL_law_695 dL_law_696 rfl rfl (nI_1 j) (by omega) (by omega) ?_
  refine y_cV1p mX10_type gRL_87 dL_law_697 hz (by decide) m_obj (by rfl) (Nat.le_of_ble_eq_true rfl) (Nat.le_of_ble_eq_true rfl) (Nat.le_of_ble_eq_true rfl) (fun r1 J1 hq1 => ?_)
  obtain ⟨rfl, hB⟩ := hq1
  refine y_icmp_eq (tgt := 1098) dL_law_700 (by decide) (fun _ => ?_) (fun hb => absurd rfl hb)
  exact nxt J1 hB
theorem l_case17 {bs Ls j : Nat} {xs : Nat → Int32} {X : ZX} {I : ZI} (hY : YS bs Ls xs X) (hj : j + 6 ≤ Ls) (hL : Ls ≤ 3072) (h : BI I) (nxt : ∀ J, BI J → YG bs X RL code 8 11 600000 7302250 272 11553 1098 (LL j) [] Sg J) : YG bs X RL code 8 11 600000 7302250 272 11553 705 (LL j) [] Sg I := by
  refine y_aload_n dL_law_705 rfl ?_
  refine y_cV0p mX9_clear gRL_88 dL_law_706 (u_clear h) (by decide) at_tv (by rfl) (Nat.le_of_ble_eq_true rfl) (Nat.le_of_ble_eq_true rfl) (Nat.le_of_ble_eq_true rfl) (fun r0 J0 hq0 => ?_)
  obtain ⟨⟨a, rfl⟩, hz⟩ := hq0
  refine y_aload_n dL_law_709 rfl ?_
  refine y_cV0p mX10_clear gRL_91 dL_law_710 hz (by decide) m_obj (by rfl) (Nat.le_of_ble_eq_true rfl) (Nat.le_of_ble_eq_true rfl) (Nat.le_of_ble_eq_true rfl) (fun r1 J1 hq1 => ?_)
  obtain ⟨rfl, hB⟩ := hq1
  refine y_icmp_eq (tgt := 1098) dL_law_713 (by decide) (fun _ => ?_) (fun hb => absurd rfl hb)
  exact nxt J1 hB
theorem l_case18 {bs Ls j : Nat} {xs : Nat → Int32} {X : ZX} {I : ZI} (hY : YS bs Ls xs X) (hj : j + 6 ≤ Ls) (hL : Ls ≤ 3072) (h : BI I) (nxt : ∀ J, BI J → YG bs X RL code 8 11 600000 7302250 272 11553 1098 (LL j) [] Sg J) : YG bs X RL code 8 11 600000 7302250 272 11553 718 (LL j) [] Sg I := by
  refine y_aload_n dL_law_718 rfl ?_
  refine y_arg (v := 1) (i := j) (j := j + 1) hY dL_law_719 dL_law_720 dL_law_721 dL_law_722 dL_law_723 rfl rfl (nI_1 j) (by omega) (by omega) ?_
  refine y_cV1p mX9_sheet gRL_92 dL_law_724 (u_sheet h) (by decide) at_tv (by rfl) (Nat.le_of_ble_eq_true rfl) (Nat.le_of_ble_eq_true rfl) (Nat.le_of_ble_eq_true rfl) (fun r0 J0 hq0 => ?_)
  obtain ⟨⟨a, rfl⟩, hz⟩ := hq0
  refine y_aload_n dL_law_727 rfl ?_
  refine y_arg (v := 1) (i := j) (j := j + 1) hY dL_law_728 dL_law_729 dL_law_730 dL_law_731 dL_law_732 rfl rfl (nI_1 j) (by omega) (by omega) ?_
  refine y_cV1p mX10_sheet gRL_95 dL_law_733 hz (by decide) m_obj (by rfl) (Nat.le_of_ble_eq_true rfl) (Nat.le_of_ble_eq_true rfl) (Nat.le_of_ble_eq_true rfl) (fun r1 J1 hq1 => ?_)
  obtain ⟨rfl, hB⟩ := hq1
  refine y_icmp_eq (tgt := 1098) dL_law_736 (by decide) (fun _ => ?_) (fun hb => absurd rfl hb)
  exact nxt J1 hB
theorem l_case19 {bs Ls j : Nat} {xs : Nat → Int32} {X : ZX} {I : ZI} (hY : YS bs Ls xs X) (hj : j + 6 ≤ Ls) (hL : Ls ≤ 3072) (h : BI I) (nxt : ∀ J, BI J → YG bs X RL code 8 11 600000 7302250 272 11553 1098 (LL j) [] Sg J) : YG bs X RL code 8 11 600000 7302250 272 11553 741 (LL j) [] Sg I := by
  refine y_aload_n dL_law_741 rfl ?_
  refine y_arg (v := 1) (i := j) (j := j + 1) hY dL_law_742 dL_law_743 dL_law_744 dL_law_745 dL_law_746 rfl rfl (nI_1 j) (by omega) (by omega) ?_
  refine y_arg (v := 2) (i := j) (j := j + 2) hY dL_law_747 dL_law_748 dL_law_749 dL_law_750 dL_law_751 rfl rfl (nI_add j 2) (by omega) (by omega) ?_
  refine y_arg (v := 3) (i := j) (j := j + 3) hY dL_law_752 dL_law_753 dL_law_754 dL_law_755 dL_law_756 rfl rfl (nI_add j 3) (by omega) (by omega) ?_
  refine y_cV3p mX9_guess gRL_96 dL_law_757 (u_guess h) (by decide) at_tv (by rfl) (Nat.le_of_ble_eq_true rfl) (Nat.le_of_ble_eq_true rfl) (Nat.le_of_ble_eq_true rfl) (fun r0 J0 hq0 => ?_)
  obtain ⟨⟨a, rfl⟩, hz⟩ := hq0
  refine y_aload_n dL_law_760 rfl ?_
  refine y_arg (v := 1) (i := j) (j := j + 1) hY dL_law_761 dL_law_762 dL_law_763 dL_law_764 dL_law_765 rfl rfl (nI_1 j) (by omega) (by omega) ?_
  refine y_arg (v := 2) (i := j) (j := j + 2) hY dL_law_766 dL_law_767 dL_law_768 dL_law_769 dL_law_770 rfl rfl (nI_add j 2) (by omega) (by omega) ?_
  refine y_arg (v := 3) (i := j) (j := j + 3) hY dL_law_771 dL_law_772 dL_law_773 dL_law_774 dL_law_775 rfl rfl (nI_add j 3) (by omega) (by omega) ?_
  refine y_cV3p mX10_guess gRL_99 dL_law_776 hz (by decide) m_obj (by rfl) (Nat.le_of_ble_eq_true rfl) (Nat.le_of_ble_eq_true rfl) (Nat.le_of_ble_eq_true rfl) (fun r1 J1 hq1 => ?_)
  obtain ⟨rfl, hB⟩ := hq1
  refine y_icmp_eq (tgt := 1098) dL_law_779 (by decide) (fun _ => ?_) (fun hb => absurd rfl hb)
  exact nxt J1 hB
theorem l_case20 {bs Ls j : Nat} {xs : Nat → Int32} {X : ZX} {I : ZI} (hY : YS bs Ls xs X) (hj : j + 6 ≤ Ls) (hL : Ls ≤ 3072) (h : BI I) (nxt : ∀ J, BI J → YG bs X RL code 8 11 600000 7302250 272 11553 1098 (LL j) [] Sg J) : YG bs X RL code 8 11 600000 7302250 272 11553 784 (LL j) [] Sg I := by
  refine y_aload_n dL_law_784 rfl ?_
  refine y_cV0p mX9_forget gRL_100 dL_law_785 (u_forget h) (by decide) at_tv (by rfl) (Nat.le_of_ble_eq_true rfl) (Nat.le_of_ble_eq_true rfl) (Nat.le_of_ble_eq_true rfl) (fun r0 J0 hq0 => ?_)
  obtain ⟨⟨a, rfl⟩, hz⟩ := hq0
  refine y_aload_n dL_law_788 rfl ?_
  refine y_cV0p mX10_forget gRL_103 dL_law_789 hz (by decide) m_obj (by rfl) (Nat.le_of_ble_eq_true rfl) (Nat.le_of_ble_eq_true rfl) (Nat.le_of_ble_eq_true rfl) (fun r1 J1 hq1 => ?_)
  obtain ⟨rfl, hB⟩ := hq1
  refine y_icmp_eq (tgt := 1098) dL_law_792 (by decide) (fun _ => ?_) (fun hb => absurd rfl hb)
  exact nxt J1 hB
theorem l_case21 {bs Ls j : Nat} {xs : Nat → Int32} {X : ZX} {I : ZI} (hY : YS bs Ls xs X) (hj : j + 6 ≤ Ls) (hL : Ls ≤ 3072) (h : BI I) (nxt : ∀ J, BI J → YG bs X RL code 8 11 600000 7302250 272 11553 1098 (LL j) [] Sg J) : YG bs X RL code 8 11 600000 7302250 272 11553 797 (LL j) [] Sg I := by
  refine y_aload_n dL_law_797 rfl ?_
  refine y_arg (v := 1) (i := j) (j := j + 1) hY dL_law_798 dL_law_799 dL_law_800 dL_law_801 dL_law_802 rfl rfl (nI_1 j) (by omega) (by omega) ?_
  refine y_arg (v := 2) (i := j) (j := j + 2) hY dL_law_803 dL_law_804 dL_law_805 dL_law_806 dL_law_807 rfl rfl (nI_add j 2) (by omega) (by omega) ?_
  refine y_cV2p mX9_result gRL_104 dL_law_808 (u_result h) (by decide) at_tv (by rfl) (Nat.le_of_ble_eq_true rfl) (Nat.le_of_ble_eq_true rfl) (Nat.le_of_ble_eq_true rfl) (fun r0 J0 hq0 => ?_)
  obtain ⟨⟨a, rfl⟩, hz⟩ := hq0
  refine y_aload_n dL_law_811 rfl ?_
  refine y_arg (v := 1) (i := j) (j := j + 1) hY dL_law_812 dL_law_813 dL_law_814 dL_law_815 dL_law_816 rfl rfl (nI_1 j) (by omega) (by omega) ?_
  refine y_arg (v := 2) (i := j) (j := j + 2) hY dL_law_817 dL_law_818 dL_law_819 dL_law_820 dL_law_821 rfl rfl (nI_add j 2) (by omega) (by omega) ?_
  refine y_cV2p mX10_result gRL_107 dL_law_822 hz (by decide) m_obj (by rfl) (Nat.le_of_ble_eq_true rfl) (Nat.le_of_ble_eq_true rfl) (Nat.le_of_ble_eq_true rfl) (fun r1 J1 hq1 => ?_)
  obtain ⟨rfl, hB⟩ := hq1
  refine y_icmp_eq (tgt := 1098) dL_law_825 (by decide) (fun _ => ?_) (fun hb => absurd rfl hb)
  exact nxt J1 hB
theorem l_case22 {bs Ls j : Nat} {xs : Nat → Int32} {X : ZX} {I : ZI} (hY : YS bs Ls xs X) (hj : j + 6 ≤ Ls) (hL : Ls ≤ 3072) (h : BI I) (nxt : ∀ J, BI J → YG bs X RL code 8 11 600000 7302250 272 11553 1098 (LL j) [] Sg J) : YG bs X RL code 8 11 600000 7302250 272 11553 830 (LL j) [] Sg I := by
  refine y_aload_n dL_law_830 rfl ?_
  refine y_arg (v := 1) (i := j) (j := j + 1) hY dL_law_831 dL_law_832 dL_law_833 dL_law_834 dL_law_835 rfl rfl (nI_1 j) (by omega) (by omega) ?_
  refine y_arg (v := 2) (i := j) (j := j + 2) hY dL_law_836 dL_law_837 dL_law_838 dL_law_839 dL_law_840 rfl rfl (nI_add j 2) (by omega) (by omega) ?_
  refine y_cV2p mX9_answer gRL_108 dL_law_841 (u_answer h) (by decide) at_tv (by rfl) (Nat.le_of_ble_eq_true rfl) (Nat.le_of_ble_eq_true rfl) (Nat.le_of_ble_eq_true rfl) (fun r0 J0 hq0 => ?_)
  obtain ⟨⟨a, rfl⟩, hz⟩ := hq0
  refine y_aload_n dL_law_844 rfl ?_
  refine y_arg (v := 1) (i := j) (j := j + 1) hY dL_law_845 dL_law_846 dL_law_847 dL_law_848 dL_law_849 rfl rfl (nI_1 j) (by omega) (by omega) ?_
  refine y_arg (v := 2) (i := j) (j := j + 2) hY dL_law_850 dL_law_851 dL_law_852 dL_law_853 dL_law_854 rfl rfl (nI_add j 2) (by omega) (by omega) ?_
  refine y_cV2p mX10_answer gRL_111 dL_law_855 hz (by decide) m_obj (by rfl) (Nat.le_of_ble_eq_true rfl) (Nat.le_of_ble_eq_true rfl) (Nat.le_of_ble_eq_true rfl) (fun r1 J1 hq1 => ?_)
  obtain ⟨rfl, hB⟩ := hq1
  refine y_icmp_eq (tgt := 1098) dL_law_858 (by decide) (fun _ => ?_) (fun hb => absurd rfl hb)
  exact nxt J1 hB
theorem l_case23 {bs Ls j : Nat} {xs : Nat → Int32} {X : ZX} {I : ZI} (hY : YS bs Ls xs X) (hj : j + 6 ≤ Ls) (hL : Ls ≤ 3072) (h : BI I) (nxt : ∀ J, BI J → YG bs X RL code 8 11 600000 7302250 272 11553 1098 (LL j) [] Sg J) : YG bs X RL code 8 11 600000 7302250 272 11553 863 (LL j) [] Sg I := by
  refine y_aload_n dL_law_863 rfl ?_
  refine y_arg (v := 1) (i := j) (j := j + 1) hY dL_law_864 dL_law_865 dL_law_866 dL_law_867 dL_law_868 rfl rfl (nI_1 j) (by omega) (by omega) ?_
  refine y_arg (v := 2) (i := j) (j := j + 2) hY dL_law_869 dL_law_870 dL_law_871 dL_law_872 dL_law_873 rfl rfl (nI_add j 2) (by omega) (by omega) ?_
  refine y_cV2p mX9_about gRL_112 dL_law_874 (u_about h) (by decide) at_tv (by rfl) (Nat.le_of_ble_eq_true rfl) (Nat.le_of_ble_eq_true rfl) (Nat.le_of_ble_eq_true rfl) (fun r0 J0 hq0 => ?_)
  obtain ⟨⟨a, rfl⟩, hz⟩ := hq0
  refine y_aload_n dL_law_877 rfl ?_
  refine y_arg (v := 1) (i := j) (j := j + 1) hY dL_law_878 dL_law_879 dL_law_880 dL_law_881 dL_law_882 rfl rfl (nI_1 j) (by omega) (by omega) ?_
  refine y_arg (v := 2) (i := j) (j := j + 2) hY dL_law_883 dL_law_884 dL_law_885 dL_law_886 dL_law_887 rfl rfl (nI_add j 2) (by omega) (by omega) ?_
  refine y_cV2p mX10_about gRL_115 dL_law_888 hz (by decide) m_obj (by rfl) (Nat.le_of_ble_eq_true rfl) (Nat.le_of_ble_eq_true rfl) (Nat.le_of_ble_eq_true rfl) (fun r1 J1 hq1 => ?_)
  obtain ⟨rfl, hB⟩ := hq1
  refine y_icmp_eq (tgt := 1098) dL_law_891 (by decide) (fun _ => ?_) (fun hb => absurd rfl hb)
  exact nxt J1 hB
theorem l_case24 {bs Ls j : Nat} {xs : Nat → Int32} {X : ZX} {I : ZI} (hY : YS bs Ls xs X) (hj : j + 6 ≤ Ls) (hL : Ls ≤ 3072) (h : BI I) (nxt : ∀ J, BI J → YG bs X RL code 8 11 600000 7302250 272 11553 1098 (LL j) [] Sg J) : YG bs X RL code 8 11 600000 7302250 272 11553 896 (LL j) [] Sg I := by
  refine y_aload_n dL_law_896 rfl ?_
  refine y_arg (v := 1) (i := j) (j := j + 1) hY dL_law_897 dL_law_898 dL_law_899 dL_law_900 dL_law_901 rfl rfl (nI_1 j) (by omega) (by omega) ?_
  refine y_cV1p mX9_parting gRL_116 dL_law_902 (u_parting h) (by decide) at_tv (by rfl) (Nat.le_of_ble_eq_true rfl) (Nat.le_of_ble_eq_true rfl) (Nat.le_of_ble_eq_true rfl) (fun r0 J0 hq0 => ?_)
  obtain ⟨⟨a, rfl, hn⟩, hz⟩ := hq0
  refine y_f2d dL_law_905 (f_f2d hn) ?_
  refine y_dstore dL_law_906 (by decide) rfl (zgd (l := .int (nI j)) (j := 3) rfl rfl) ?_
  refine y_aload_n dL_law_908 rfl ?_
  refine y_arg (v := 1) (i := j) (j := j + 1) hY dL_law_909 dL_law_910 dL_law_911 dL_law_912 dL_law_913 rfl rfl (nI_1 j) (by omega) (by omega) ?_
  refine y_cV1p mX10_parting gRL_120 dL_law_914 hz (by decide) m_obj (by rfl) (Nat.le_of_ble_eq_true rfl) (Nat.le_of_ble_eq_true rfl) (Nat.le_of_ble_eq_true rfl) (fun r1 J1 hq1 => ?_)
  obtain ⟨rfl, hB⟩ := hq1
  refine y_f2d dL_law_917 (f_f2d hn) ?_
  refine y_dstore dL_law_918 (by decide) rfl (zgd (l := zj) (j := 5) rfl rfl) ?_
  have fin : YG bs X RL code 8 11 600000 7302250 272 11553 946 [zj, .ref 0, .ref 259, .int (nI j), .double (FP.f2d a), zj, .double (FP.f2d a), zj] [] Sg J1 := by
    refine y_goto (tgt := 1098) dL_law_946 (by decide) ?_
    exact y_fg y_LL (nxt J1 hB)
  refine y_dload dL_law_920 rfl ?_
  refine y_dload dL_law_922 rfl ?_
  refine y_dcmp dL_law_924 ?_
  refine y_if_eq (tgt := 946) dL_law_925 (by decide) (fun _ => fin) (fun h0 => ?_)
  refine y_dload dL_law_928 rfl ?_
  refine y_dload dL_law_930 rfl ?_
  refine y_dcmp dL_law_932 ?_
  refine y_if_eq (tgt := 944) dL_law_933 (by decide) (fun h1 => absurd h1 h0) (fun _ => ?_)
  refine y_dload dL_law_936 rfl ?_
  refine y_dload dL_law_938 rfl ?_
  refine y_dcmp dL_law_940 ?_
  exact y_if_ne (tgt := 946) dL_law_941 (by decide) (fun _ => fin) (fun h1 => absurd h1 h0)
theorem l_case25 {bs Ls j : Nat} {xs : Nat → Int32} {X : ZX} {I : ZI} (hY : YS bs Ls xs X) (hj : j + 6 ≤ Ls) (hL : Ls ≤ 3072) (h : BI I) (nxt : ∀ J, BI J → YG bs X RL code 8 11 600000 7302250 272 11553 1098 (LL j) [] Sg J) : YG bs X RL code 8 11 600000 7302250 272 11553 949 (LL j) [] Sg I := by
  refine y_aload_n dL_law_949 rfl ?_
  refine y_cV0p mX9_mean gRL_121 dL_law_950 (u_mean h) (by decide) at_tv (by rfl) (Nat.le_of_ble_eq_true rfl) (Nat.le_of_ble_eq_true rfl) (Nat.le_of_ble_eq_true rfl) (fun r0 J0 hq0 => ?_)
  obtain ⟨⟨a, rfl, hn⟩, hz⟩ := hq0
  refine y_f2d dL_law_953 (f_f2d hn) ?_
  refine y_dstore dL_law_954 (by decide) rfl (zgd (l := .int (nI j)) (j := 3) rfl rfl) ?_
  refine y_aload_n dL_law_956 rfl ?_
  refine y_cV0p mX10_mean gRL_125 dL_law_957 hz (by decide) m_obj (by rfl) (Nat.le_of_ble_eq_true rfl) (Nat.le_of_ble_eq_true rfl) (Nat.le_of_ble_eq_true rfl) (fun r1 J1 hq1 => ?_)
  obtain ⟨rfl, hB⟩ := hq1
  refine y_f2d dL_law_960 (f_f2d hn) ?_
  refine y_dstore dL_law_961 (by decide) rfl (zgd (l := zj) (j := 5) rfl rfl) ?_
  have fin : YG bs X RL code 8 11 600000 7302250 272 11553 989 [zj, .ref 0, .ref 259, .int (nI j), .double (FP.f2d a), zj, .double (FP.f2d a), zj] [] Sg J1 := by
    refine y_goto (tgt := 1098) dL_law_989 (by decide) ?_
    exact y_fg y_LL (nxt J1 hB)
  refine y_dload dL_law_963 rfl ?_
  refine y_dload dL_law_965 rfl ?_
  refine y_dcmp dL_law_967 ?_
  refine y_if_eq (tgt := 989) dL_law_968 (by decide) (fun _ => fin) (fun h0 => ?_)
  refine y_dload dL_law_971 rfl ?_
  refine y_dload dL_law_973 rfl ?_
  refine y_dcmp dL_law_975 ?_
  refine y_if_eq (tgt := 987) dL_law_976 (by decide) (fun h1 => absurd h1 h0) (fun _ => ?_)
  refine y_dload dL_law_979 rfl ?_
  refine y_dload dL_law_981 rfl ?_
  refine y_dcmp dL_law_983 ?_
  exact y_if_ne (tgt := 989) dL_law_984 (by decide) (fun _ => fin) (fun h1 => absurd h1 h0)
theorem l_case26 {bs Ls j : Nat} {xs : Nat → Int32} {X : ZX} {I : ZI} (hY : YS bs Ls xs X) (hj : j + 6 ≤ Ls) (hL : Ls ≤ 3072) (h : BI I) (nxt : ∀ J, BI J → YG bs X RL code 8 11 600000 7302250 272 11553 1098 (LL j) [] Sg J) : YG bs X RL code 8 11 600000 7302250 272 11553 992 (LL j) [] Sg I := by
  refine y_aload_n dL_law_992 rfl ?_
  refine y_arg (v := 1) (i := j) (j := j + 1) hY dL_law_993 dL_law_994 dL_law_995 dL_law_996 dL_law_997 rfl rfl (nI_1 j) (by omega) (by omega) ?_
  refine y_arg (v := 2) (i := j) (j := j + 2) hY dL_law_998 dL_law_999 dL_law_1000 dL_law_1001 dL_law_1002 rfl rfl (nI_add j 2) (by omega) (by omega) ?_
  refine y_cV2p mX9_sameWrong gRL_126 dL_law_1003 (u_sameWrong h) (by decide) at_tv (by rfl) (Nat.le_of_ble_eq_true rfl) (Nat.le_of_ble_eq_true rfl) (Nat.le_of_ble_eq_true rfl) (fun r0 J0 hq0 => ?_)
  obtain ⟨⟨a, rfl⟩, hz⟩ := hq0
  refine y_aload_n dL_law_1006 rfl ?_
  refine y_arg (v := 1) (i := j) (j := j + 1) hY dL_law_1007 dL_law_1008 dL_law_1009 dL_law_1010 dL_law_1011 rfl rfl (nI_1 j) (by omega) (by omega) ?_
  refine y_arg (v := 2) (i := j) (j := j + 2) hY dL_law_1012 dL_law_1013 dL_law_1014 dL_law_1015 dL_law_1016 rfl rfl (nI_add j 2) (by omega) (by omega) ?_
  refine y_cV2p mX10_sameWrong gRL_129 dL_law_1017 hz (by decide) m_obj (by rfl) (Nat.le_of_ble_eq_true rfl) (Nat.le_of_ble_eq_true rfl) (Nat.le_of_ble_eq_true rfl) (fun r1 J1 hq1 => ?_)
  obtain ⟨rfl, hB⟩ := hq1
  refine y_icmp_eq (tgt := 1098) dL_law_1020 (by decide) (fun _ => ?_) (fun hb => absurd rfl hb)
  exact nxt J1 hB
theorem l_case27 {bs Ls j : Nat} {xs : Nat → Int32} {X : ZX} {I : ZI} (hY : YS bs Ls xs X) (hj : j + 6 ≤ Ls) (hL : Ls ≤ 3072) (h : BI I) (nxt : ∀ J, BI J → YG bs X RL code 8 11 600000 7302250 272 11553 1098 (LL j) [] Sg J) : YG bs X RL code 8 11 600000 7302250 272 11553 1025 (LL j) [] Sg I := by
  refine y_aload_n dL_law_1025 rfl ?_
  refine y_cV0p mX9_suspects gRL_130 dL_law_1026 (u_suspects h) (by decide) at_tv (by rfl) (Nat.le_of_ble_eq_true rfl) (Nat.le_of_ble_eq_true rfl) (Nat.le_of_ble_eq_true rfl) (fun r0 J0 hq0 => ?_)
  obtain ⟨⟨a, rfl⟩, hz⟩ := hq0
  refine y_aload_n dL_law_1029 rfl ?_
  refine y_cV0p mX10_suspects gRL_133 dL_law_1030 hz (by decide) m_obj (by rfl) (Nat.le_of_ble_eq_true rfl) (Nat.le_of_ble_eq_true rfl) (Nat.le_of_ble_eq_true rfl) (fun r1 J1 hq1 => ?_)
  obtain ⟨rfl, hB⟩ := hq1
  refine y_icmp_eq (tgt := 1098) dL_law_1033 (by decide) (fun _ => ?_) (fun hb => absurd rfl hb)
  exact nxt J1 hB
theorem l_case28 {bs Ls j : Nat} {xs : Nat → Int32} {X : ZX} {I : ZI} (hY : YS bs Ls xs X) (hj : j + 6 ≤ Ls) (hL : Ls ≤ 3072) (h : BI I) (nxt : ∀ J, BI J → YG bs X RL code 8 11 600000 7302250 272 11553 1098 (LL j) [] Sg J) : YG bs X RL code 8 11 600000 7302250 272 11553 1038 (LL j) [] Sg I := by
  refine y_aload_n dL_law_1038 rfl ?_
  refine y_arg (v := 1) (i := j) (j := j + 1) hY dL_law_1039 dL_law_1040 dL_law_1041 dL_law_1042 dL_law_1043 rfl rfl (nI_1 j) (by omega) (by omega) ?_
  refine y_arg (v := 2) (i := j) (j := j + 2) hY dL_law_1044 dL_law_1045 dL_law_1046 dL_law_1047 dL_law_1048 rfl rfl (nI_add j 2) (by omega) (by omega) ?_
  refine y_cV2p mX9_mistaken gRL_134 dL_law_1049 (u_mistaken h) (by decide) at_tv (by rfl) (Nat.le_of_ble_eq_true rfl) (Nat.le_of_ble_eq_true rfl) (Nat.le_of_ble_eq_true rfl) (fun r0 J0 hq0 => ?_)
  obtain ⟨⟨a, rfl⟩, hz⟩ := hq0
  refine y_aload_n dL_law_1052 rfl ?_
  refine y_arg (v := 1) (i := j) (j := j + 1) hY dL_law_1053 dL_law_1054 dL_law_1055 dL_law_1056 dL_law_1057 rfl rfl (nI_1 j) (by omega) (by omega) ?_
  refine y_arg (v := 2) (i := j) (j := j + 2) hY dL_law_1058 dL_law_1059 dL_law_1060 dL_law_1061 dL_law_1062 rfl rfl (nI_add j 2) (by omega) (by omega) ?_
  refine y_cV2p mX10_mistaken gRL_137 dL_law_1063 hz (by decide) m_obj (by rfl) (Nat.le_of_ble_eq_true rfl) (Nat.le_of_ble_eq_true rfl) (Nat.le_of_ble_eq_true rfl) (fun r1 J1 hq1 => ?_)
  obtain ⟨rfl, hB⟩ := hq1
  refine y_icmp_eq (tgt := 1098) dL_law_1066 (by decide) (fun _ => ?_) (fun hb => absurd rfl hb)
  exact nxt J1 hB
theorem l_case29 {bs Ls j : Nat} {xs : Nat → Int32} {X : ZX} {I : ZI} (hY : YS bs Ls xs X) (hj : j + 6 ≤ Ls) (hL : Ls ≤ 3072) (h : BI I) (nxt : ∀ J, BI J → YG bs X RL code 8 11 600000 7302250 272 11553 1098 (LL j) [] Sg J) : YG bs X RL code 8 11 600000 7302250 272 11553 1071 (LL j) [] Sg I := by
  refine y_aload_n dL_law_1071 rfl ?_
  refine y_cV0p mX9_undo gRL_138 dL_law_1072 (u_undo h) (by decide) at_tv (by rfl) (Nat.le_of_ble_eq_true rfl) (Nat.le_of_ble_eq_true rfl) (Nat.le_of_ble_eq_true rfl) (fun r0 J0 hq0 => ?_)
  obtain ⟨⟨a, rfl⟩, hz⟩ := hq0
  refine y_aload_n dL_law_1075 rfl ?_
  refine y_cV0p mX10_undo gRL_141 dL_law_1076 hz (by decide) m_obj (by rfl) (Nat.le_of_ble_eq_true rfl) (Nat.le_of_ble_eq_true rfl) (Nat.le_of_ble_eq_true rfl) (fun r1 J1 hq1 => ?_)
  obtain ⟨rfl, hB⟩ := hq1
  refine y_icmp_eq (tgt := 1098) dL_law_1079 (by decide) (fun _ => ?_) (fun hb => absurd rfl hb)
  exact nxt J1 hB
theorem l_case30 {bs Ls j : Nat} {xs : Nat → Int32} {X : ZX} {I : ZI} (hY : YS bs Ls xs X) (hj : j + 6 ≤ Ls) (hL : Ls ≤ 3072) (h : BI I) (nxt : ∀ J, BI J → YG bs X RL code 8 11 600000 7302250 272 11553 1098 (LL j) [] Sg J) : YG bs X RL code 8 11 600000 7302250 272 11553 1084 (LL j) [] Sg I := by
  refine y_aload_n dL_law_1084 rfl ?_
  refine y_cV0p mX9_fingerprint gRL_142 dL_law_1085 (u_fingerprint h) (by decide) at_tv (by rfl) (Nat.le_of_ble_eq_true rfl) (Nat.le_of_ble_eq_true rfl) (Nat.le_of_ble_eq_true rfl) (fun r0 J0 hq0 => ?_)
  obtain ⟨⟨a, rfl⟩, hz⟩ := hq0
  refine y_aload_n dL_law_1088 rfl ?_
  refine y_cV0p mX10_fingerprint gRL_145 dL_law_1089 hz (by decide) m_obj (by rfl) (Nat.le_of_ble_eq_true rfl) (Nat.le_of_ble_eq_true rfl) (Nat.le_of_ble_eq_true rfl) (fun r1 J1 hq1 => ?_)
  obtain ⟨rfl, hB⟩ := hq1
  refine y_lcmp dL_law_1092 ?_
  refine y_if_eq (tgt := 1098) dL_law_1093 (by decide) (fun _ => ?_) (fun hb => absurd (lcmp_0 a) hb)
  exact nxt J1 hB
