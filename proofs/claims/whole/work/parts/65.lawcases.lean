-- the law: one round of its loop
theorem lq_rf (v : Int64) : (if v > v then (1 : Int) else if v = v then 0 else -1) = 0 := by
  rw [if_neg (by intro h; exact absurd h (by simp)), if_pos rfl]
theorem lc_0 {K : mj_C} {d : Nat} (hD : 21 ≤ d) (hK : kOk K) (hL : (K 0).1 ≤ 3072) (hr : ∀ j, -2147483648 ≤ (K 0).2 j ∧ (K 0).2 j ≤ 2147483647) {k : Nat} (hk : 6 * k + 6 ≤ (K 0).1) {M : Nat → Nat → Int} {N : Nat → Nat → Int64} (hG : Good M N) {Q : Option mj_V → mj_Z → Prop} (ih : ∀ M N, Good M N → mj_T K d 187 18 [some (.inr (.inr (.inr 0))), some (.inr (.inr (.inl 0))), some (.inr (.inr (.inl 126))), some (.inl (((6 * (k + 1)) : Nat) : Int))] [] (mj_Sh, M, N) Q) : mj_T K d 187 188 [some (.inr (.inr (.inr 0))), some (.inr (.inr (.inl 0))), some (.inr (.inr (.inl 126))), some (.inl (((6 * k) : Nat) : Int))] [] (mj_Sh, M, N) Q := by
  obtain ⟨v, hP⟩ := pr_69 (d := d - 1) (by omega) hK hG ((K 0).2 ((6 * k) + 1)) ((K 0).2 ((6 * k) + 2))
  unfold PR at hP
  refine tw_aload k187_188 rfl ?_
  refine tw_aload k187_189 rfl ?_
  refine tw_iload k187_190 rfl ?_
  refine tw_const k187_191 ?_
  refine tw_iadd k187_192 (v := (((6 * k) + 1 : Nat) : Int)) rfl (by omega) ?_
  refine tw_ialdc (j := (6 * k) + 1) (v := ((K 0).2 ((6 * k) + 1))) k187_193 rfl rfl (by omega) rfl ?_
  refine tw_aload k187_194 rfl ?_
  refine tw_iload k187_195 rfl ?_
  refine tw_const k187_196 ?_
  refine tw_iadd k187_197 (v := (((6 * k) + 2 : Nat) : Int)) rfl (by omega) ?_
  refine tw_ialdc (j := (6 * k) + 2) (v := ((K 0).2 ((6 * k) + 2))) k187_198 rfl rfl (by omega) rfl ?_
  refine tw_call (by omega) (S' := []) (as := [.inr (.inr (.inl 0)), .inl ((K 0).2 ((6 * k) + 1)), .inl ((K 0).2 ((6 * k) + 2))]) k187_199 hP rfl rfl rfl rfl rfl (fun r199 Z199 hq199 => ?_)
  obtain ⟨rfl, M1, N1, rfl, hP1⟩ := hq199
  refine tw_as (S := [.inl v]) (M := M1) (N := N1) rfl rfl ?_
  refine tw_aload k187_202 rfl ?_
  refine tw_aload k187_203 rfl ?_
  refine tw_iload k187_204 rfl ?_
  refine tw_const k187_205 ?_
  refine tw_iadd k187_206 (v := (((6 * k) + 1 : Nat) : Int)) rfl (by omega) ?_
  refine tw_ialdc (j := (6 * k) + 1) (v := ((K 0).2 ((6 * k) + 1))) k187_207 rfl rfl (by omega) rfl ?_
  refine tw_aload k187_208 rfl ?_
  refine tw_iload k187_209 rfl ?_
  refine tw_const k187_210 ?_
  refine tw_iadd k187_211 (v := (((6 * k) + 2 : Nat) : Int)) rfl (by omega) ?_
  refine tw_ialdc (j := (6 * k) + 2) (v := ((K 0).2 ((6 * k) + 2))) k187_212 rfl rfl (by omega) rfl ?_
  refine tw_call (by omega) (S' := [.inl v]) (as := [.inr (.inr (.inl 126)), .inl ((K 0).2 ((6 * k) + 1)), .inl ((K 0).2 ((6 * k) + 2))]) k187_213 hP1 rfl rfl rfl rfl rfl (fun r213 Z213 hq213 => ?_)
  obtain ⟨rfl, M2, N2, rfl, hG2⟩ := hq213
  refine tw_as (S := [.inl v, .inl v]) (M := M2) (N := N2) rfl rfl ?_
  refine tw_ceqT k187_216 rfl ?_
  refine tw_iinc k187_1290 rfl (v := (((6 * k) + 6 : Nat) : Int)) rfl (by omega) rfl (L' := [some (.inr (.inr (.inr 0))), some (.inr (.inr (.inl 0))), some (.inr (.inr (.inl 126))), some (.inl (((6 * k) + 6 : Nat) : Int))]) rfl ?_
  refine tw_goto k187_1293 ?_
  refine tw_eqL (L' := [some (.inr (.inr (.inr 0))), some (.inr (.inr (.inl 0))), some (.inr (.inr (.inl 126))), some (.inl (((6 * (k + 1)) : Nat) : Int))]) (e_c rfl (e_c rfl (e_c rfl (e_c (e_i (by omega)) rfl)))) ?_
  exact ih M2 N2 hG2
theorem lc_1 {K : mj_C} {d : Nat} (hD : 21 ≤ d) (hK : kOk K) (hL : (K 0).1 ≤ 3072) (hr : ∀ j, -2147483648 ≤ (K 0).2 j ∧ (K 0).2 j ≤ 2147483647) {k : Nat} (hk : 6 * k + 6 ≤ (K 0).1) {M : Nat → Nat → Int} {N : Nat → Nat → Int64} (hG : Good M N) {Q : Option mj_V → mj_Z → Prop} (ih : ∀ M N, Good M N → mj_T K d 187 18 [some (.inr (.inr (.inr 0))), some (.inr (.inr (.inl 0))), some (.inr (.inr (.inl 126))), some (.inl (((6 * (k + 1)) : Nat) : Int))] [] (mj_Sh, M, N) Q) : mj_T K d 187 221 [some (.inr (.inr (.inr 0))), some (.inr (.inr (.inl 0))), some (.inr (.inr (.inl 126))), some (.inl (((6 * k) : Nat) : Int))] [] (mj_Sh, M, N) Q := by
  obtain ⟨v, hP⟩ := pr_70 (d := d - 1) (by omega) hK hG ((K 0).2 ((6 * k) + 1)) ((K 0).2 ((6 * k) + 2)) ((K 0).2 ((6 * k) + 3))
  unfold PR at hP
  refine tw_aload k187_221 rfl ?_
  refine tw_aload k187_222 rfl ?_
  refine tw_iload k187_223 rfl ?_
  refine tw_const k187_224 ?_
  refine tw_iadd k187_225 (v := (((6 * k) + 1 : Nat) : Int)) rfl (by omega) ?_
  refine tw_ialdc (j := (6 * k) + 1) (v := ((K 0).2 ((6 * k) + 1))) k187_226 rfl rfl (by omega) rfl ?_
  refine tw_aload k187_227 rfl ?_
  refine tw_iload k187_228 rfl ?_
  refine tw_const k187_229 ?_
  refine tw_iadd k187_230 (v := (((6 * k) + 2 : Nat) : Int)) rfl (by omega) ?_
  refine tw_ialdc (j := (6 * k) + 2) (v := ((K 0).2 ((6 * k) + 2))) k187_231 rfl rfl (by omega) rfl ?_
  refine tw_aload k187_232 rfl ?_
  refine tw_iload k187_233 rfl ?_
  refine tw_const k187_234 ?_
  refine tw_iadd k187_235 (v := (((6 * k) + 3 : Nat) : Int)) rfl (by omega) ?_
  refine tw_ialdc (j := (6 * k) + 3) (v := ((K 0).2 ((6 * k) + 3))) k187_236 rfl rfl (by omega) rfl ?_
  refine tw_call (by omega) (S' := []) (as := [.inr (.inr (.inl 0)), .inl ((K 0).2 ((6 * k) + 1)), .inl ((K 0).2 ((6 * k) + 2)), .inl ((K 0).2 ((6 * k) + 3))]) k187_237 hP rfl rfl rfl rfl rfl (fun r237 Z237 hq237 => ?_)
  obtain ⟨rfl, M1, N1, rfl, hP1⟩ := hq237
  refine tw_as (S := [.inl v]) (M := M1) (N := N1) rfl rfl ?_
  refine tw_aload k187_240 rfl ?_
  refine tw_aload k187_241 rfl ?_
  refine tw_iload k187_242 rfl ?_
  refine tw_const k187_243 ?_
  refine tw_iadd k187_244 (v := (((6 * k) + 1 : Nat) : Int)) rfl (by omega) ?_
  refine tw_ialdc (j := (6 * k) + 1) (v := ((K 0).2 ((6 * k) + 1))) k187_245 rfl rfl (by omega) rfl ?_
  refine tw_aload k187_246 rfl ?_
  refine tw_iload k187_247 rfl ?_
  refine tw_const k187_248 ?_
  refine tw_iadd k187_249 (v := (((6 * k) + 2 : Nat) : Int)) rfl (by omega) ?_
  refine tw_ialdc (j := (6 * k) + 2) (v := ((K 0).2 ((6 * k) + 2))) k187_250 rfl rfl (by omega) rfl ?_
  refine tw_aload k187_251 rfl ?_
  refine tw_iload k187_252 rfl ?_
  refine tw_const k187_253 ?_
  refine tw_iadd k187_254 (v := (((6 * k) + 3 : Nat) : Int)) rfl (by omega) ?_
  refine tw_ialdc (j := (6 * k) + 3) (v := ((K 0).2 ((6 * k) + 3))) k187_255 rfl rfl (by omega) rfl ?_
  refine tw_call (by omega) (S' := [.inl v]) (as := [.inr (.inr (.inl 126)), .inl ((K 0).2 ((6 * k) + 1)), .inl ((K 0).2 ((6 * k) + 2)), .inl ((K 0).2 ((6 * k) + 3))]) k187_256 hP1 rfl rfl rfl rfl rfl (fun r256 Z256 hq256 => ?_)
  obtain ⟨rfl, M2, N2, rfl, hG2⟩ := hq256
  refine tw_as (S := [.inl v, .inl v]) (M := M2) (N := N2) rfl rfl ?_
  refine tw_ceqT k187_259 rfl ?_
  refine tw_iinc k187_1290 rfl (v := (((6 * k) + 6 : Nat) : Int)) rfl (by omega) rfl (L' := [some (.inr (.inr (.inr 0))), some (.inr (.inr (.inl 0))), some (.inr (.inr (.inl 126))), some (.inl (((6 * k) + 6 : Nat) : Int))]) rfl ?_
  refine tw_goto k187_1293 ?_
  refine tw_eqL (L' := [some (.inr (.inr (.inr 0))), some (.inr (.inr (.inl 0))), some (.inr (.inr (.inl 126))), some (.inl (((6 * (k + 1)) : Nat) : Int))]) (e_c rfl (e_c rfl (e_c rfl (e_c (e_i (by omega)) rfl)))) ?_
  exact ih M2 N2 hG2
theorem lc_2 {K : mj_C} {d : Nat} (hD : 21 ≤ d) (hK : kOk K) (hL : (K 0).1 ≤ 3072) (hr : ∀ j, -2147483648 ≤ (K 0).2 j ∧ (K 0).2 j ≤ 2147483647) {k : Nat} (hk : 6 * k + 6 ≤ (K 0).1) {M : Nat → Nat → Int} {N : Nat → Nat → Int64} (hG : Good M N) {Q : Option mj_V → mj_Z → Prop} (ih : ∀ M N, Good M N → mj_T K d 187 18 [some (.inr (.inr (.inr 0))), some (.inr (.inr (.inl 0))), some (.inr (.inr (.inl 126))), some (.inl (((6 * (k + 1)) : Nat) : Int))] [] (mj_Sh, M, N) Q) : mj_T K d 187 264 [some (.inr (.inr (.inr 0))), some (.inr (.inr (.inl 0))), some (.inr (.inr (.inl 126))), some (.inl (((6 * k) : Nat) : Int))] [] (mj_Sh, M, N) Q := by
  obtain ⟨v, hP⟩ := pr_71 (d := d - 1) (by omega) hK hG ((K 0).2 ((6 * k) + 1)) ((K 0).2 ((6 * k) + 2)) ((K 0).2 ((6 * k) + 3))
  unfold PR at hP
  refine tw_aload k187_264 rfl ?_
  refine tw_aload k187_265 rfl ?_
  refine tw_iload k187_266 rfl ?_
  refine tw_const k187_267 ?_
  refine tw_iadd k187_268 (v := (((6 * k) + 1 : Nat) : Int)) rfl (by omega) ?_
  refine tw_ialdc (j := (6 * k) + 1) (v := ((K 0).2 ((6 * k) + 1))) k187_269 rfl rfl (by omega) rfl ?_
  refine tw_aload k187_270 rfl ?_
  refine tw_iload k187_271 rfl ?_
  refine tw_const k187_272 ?_
  refine tw_iadd k187_273 (v := (((6 * k) + 2 : Nat) : Int)) rfl (by omega) ?_
  refine tw_ialdc (j := (6 * k) + 2) (v := ((K 0).2 ((6 * k) + 2))) k187_274 rfl rfl (by omega) rfl ?_
  refine tw_aload k187_275 rfl ?_
  refine tw_iload k187_276 rfl ?_
  refine tw_const k187_277 ?_
  refine tw_iadd k187_278 (v := (((6 * k) + 3 : Nat) : Int)) rfl (by omega) ?_
  refine tw_ialdc (j := (6 * k) + 3) (v := ((K 0).2 ((6 * k) + 3))) k187_279 rfl rfl (by omega) rfl ?_
  refine tw_call (by omega) (S' := []) (as := [.inr (.inr (.inl 0)), .inl ((K 0).2 ((6 * k) + 1)), .inl ((K 0).2 ((6 * k) + 2)), .inl ((K 0).2 ((6 * k) + 3))]) k187_280 hP rfl rfl rfl rfl rfl (fun r280 Z280 hq280 => ?_)
  obtain ⟨rfl, M1, N1, rfl, hP1⟩ := hq280
  refine tw_as (S := [.inl v]) (M := M1) (N := N1) rfl rfl ?_
  refine tw_aload k187_283 rfl ?_
  refine tw_aload k187_284 rfl ?_
  refine tw_iload k187_285 rfl ?_
  refine tw_const k187_286 ?_
  refine tw_iadd k187_287 (v := (((6 * k) + 1 : Nat) : Int)) rfl (by omega) ?_
  refine tw_ialdc (j := (6 * k) + 1) (v := ((K 0).2 ((6 * k) + 1))) k187_288 rfl rfl (by omega) rfl ?_
  refine tw_aload k187_289 rfl ?_
  refine tw_iload k187_290 rfl ?_
  refine tw_const k187_291 ?_
  refine tw_iadd k187_292 (v := (((6 * k) + 2 : Nat) : Int)) rfl (by omega) ?_
  refine tw_ialdc (j := (6 * k) + 2) (v := ((K 0).2 ((6 * k) + 2))) k187_293 rfl rfl (by omega) rfl ?_
  refine tw_aload k187_294 rfl ?_
  refine tw_iload k187_295 rfl ?_
  refine tw_const k187_296 ?_
  refine tw_iadd k187_297 (v := (((6 * k) + 3 : Nat) : Int)) rfl (by omega) ?_
  refine tw_ialdc (j := (6 * k) + 3) (v := ((K 0).2 ((6 * k) + 3))) k187_298 rfl rfl (by omega) rfl ?_
  refine tw_call (by omega) (S' := [.inl v]) (as := [.inr (.inr (.inl 126)), .inl ((K 0).2 ((6 * k) + 1)), .inl ((K 0).2 ((6 * k) + 2)), .inl ((K 0).2 ((6 * k) + 3))]) k187_299 hP1 rfl rfl rfl rfl rfl (fun r299 Z299 hq299 => ?_)
  obtain ⟨rfl, M2, N2, rfl, hG2⟩ := hq299
  refine tw_as (S := [.inl v, .inl v]) (M := M2) (N := N2) rfl rfl ?_
  refine tw_ceqT k187_302 rfl ?_
  refine tw_iinc k187_1290 rfl (v := (((6 * k) + 6 : Nat) : Int)) rfl (by omega) rfl (L' := [some (.inr (.inr (.inr 0))), some (.inr (.inr (.inl 0))), some (.inr (.inr (.inl 126))), some (.inl (((6 * k) + 6 : Nat) : Int))]) rfl ?_
  refine tw_goto k187_1293 ?_
  refine tw_eqL (L' := [some (.inr (.inr (.inr 0))), some (.inr (.inr (.inl 0))), some (.inr (.inr (.inl 126))), some (.inl (((6 * (k + 1)) : Nat) : Int))]) (e_c rfl (e_c rfl (e_c rfl (e_c (e_i (by omega)) rfl)))) ?_
  exact ih M2 N2 hG2
theorem lc_3 {K : mj_C} {d : Nat} (hD : 21 ≤ d) (hK : kOk K) (hL : (K 0).1 ≤ 3072) (hr : ∀ j, -2147483648 ≤ (K 0).2 j ∧ (K 0).2 j ≤ 2147483647) {k : Nat} (hk : 6 * k + 6 ≤ (K 0).1) {M : Nat → Nat → Int} {N : Nat → Nat → Int64} (hG : Good M N) {Q : Option mj_V → mj_Z → Prop} (ih : ∀ M N, Good M N → mj_T K d 187 18 [some (.inr (.inr (.inr 0))), some (.inr (.inr (.inl 0))), some (.inr (.inr (.inl 126))), some (.inl (((6 * (k + 1)) : Nat) : Int))] [] (mj_Sh, M, N) Q) : mj_T K d 187 307 [some (.inr (.inr (.inr 0))), some (.inr (.inr (.inl 0))), some (.inr (.inr (.inl 126))), some (.inl (((6 * k) : Nat) : Int))] [] (mj_Sh, M, N) Q := by
  obtain ⟨v, hP⟩ := pr_72 (d := d - 1) (by omega) hK hG ((K 0).2 ((6 * k) + 1)) ((K 0).2 ((6 * k) + 2))
  unfold PR at hP
  refine tw_aload k187_307 rfl ?_
  refine tw_aload k187_308 rfl ?_
  refine tw_iload k187_309 rfl ?_
  refine tw_const k187_310 ?_
  refine tw_iadd k187_311 (v := (((6 * k) + 1 : Nat) : Int)) rfl (by omega) ?_
  refine tw_ialdc (j := (6 * k) + 1) (v := ((K 0).2 ((6 * k) + 1))) k187_312 rfl rfl (by omega) rfl ?_
  refine tw_aload k187_313 rfl ?_
  refine tw_iload k187_314 rfl ?_
  refine tw_const k187_315 ?_
  refine tw_iadd k187_316 (v := (((6 * k) + 2 : Nat) : Int)) rfl (by omega) ?_
  refine tw_ialdc (j := (6 * k) + 2) (v := ((K 0).2 ((6 * k) + 2))) k187_317 rfl rfl (by omega) rfl ?_
  refine tw_call (by omega) (S' := []) (as := [.inr (.inr (.inl 0)), .inl ((K 0).2 ((6 * k) + 1)), .inl ((K 0).2 ((6 * k) + 2))]) k187_318 hP rfl rfl rfl rfl rfl (fun r318 Z318 hq318 => ?_)
  obtain ⟨rfl, M1, N1, rfl, hP1⟩ := hq318
  refine tw_as (S := [.inl v]) (M := M1) (N := N1) rfl rfl ?_
  refine tw_aload k187_321 rfl ?_
  refine tw_aload k187_322 rfl ?_
  refine tw_iload k187_323 rfl ?_
  refine tw_const k187_324 ?_
  refine tw_iadd k187_325 (v := (((6 * k) + 1 : Nat) : Int)) rfl (by omega) ?_
  refine tw_ialdc (j := (6 * k) + 1) (v := ((K 0).2 ((6 * k) + 1))) k187_326 rfl rfl (by omega) rfl ?_
  refine tw_aload k187_327 rfl ?_
  refine tw_iload k187_328 rfl ?_
  refine tw_const k187_329 ?_
  refine tw_iadd k187_330 (v := (((6 * k) + 2 : Nat) : Int)) rfl (by omega) ?_
  refine tw_ialdc (j := (6 * k) + 2) (v := ((K 0).2 ((6 * k) + 2))) k187_331 rfl rfl (by omega) rfl ?_
  refine tw_call (by omega) (S' := [.inl v]) (as := [.inr (.inr (.inl 126)), .inl ((K 0).2 ((6 * k) + 1)), .inl ((K 0).2 ((6 * k) + 2))]) k187_332 hP1 rfl rfl rfl rfl rfl (fun r332 Z332 hq332 => ?_)
  obtain ⟨rfl, M2, N2, rfl, hG2⟩ := hq332
  refine tw_as (S := [.inl v, .inl v]) (M := M2) (N := N2) rfl rfl ?_
  refine tw_ceqT k187_335 rfl ?_
  refine tw_iinc k187_1290 rfl (v := (((6 * k) + 6 : Nat) : Int)) rfl (by omega) rfl (L' := [some (.inr (.inr (.inr 0))), some (.inr (.inr (.inl 0))), some (.inr (.inr (.inl 126))), some (.inl (((6 * k) + 6 : Nat) : Int))]) rfl ?_
  refine tw_goto k187_1293 ?_
  refine tw_eqL (L' := [some (.inr (.inr (.inr 0))), some (.inr (.inr (.inl 0))), some (.inr (.inr (.inl 126))), some (.inl (((6 * (k + 1)) : Nat) : Int))]) (e_c rfl (e_c rfl (e_c rfl (e_c (e_i (by omega)) rfl)))) ?_
  exact ih M2 N2 hG2
theorem lc_4 {K : mj_C} {d : Nat} (hD : 21 ≤ d) (hK : kOk K) (hL : (K 0).1 ≤ 3072) (hr : ∀ j, -2147483648 ≤ (K 0).2 j ∧ (K 0).2 j ≤ 2147483647) {k : Nat} (hk : 6 * k + 6 ≤ (K 0).1) {M : Nat → Nat → Int} {N : Nat → Nat → Int64} (hG : Good M N) {Q : Option mj_V → mj_Z → Prop} (ih : ∀ M N, Good M N → mj_T K d 187 18 [some (.inr (.inr (.inr 0))), some (.inr (.inr (.inl 0))), some (.inr (.inr (.inl 126))), some (.inl (((6 * (k + 1)) : Nat) : Int))] [] (mj_Sh, M, N) Q) : mj_T K d 187 340 [some (.inr (.inr (.inr 0))), some (.inr (.inr (.inl 0))), some (.inr (.inr (.inl 126))), some (.inl (((6 * k) : Nat) : Int))] [] (mj_Sh, M, N) Q := by
  obtain ⟨v, hP⟩ := pr_73 (d := d - 1) (by omega) hK hG ((K 0).2 ((6 * k) + 1))
  unfold PR at hP
  refine tw_aload k187_340 rfl ?_
  refine tw_aload k187_341 rfl ?_
  refine tw_iload k187_342 rfl ?_
  refine tw_const k187_343 ?_
  refine tw_iadd k187_344 (v := (((6 * k) + 1 : Nat) : Int)) rfl (by omega) ?_
  refine tw_ialdc (j := (6 * k) + 1) (v := ((K 0).2 ((6 * k) + 1))) k187_345 rfl rfl (by omega) rfl ?_
  refine tw_call (by omega) (S' := []) (as := [.inr (.inr (.inl 0)), .inl ((K 0).2 ((6 * k) + 1))]) k187_346 hP rfl rfl rfl rfl rfl (fun r346 Z346 hq346 => ?_)
  obtain ⟨rfl, M1, N1, rfl, hP1⟩ := hq346
  refine tw_as (S := [.inl v]) (M := M1) (N := N1) rfl rfl ?_
  refine tw_aload k187_349 rfl ?_
  refine tw_aload k187_350 rfl ?_
  refine tw_iload k187_351 rfl ?_
  refine tw_const k187_352 ?_
  refine tw_iadd k187_353 (v := (((6 * k) + 1 : Nat) : Int)) rfl (by omega) ?_
  refine tw_ialdc (j := (6 * k) + 1) (v := ((K 0).2 ((6 * k) + 1))) k187_354 rfl rfl (by omega) rfl ?_
  refine tw_call (by omega) (S' := [.inl v]) (as := [.inr (.inr (.inl 126)), .inl ((K 0).2 ((6 * k) + 1))]) k187_355 hP1 rfl rfl rfl rfl rfl (fun r355 Z355 hq355 => ?_)
  obtain ⟨rfl, M2, N2, rfl, hG2⟩ := hq355
  refine tw_as (S := [.inl v, .inl v]) (M := M2) (N := N2) rfl rfl ?_
  refine tw_ceqT k187_358 rfl ?_
  refine tw_iinc k187_1290 rfl (v := (((6 * k) + 6 : Nat) : Int)) rfl (by omega) rfl (L' := [some (.inr (.inr (.inr 0))), some (.inr (.inr (.inl 0))), some (.inr (.inr (.inl 126))), some (.inl (((6 * k) + 6 : Nat) : Int))]) rfl ?_
  refine tw_goto k187_1293 ?_
  refine tw_eqL (L' := [some (.inr (.inr (.inr 0))), some (.inr (.inr (.inl 0))), some (.inr (.inr (.inl 126))), some (.inl (((6 * (k + 1)) : Nat) : Int))]) (e_c rfl (e_c rfl (e_c rfl (e_c (e_i (by omega)) rfl)))) ?_
  exact ih M2 N2 hG2
theorem lc_5 {K : mj_C} {d : Nat} (hD : 21 ≤ d) (hK : kOk K) (hL : (K 0).1 ≤ 3072) (hr : ∀ j, -2147483648 ≤ (K 0).2 j ∧ (K 0).2 j ≤ 2147483647) {k : Nat} (hk : 6 * k + 6 ≤ (K 0).1) {M : Nat → Nat → Int} {N : Nat → Nat → Int64} (hG : Good M N) {Q : Option mj_V → mj_Z → Prop} (ih : ∀ M N, Good M N → mj_T K d 187 18 [some (.inr (.inr (.inr 0))), some (.inr (.inr (.inl 0))), some (.inr (.inr (.inl 126))), some (.inl (((6 * (k + 1)) : Nat) : Int))] [] (mj_Sh, M, N) Q) : mj_T K d 187 363 [some (.inr (.inr (.inr 0))), some (.inr (.inr (.inl 0))), some (.inr (.inr (.inl 126))), some (.inl (((6 * k) : Nat) : Int))] [] (mj_Sh, M, N) Q := by
  obtain ⟨v, hP⟩ := pr_74 (d := d - 1) (by omega) hK hG 
  unfold PR at hP
  refine tw_aload k187_363 rfl ?_
  refine tw_call (by omega) (S' := []) (as := [.inr (.inr (.inl 0))]) k187_364 hP rfl rfl rfl rfl rfl (fun r364 Z364 hq364 => ?_)
  obtain ⟨rfl, M1, N1, rfl, hP1⟩ := hq364
  refine tw_as (S := [.inl v]) (M := M1) (N := N1) rfl rfl ?_
  refine tw_aload k187_367 rfl ?_
  refine tw_call (by omega) (S' := [.inl v]) (as := [.inr (.inr (.inl 126))]) k187_368 hP1 rfl rfl rfl rfl rfl (fun r368 Z368 hq368 => ?_)
  obtain ⟨rfl, M2, N2, rfl, hG2⟩ := hq368
  refine tw_as (S := [.inl v, .inl v]) (M := M2) (N := N2) rfl rfl ?_
  refine tw_ceqT k187_371 rfl ?_
  refine tw_iinc k187_1290 rfl (v := (((6 * k) + 6 : Nat) : Int)) rfl (by omega) rfl (L' := [some (.inr (.inr (.inr 0))), some (.inr (.inr (.inl 0))), some (.inr (.inr (.inl 126))), some (.inl (((6 * k) + 6 : Nat) : Int))]) rfl ?_
  refine tw_goto k187_1293 ?_
  refine tw_eqL (L' := [some (.inr (.inr (.inr 0))), some (.inr (.inr (.inl 0))), some (.inr (.inr (.inl 126))), some (.inl (((6 * (k + 1)) : Nat) : Int))]) (e_c rfl (e_c rfl (e_c rfl (e_c (e_i (by omega)) rfl)))) ?_
  exact ih M2 N2 hG2
theorem lc_6 {K : mj_C} {d : Nat} (hD : 21 ≤ d) (hK : kOk K) (hL : (K 0).1 ≤ 3072) (hr : ∀ j, -2147483648 ≤ (K 0).2 j ∧ (K 0).2 j ≤ 2147483647) {k : Nat} (hk : 6 * k + 6 ≤ (K 0).1) {M : Nat → Nat → Int} {N : Nat → Nat → Int64} (hG : Good M N) {Q : Option mj_V → mj_Z → Prop} (ih : ∀ M N, Good M N → mj_T K d 187 18 [some (.inr (.inr (.inr 0))), some (.inr (.inr (.inl 0))), some (.inr (.inr (.inl 126))), some (.inl (((6 * (k + 1)) : Nat) : Int))] [] (mj_Sh, M, N) Q) : mj_T K d 187 376 [some (.inr (.inr (.inr 0))), some (.inr (.inr (.inl 0))), some (.inr (.inr (.inl 126))), some (.inl (((6 * k) : Nat) : Int))] [] (mj_Sh, M, N) Q := by
  obtain ⟨v, hP⟩ := pr_75 (d := d - 1) (by omega) hK hG ((K 0).2 ((6 * k) + 1)) ((K 0).2 ((6 * k) + 2))
  unfold PR at hP
  refine tw_aload k187_376 rfl ?_
  refine tw_aload k187_377 rfl ?_
  refine tw_iload k187_378 rfl ?_
  refine tw_const k187_379 ?_
  refine tw_iadd k187_380 (v := (((6 * k) + 1 : Nat) : Int)) rfl (by omega) ?_
  refine tw_ialdc (j := (6 * k) + 1) (v := ((K 0).2 ((6 * k) + 1))) k187_381 rfl rfl (by omega) rfl ?_
  refine tw_aload k187_382 rfl ?_
  refine tw_iload k187_383 rfl ?_
  refine tw_const k187_384 ?_
  refine tw_iadd k187_385 (v := (((6 * k) + 2 : Nat) : Int)) rfl (by omega) ?_
  refine tw_ialdc (j := (6 * k) + 2) (v := ((K 0).2 ((6 * k) + 2))) k187_386 rfl rfl (by omega) rfl ?_
  refine tw_call (by omega) (S' := []) (as := [.inr (.inr (.inl 0)), .inl ((K 0).2 ((6 * k) + 1)), .inl ((K 0).2 ((6 * k) + 2))]) k187_387 hP rfl rfl rfl rfl rfl (fun r387 Z387 hq387 => ?_)
  obtain ⟨rfl, M1, N1, rfl, hP1⟩ := hq387
  refine tw_as (S := [.inl v]) (M := M1) (N := N1) rfl rfl ?_
  refine tw_aload k187_390 rfl ?_
  refine tw_aload k187_391 rfl ?_
  refine tw_iload k187_392 rfl ?_
  refine tw_const k187_393 ?_
  refine tw_iadd k187_394 (v := (((6 * k) + 1 : Nat) : Int)) rfl (by omega) ?_
  refine tw_ialdc (j := (6 * k) + 1) (v := ((K 0).2 ((6 * k) + 1))) k187_395 rfl rfl (by omega) rfl ?_
  refine tw_aload k187_396 rfl ?_
  refine tw_iload k187_397 rfl ?_
  refine tw_const k187_398 ?_
  refine tw_iadd k187_399 (v := (((6 * k) + 2 : Nat) : Int)) rfl (by omega) ?_
  refine tw_ialdc (j := (6 * k) + 2) (v := ((K 0).2 ((6 * k) + 2))) k187_400 rfl rfl (by omega) rfl ?_
  refine tw_call (by omega) (S' := [.inl v]) (as := [.inr (.inr (.inl 126)), .inl ((K 0).2 ((6 * k) + 1)), .inl ((K 0).2 ((6 * k) + 2))]) k187_401 hP1 rfl rfl rfl rfl rfl (fun r401 Z401 hq401 => ?_)
  obtain ⟨rfl, M2, N2, rfl, hG2⟩ := hq401
  refine tw_as (S := [.inl v, .inl v]) (M := M2) (N := N2) rfl rfl ?_
  refine tw_ceqT k187_404 rfl ?_
  refine tw_iinc k187_1290 rfl (v := (((6 * k) + 6 : Nat) : Int)) rfl (by omega) rfl (L' := [some (.inr (.inr (.inr 0))), some (.inr (.inr (.inl 0))), some (.inr (.inr (.inl 126))), some (.inl (((6 * k) + 6 : Nat) : Int))]) rfl ?_
  refine tw_goto k187_1293 ?_
  refine tw_eqL (L' := [some (.inr (.inr (.inr 0))), some (.inr (.inr (.inl 0))), some (.inr (.inr (.inl 126))), some (.inl (((6 * (k + 1)) : Nat) : Int))]) (e_c rfl (e_c rfl (e_c rfl (e_c (e_i (by omega)) rfl)))) ?_
  exact ih M2 N2 hG2
theorem lc_7 {K : mj_C} {d : Nat} (hD : 21 ≤ d) (hK : kOk K) (hL : (K 0).1 ≤ 3072) (hr : ∀ j, -2147483648 ≤ (K 0).2 j ∧ (K 0).2 j ≤ 2147483647) {k : Nat} (hk : 6 * k + 6 ≤ (K 0).1) {M : Nat → Nat → Int} {N : Nat → Nat → Int64} (hG : Good M N) {Q : Option mj_V → mj_Z → Prop} (ih : ∀ M N, Good M N → mj_T K d 187 18 [some (.inr (.inr (.inr 0))), some (.inr (.inr (.inl 0))), some (.inr (.inr (.inl 126))), some (.inl (((6 * (k + 1)) : Nat) : Int))] [] (mj_Sh, M, N) Q) : mj_T K d 187 409 [some (.inr (.inr (.inr 0))), some (.inr (.inr (.inl 0))), some (.inr (.inr (.inl 126))), some (.inl (((6 * k) : Nat) : Int))] [] (mj_Sh, M, N) Q := by
  obtain ⟨v, hP⟩ := pr_76 (d := d - 1) (by omega) hK hG ((K 0).2 ((6 * k) + 1)) ((K 0).2 ((6 * k) + 2))
  unfold PR at hP
  refine tw_aload k187_409 rfl ?_
  refine tw_aload k187_410 rfl ?_
  refine tw_iload k187_411 rfl ?_
  refine tw_const k187_412 ?_
  refine tw_iadd k187_413 (v := (((6 * k) + 1 : Nat) : Int)) rfl (by omega) ?_
  refine tw_ialdc (j := (6 * k) + 1) (v := ((K 0).2 ((6 * k) + 1))) k187_414 rfl rfl (by omega) rfl ?_
  refine tw_aload k187_415 rfl ?_
  refine tw_iload k187_416 rfl ?_
  refine tw_const k187_417 ?_
  refine tw_iadd k187_418 (v := (((6 * k) + 2 : Nat) : Int)) rfl (by omega) ?_
  refine tw_ialdc (j := (6 * k) + 2) (v := ((K 0).2 ((6 * k) + 2))) k187_419 rfl rfl (by omega) rfl ?_
  refine tw_call (by omega) (S' := []) (as := [.inr (.inr (.inl 0)), .inl ((K 0).2 ((6 * k) + 1)), .inl ((K 0).2 ((6 * k) + 2))]) k187_420 hP rfl rfl rfl rfl rfl (fun r420 Z420 hq420 => ?_)
  obtain ⟨rfl, M1, N1, rfl, hP1⟩ := hq420
  refine tw_as (S := [.inl v]) (M := M1) (N := N1) rfl rfl ?_
  refine tw_aload k187_423 rfl ?_
  refine tw_aload k187_424 rfl ?_
  refine tw_iload k187_425 rfl ?_
  refine tw_const k187_426 ?_
  refine tw_iadd k187_427 (v := (((6 * k) + 1 : Nat) : Int)) rfl (by omega) ?_
  refine tw_ialdc (j := (6 * k) + 1) (v := ((K 0).2 ((6 * k) + 1))) k187_428 rfl rfl (by omega) rfl ?_
  refine tw_aload k187_429 rfl ?_
  refine tw_iload k187_430 rfl ?_
  refine tw_const k187_431 ?_
  refine tw_iadd k187_432 (v := (((6 * k) + 2 : Nat) : Int)) rfl (by omega) ?_
  refine tw_ialdc (j := (6 * k) + 2) (v := ((K 0).2 ((6 * k) + 2))) k187_433 rfl rfl (by omega) rfl ?_
  refine tw_call (by omega) (S' := [.inl v]) (as := [.inr (.inr (.inl 126)), .inl ((K 0).2 ((6 * k) + 1)), .inl ((K 0).2 ((6 * k) + 2))]) k187_434 hP1 rfl rfl rfl rfl rfl (fun r434 Z434 hq434 => ?_)
  obtain ⟨rfl, M2, N2, rfl, hG2⟩ := hq434
  refine tw_as (S := [.inl v, .inl v]) (M := M2) (N := N2) rfl rfl ?_
  refine tw_ceqT k187_437 rfl ?_
  refine tw_iinc k187_1290 rfl (v := (((6 * k) + 6 : Nat) : Int)) rfl (by omega) rfl (L' := [some (.inr (.inr (.inr 0))), some (.inr (.inr (.inl 0))), some (.inr (.inr (.inl 126))), some (.inl (((6 * k) + 6 : Nat) : Int))]) rfl ?_
  refine tw_goto k187_1293 ?_
  refine tw_eqL (L' := [some (.inr (.inr (.inr 0))), some (.inr (.inr (.inl 0))), some (.inr (.inr (.inl 126))), some (.inl (((6 * (k + 1)) : Nat) : Int))]) (e_c rfl (e_c rfl (e_c rfl (e_c (e_i (by omega)) rfl)))) ?_
  exact ih M2 N2 hG2
theorem lc_8 {K : mj_C} {d : Nat} (hD : 21 ≤ d) (hK : kOk K) (hL : (K 0).1 ≤ 3072) (hr : ∀ j, -2147483648 ≤ (K 0).2 j ∧ (K 0).2 j ≤ 2147483647) {k : Nat} (hk : 6 * k + 6 ≤ (K 0).1) {M : Nat → Nat → Int} {N : Nat → Nat → Int64} (hG : Good M N) {Q : Option mj_V → mj_Z → Prop} (ih : ∀ M N, Good M N → mj_T K d 187 18 [some (.inr (.inr (.inr 0))), some (.inr (.inr (.inl 0))), some (.inr (.inr (.inl 126))), some (.inl (((6 * (k + 1)) : Nat) : Int))] [] (mj_Sh, M, N) Q) : mj_T K d 187 442 [some (.inr (.inr (.inr 0))), some (.inr (.inr (.inl 0))), some (.inr (.inr (.inl 126))), some (.inl (((6 * k) : Nat) : Int))] [] (mj_Sh, M, N) Q := by
  obtain ⟨v, hP⟩ := pr_77 (d := d - 1) (by omega) hK hG ((K 0).2 ((6 * k) + 1)) ((K 0).2 ((6 * k) + 2)) ((K 0).2 ((6 * k) + 3))
  unfold PR at hP
  refine tw_aload k187_442 rfl ?_
  refine tw_aload k187_443 rfl ?_
  refine tw_iload k187_444 rfl ?_
  refine tw_const k187_445 ?_
  refine tw_iadd k187_446 (v := (((6 * k) + 1 : Nat) : Int)) rfl (by omega) ?_
  refine tw_ialdc (j := (6 * k) + 1) (v := ((K 0).2 ((6 * k) + 1))) k187_447 rfl rfl (by omega) rfl ?_
  refine tw_aload k187_448 rfl ?_
  refine tw_iload k187_449 rfl ?_
  refine tw_const k187_450 ?_
  refine tw_iadd k187_451 (v := (((6 * k) + 2 : Nat) : Int)) rfl (by omega) ?_
  refine tw_ialdc (j := (6 * k) + 2) (v := ((K 0).2 ((6 * k) + 2))) k187_452 rfl rfl (by omega) rfl ?_
  refine tw_aload k187_453 rfl ?_
  refine tw_iload k187_454 rfl ?_
  refine tw_const k187_455 ?_
  refine tw_iadd k187_456 (v := (((6 * k) + 3 : Nat) : Int)) rfl (by omega) ?_
  refine tw_ialdc (j := (6 * k) + 3) (v := ((K 0).2 ((6 * k) + 3))) k187_457 rfl rfl (by omega) rfl ?_
  refine tw_call (by omega) (S' := []) (as := [.inr (.inr (.inl 0)), .inl ((K 0).2 ((6 * k) + 1)), .inl ((K 0).2 ((6 * k) + 2)), .inl ((K 0).2 ((6 * k) + 3))]) k187_458 hP rfl rfl rfl rfl rfl (fun r458 Z458 hq458 => ?_)
  obtain ⟨rfl, M1, N1, rfl, hP1⟩ := hq458
  refine tw_as (S := [.inl v]) (M := M1) (N := N1) rfl rfl ?_
  refine tw_aload k187_461 rfl ?_
  refine tw_aload k187_462 rfl ?_
  refine tw_iload k187_463 rfl ?_
  refine tw_const k187_464 ?_
  refine tw_iadd k187_465 (v := (((6 * k) + 1 : Nat) : Int)) rfl (by omega) ?_
  refine tw_ialdc (j := (6 * k) + 1) (v := ((K 0).2 ((6 * k) + 1))) k187_466 rfl rfl (by omega) rfl ?_
  refine tw_aload k187_467 rfl ?_
  refine tw_iload k187_468 rfl ?_
  refine tw_const k187_469 ?_
  refine tw_iadd k187_470 (v := (((6 * k) + 2 : Nat) : Int)) rfl (by omega) ?_
  refine tw_ialdc (j := (6 * k) + 2) (v := ((K 0).2 ((6 * k) + 2))) k187_471 rfl rfl (by omega) rfl ?_
  refine tw_aload k187_472 rfl ?_
  refine tw_iload k187_473 rfl ?_
  refine tw_const k187_474 ?_
  refine tw_iadd k187_475 (v := (((6 * k) + 3 : Nat) : Int)) rfl (by omega) ?_
  refine tw_ialdc (j := (6 * k) + 3) (v := ((K 0).2 ((6 * k) + 3))) k187_476 rfl rfl (by omega) rfl ?_
  refine tw_call (by omega) (S' := [.inl v]) (as := [.inr (.inr (.inl 126)), .inl ((K 0).2 ((6 * k) + 1)), .inl ((K 0).2 ((6 * k) + 2)), .inl ((K 0).2 ((6 * k) + 3))]) k187_477 hP1 rfl rfl rfl rfl rfl (fun r477 Z477 hq477 => ?_)
  obtain ⟨rfl, M2, N2, rfl, hG2⟩ := hq477
  refine tw_as (S := [.inl v, .inl v]) (M := M2) (N := N2) rfl rfl ?_
  refine tw_ceqT k187_480 rfl ?_
  refine tw_iinc k187_1290 rfl (v := (((6 * k) + 6 : Nat) : Int)) rfl (by omega) rfl (L' := [some (.inr (.inr (.inr 0))), some (.inr (.inr (.inl 0))), some (.inr (.inr (.inl 126))), some (.inl (((6 * k) + 6 : Nat) : Int))]) rfl ?_
  refine tw_goto k187_1293 ?_
  refine tw_eqL (L' := [some (.inr (.inr (.inr 0))), some (.inr (.inr (.inl 0))), some (.inr (.inr (.inl 126))), some (.inl (((6 * (k + 1)) : Nat) : Int))]) (e_c rfl (e_c rfl (e_c rfl (e_c (e_i (by omega)) rfl)))) ?_
  exact ih M2 N2 hG2
theorem lc_9 {K : mj_C} {d : Nat} (hD : 21 ≤ d) (hK : kOk K) (hL : (K 0).1 ≤ 3072) (hr : ∀ j, -2147483648 ≤ (K 0).2 j ∧ (K 0).2 j ≤ 2147483647) {k : Nat} (hk : 6 * k + 6 ≤ (K 0).1) {M : Nat → Nat → Int} {N : Nat → Nat → Int64} (hG : Good M N) {Q : Option mj_V → mj_Z → Prop} (ih : ∀ M N, Good M N → mj_T K d 187 18 [some (.inr (.inr (.inr 0))), some (.inr (.inr (.inl 0))), some (.inr (.inr (.inl 126))), some (.inl (((6 * (k + 1)) : Nat) : Int))] [] (mj_Sh, M, N) Q) : mj_T K d 187 485 [some (.inr (.inr (.inr 0))), some (.inr (.inr (.inl 0))), some (.inr (.inr (.inl 126))), some (.inl (((6 * k) : Nat) : Int))] [] (mj_Sh, M, N) Q := by
  obtain ⟨v, hP⟩ := pr_78 (d := d - 1) (by omega) hK hG ((K 0).2 ((6 * k) + 1)) ((K 0).2 ((6 * k) + 2))
  unfold PR at hP
  refine tw_aload k187_485 rfl ?_
  refine tw_aload k187_486 rfl ?_
  refine tw_iload k187_487 rfl ?_
  refine tw_const k187_488 ?_
  refine tw_iadd k187_489 (v := (((6 * k) + 1 : Nat) : Int)) rfl (by omega) ?_
  refine tw_ialdc (j := (6 * k) + 1) (v := ((K 0).2 ((6 * k) + 1))) k187_490 rfl rfl (by omega) rfl ?_
  refine tw_aload k187_491 rfl ?_
  refine tw_iload k187_492 rfl ?_
  refine tw_const k187_493 ?_
  refine tw_iadd k187_494 (v := (((6 * k) + 2 : Nat) : Int)) rfl (by omega) ?_
  refine tw_ialdc (j := (6 * k) + 2) (v := ((K 0).2 ((6 * k) + 2))) k187_495 rfl rfl (by omega) rfl ?_
  refine tw_call (by omega) (S' := []) (as := [.inr (.inr (.inl 0)), .inl ((K 0).2 ((6 * k) + 1)), .inl ((K 0).2 ((6 * k) + 2))]) k187_496 hP rfl rfl rfl rfl rfl (fun r496 Z496 hq496 => ?_)
  obtain ⟨rfl, M1, N1, rfl, hP1⟩ := hq496
  refine tw_as (S := [.inl v]) (M := M1) (N := N1) rfl rfl ?_
  refine tw_aload k187_499 rfl ?_
  refine tw_aload k187_500 rfl ?_
  refine tw_iload k187_501 rfl ?_
  refine tw_const k187_502 ?_
  refine tw_iadd k187_503 (v := (((6 * k) + 1 : Nat) : Int)) rfl (by omega) ?_
  refine tw_ialdc (j := (6 * k) + 1) (v := ((K 0).2 ((6 * k) + 1))) k187_504 rfl rfl (by omega) rfl ?_
  refine tw_aload k187_505 rfl ?_
  refine tw_iload k187_506 rfl ?_
  refine tw_const k187_507 ?_
  refine tw_iadd k187_508 (v := (((6 * k) + 2 : Nat) : Int)) rfl (by omega) ?_
  refine tw_ialdc (j := (6 * k) + 2) (v := ((K 0).2 ((6 * k) + 2))) k187_509 rfl rfl (by omega) rfl ?_
  refine tw_call (by omega) (S' := [.inl v]) (as := [.inr (.inr (.inl 126)), .inl ((K 0).2 ((6 * k) + 1)), .inl ((K 0).2 ((6 * k) + 2))]) k187_510 hP1 rfl rfl rfl rfl rfl (fun r510 Z510 hq510 => ?_)
  obtain ⟨rfl, M2, N2, rfl, hG2⟩ := hq510
  refine tw_as (S := [.inl v, .inl v]) (M := M2) (N := N2) rfl rfl ?_
  refine tw_ceqT k187_513 rfl ?_
  refine tw_iinc k187_1290 rfl (v := (((6 * k) + 6 : Nat) : Int)) rfl (by omega) rfl (L' := [some (.inr (.inr (.inr 0))), some (.inr (.inr (.inl 0))), some (.inr (.inr (.inl 126))), some (.inl (((6 * k) + 6 : Nat) : Int))]) rfl ?_
  refine tw_goto k187_1293 ?_
  refine tw_eqL (L' := [some (.inr (.inr (.inr 0))), some (.inr (.inr (.inl 0))), some (.inr (.inr (.inl 126))), some (.inl (((6 * (k + 1)) : Nat) : Int))]) (e_c rfl (e_c rfl (e_c rfl (e_c (e_i (by omega)) rfl)))) ?_
  exact ih M2 N2 hG2
theorem lc_10 {K : mj_C} {d : Nat} (hD : 21 ≤ d) (hK : kOk K) (hL : (K 0).1 ≤ 3072) (hr : ∀ j, -2147483648 ≤ (K 0).2 j ∧ (K 0).2 j ≤ 2147483647) {k : Nat} (hk : 6 * k + 6 ≤ (K 0).1) {M : Nat → Nat → Int} {N : Nat → Nat → Int64} (hG : Good M N) {Q : Option mj_V → mj_Z → Prop} (ih : ∀ M N, Good M N → mj_T K d 187 18 [some (.inr (.inr (.inr 0))), some (.inr (.inr (.inl 0))), some (.inr (.inr (.inl 126))), some (.inl (((6 * (k + 1)) : Nat) : Int))] [] (mj_Sh, M, N) Q) : mj_T K d 187 518 [some (.inr (.inr (.inr 0))), some (.inr (.inr (.inl 0))), some (.inr (.inr (.inl 126))), some (.inl (((6 * k) : Nat) : Int))] [] (mj_Sh, M, N) Q := by
  obtain ⟨v, hP⟩ := pr_79 (d := d - 1) (by omega) hK hG ((K 0).2 ((6 * k) + 1))
  unfold PR at hP
  refine tw_aload k187_518 rfl ?_
  refine tw_aload k187_519 rfl ?_
  refine tw_iload k187_520 rfl ?_
  refine tw_const k187_521 ?_
  refine tw_iadd k187_522 (v := (((6 * k) + 1 : Nat) : Int)) rfl (by omega) ?_
  refine tw_ialdc (j := (6 * k) + 1) (v := ((K 0).2 ((6 * k) + 1))) k187_523 rfl rfl (by omega) rfl ?_
  refine tw_call (by omega) (S' := []) (as := [.inr (.inr (.inl 0)), .inl ((K 0).2 ((6 * k) + 1))]) k187_524 hP rfl rfl rfl rfl rfl (fun r524 Z524 hq524 => ?_)
  obtain ⟨rfl, M1, N1, rfl, hP1⟩ := hq524
  refine tw_as (S := [.inl v]) (M := M1) (N := N1) rfl rfl ?_
  refine tw_aload k187_527 rfl ?_
  refine tw_aload k187_528 rfl ?_
  refine tw_iload k187_529 rfl ?_
  refine tw_const k187_530 ?_
  refine tw_iadd k187_531 (v := (((6 * k) + 1 : Nat) : Int)) rfl (by omega) ?_
  refine tw_ialdc (j := (6 * k) + 1) (v := ((K 0).2 ((6 * k) + 1))) k187_532 rfl rfl (by omega) rfl ?_
  refine tw_call (by omega) (S' := [.inl v]) (as := [.inr (.inr (.inl 126)), .inl ((K 0).2 ((6 * k) + 1))]) k187_533 hP1 rfl rfl rfl rfl rfl (fun r533 Z533 hq533 => ?_)
  obtain ⟨rfl, M2, N2, rfl, hG2⟩ := hq533
  refine tw_as (S := [.inl v, .inl v]) (M := M2) (N := N2) rfl rfl ?_
  refine tw_ceqT k187_536 rfl ?_
  refine tw_iinc k187_1290 rfl (v := (((6 * k) + 6 : Nat) : Int)) rfl (by omega) rfl (L' := [some (.inr (.inr (.inr 0))), some (.inr (.inr (.inl 0))), some (.inr (.inr (.inl 126))), some (.inl (((6 * k) + 6 : Nat) : Int))]) rfl ?_
  refine tw_goto k187_1293 ?_
  refine tw_eqL (L' := [some (.inr (.inr (.inr 0))), some (.inr (.inr (.inl 0))), some (.inr (.inr (.inl 126))), some (.inl (((6 * (k + 1)) : Nat) : Int))]) (e_c rfl (e_c rfl (e_c rfl (e_c (e_i (by omega)) rfl)))) ?_
  exact ih M2 N2 hG2
theorem lc_11 {K : mj_C} {d : Nat} (hD : 21 ≤ d) (hK : kOk K) (hL : (K 0).1 ≤ 3072) (hr : ∀ j, -2147483648 ≤ (K 0).2 j ∧ (K 0).2 j ≤ 2147483647) {k : Nat} (hk : 6 * k + 6 ≤ (K 0).1) {M : Nat → Nat → Int} {N : Nat → Nat → Int64} (hG : Good M N) {Q : Option mj_V → mj_Z → Prop} (ih : ∀ M N, Good M N → mj_T K d 187 18 [some (.inr (.inr (.inr 0))), some (.inr (.inr (.inl 0))), some (.inr (.inr (.inl 126))), some (.inl (((6 * (k + 1)) : Nat) : Int))] [] (mj_Sh, M, N) Q) : mj_T K d 187 541 [some (.inr (.inr (.inr 0))), some (.inr (.inr (.inl 0))), some (.inr (.inr (.inl 126))), some (.inl (((6 * k) : Nat) : Int))] [] (mj_Sh, M, N) Q := by
  obtain ⟨v, hP⟩ := pr_80 (d := d - 1) (by omega) hK hG 
  unfold PR at hP
  refine tw_aload k187_541 rfl ?_
  refine tw_call (by omega) (S' := []) (as := [.inr (.inr (.inl 0))]) k187_542 hP rfl rfl rfl rfl rfl (fun r542 Z542 hq542 => ?_)
  obtain ⟨rfl, M1, N1, rfl, hP1⟩ := hq542
  refine tw_as (S := [.inr (.inl v)]) (M := M1) (N := N1) rfl rfl ?_
  refine tw_aload k187_545 rfl ?_
  refine tw_call (by omega) (S' := [.inr (.inl v)]) (as := [.inr (.inr (.inl 126))]) k187_546 hP1 rfl rfl rfl rfl rfl (fun r546 Z546 hq546 => ?_)
  obtain ⟨rfl, M2, N2, rfl, hG2⟩ := hq546
  refine tw_as (S := [.inr (.inl v), .inr (.inl v)]) (M := M2) (N := N2) rfl rfl ?_
  refine tw_lcmp k187_549 ?_
  refine tw_zeqT k187_550 (lq_rf v) ?_
  refine tw_iinc k187_1290 rfl (v := (((6 * k) + 6 : Nat) : Int)) rfl (by omega) rfl (L' := [some (.inr (.inr (.inr 0))), some (.inr (.inr (.inl 0))), some (.inr (.inr (.inl 126))), some (.inl (((6 * k) + 6 : Nat) : Int))]) rfl ?_
  refine tw_goto k187_1293 ?_
  refine tw_eqL (L' := [some (.inr (.inr (.inr 0))), some (.inr (.inr (.inl 0))), some (.inr (.inr (.inl 126))), some (.inl (((6 * (k + 1)) : Nat) : Int))]) (e_c rfl (e_c rfl (e_c rfl (e_c (e_i (by omega)) rfl)))) ?_
  exact ih M2 N2 hG2
theorem lc_12 {K : mj_C} {d : Nat} (hD : 21 ≤ d) (hK : kOk K) (hL : (K 0).1 ≤ 3072) (hr : ∀ j, -2147483648 ≤ (K 0).2 j ∧ (K 0).2 j ≤ 2147483647) {k : Nat} (hk : 6 * k + 6 ≤ (K 0).1) {M : Nat → Nat → Int} {N : Nat → Nat → Int64} (hG : Good M N) {Q : Option mj_V → mj_Z → Prop} (ih : ∀ M N, Good M N → mj_T K d 187 18 [some (.inr (.inr (.inr 0))), some (.inr (.inr (.inl 0))), some (.inr (.inr (.inl 126))), some (.inl (((6 * (k + 1)) : Nat) : Int))] [] (mj_Sh, M, N) Q) : mj_T K d 187 555 [some (.inr (.inr (.inr 0))), some (.inr (.inr (.inl 0))), some (.inr (.inr (.inl 126))), some (.inl (((6 * k) : Nat) : Int))] [] (mj_Sh, M, N) Q := by
  obtain ⟨v, hP⟩ := pr_81 (d := d - 1) (by omega) hK hG ((K 0).2 ((6 * k) + 1))
  unfold PR at hP
  refine tw_aload k187_555 rfl ?_
  refine tw_aload k187_556 rfl ?_
  refine tw_iload k187_557 rfl ?_
  refine tw_const k187_558 ?_
  refine tw_iadd k187_559 (v := (((6 * k) + 1 : Nat) : Int)) rfl (by omega) ?_
  refine tw_ialdc (j := (6 * k) + 1) (v := ((K 0).2 ((6 * k) + 1))) k187_560 rfl rfl (by omega) rfl ?_
  refine tw_call (by omega) (S' := []) (as := [.inr (.inr (.inl 0)), .inl ((K 0).2 ((6 * k) + 1))]) k187_561 hP rfl rfl rfl rfl rfl (fun r561 Z561 hq561 => ?_)
  obtain ⟨rfl, M1, N1, rfl, hP1⟩ := hq561
  refine tw_as (S := [.inl v]) (M := M1) (N := N1) rfl rfl ?_
  refine tw_aload k187_564 rfl ?_
  refine tw_aload k187_565 rfl ?_
  refine tw_iload k187_566 rfl ?_
  refine tw_const k187_567 ?_
  refine tw_iadd k187_568 (v := (((6 * k) + 1 : Nat) : Int)) rfl (by omega) ?_
  refine tw_ialdc (j := (6 * k) + 1) (v := ((K 0).2 ((6 * k) + 1))) k187_569 rfl rfl (by omega) rfl ?_
  refine tw_call (by omega) (S' := [.inl v]) (as := [.inr (.inr (.inl 126)), .inl ((K 0).2 ((6 * k) + 1))]) k187_570 hP1 rfl rfl rfl rfl rfl (fun r570 Z570 hq570 => ?_)
  obtain ⟨rfl, M2, N2, rfl, hG2⟩ := hq570
  refine tw_as (S := [.inl v, .inl v]) (M := M2) (N := N2) rfl rfl ?_
  refine tw_ceqT k187_573 rfl ?_
  refine tw_iinc k187_1290 rfl (v := (((6 * k) + 6 : Nat) : Int)) rfl (by omega) rfl (L' := [some (.inr (.inr (.inr 0))), some (.inr (.inr (.inl 0))), some (.inr (.inr (.inl 126))), some (.inl (((6 * k) + 6 : Nat) : Int))]) rfl ?_
  refine tw_goto k187_1293 ?_
  refine tw_eqL (L' := [some (.inr (.inr (.inr 0))), some (.inr (.inr (.inl 0))), some (.inr (.inr (.inl 126))), some (.inl (((6 * (k + 1)) : Nat) : Int))]) (e_c rfl (e_c rfl (e_c rfl (e_c (e_i (by omega)) rfl)))) ?_
  exact ih M2 N2 hG2
theorem lc_13 {K : mj_C} {d : Nat} (hD : 21 ≤ d) (hK : kOk K) (hL : (K 0).1 ≤ 3072) (hr : ∀ j, -2147483648 ≤ (K 0).2 j ∧ (K 0).2 j ≤ 2147483647) {k : Nat} (hk : 6 * k + 6 ≤ (K 0).1) {M : Nat → Nat → Int} {N : Nat → Nat → Int64} (hG : Good M N) {Q : Option mj_V → mj_Z → Prop} (ih : ∀ M N, Good M N → mj_T K d 187 18 [some (.inr (.inr (.inr 0))), some (.inr (.inr (.inl 0))), some (.inr (.inr (.inl 126))), some (.inl (((6 * (k + 1)) : Nat) : Int))] [] (mj_Sh, M, N) Q) : mj_T K d 187 578 [some (.inr (.inr (.inr 0))), some (.inr (.inr (.inl 0))), some (.inr (.inr (.inl 126))), some (.inl (((6 * k) : Nat) : Int))] [] (mj_Sh, M, N) Q := by
  obtain ⟨v, hP⟩ := pr_82 (d := d - 1) (by omega) hK hG ((K 0).2 ((6 * k) + 1)) ((K 0).2 ((6 * k) + 2))
  unfold PR at hP
  refine tw_aload k187_578 rfl ?_
  refine tw_aload k187_579 rfl ?_
  refine tw_iload k187_580 rfl ?_
  refine tw_const k187_581 ?_
  refine tw_iadd k187_582 (v := (((6 * k) + 1 : Nat) : Int)) rfl (by omega) ?_
  refine tw_ialdc (j := (6 * k) + 1) (v := ((K 0).2 ((6 * k) + 1))) k187_583 rfl rfl (by omega) rfl ?_
  refine tw_aload k187_584 rfl ?_
  refine tw_iload k187_585 rfl ?_
  refine tw_const k187_586 ?_
  refine tw_iadd k187_587 (v := (((6 * k) + 2 : Nat) : Int)) rfl (by omega) ?_
  refine tw_ialdc (j := (6 * k) + 2) (v := ((K 0).2 ((6 * k) + 2))) k187_588 rfl rfl (by omega) rfl ?_
  refine tw_call (by omega) (S' := []) (as := [.inr (.inr (.inl 0)), .inl ((K 0).2 ((6 * k) + 1)), .inl ((K 0).2 ((6 * k) + 2))]) k187_589 hP rfl rfl rfl rfl rfl (fun r589 Z589 hq589 => ?_)
  obtain ⟨rfl, M1, N1, rfl, hP1⟩ := hq589
  refine tw_as (S := [.inl v]) (M := M1) (N := N1) rfl rfl ?_
  refine tw_aload k187_592 rfl ?_
  refine tw_aload k187_593 rfl ?_
  refine tw_iload k187_594 rfl ?_
  refine tw_const k187_595 ?_
  refine tw_iadd k187_596 (v := (((6 * k) + 1 : Nat) : Int)) rfl (by omega) ?_
  refine tw_ialdc (j := (6 * k) + 1) (v := ((K 0).2 ((6 * k) + 1))) k187_597 rfl rfl (by omega) rfl ?_
  refine tw_aload k187_598 rfl ?_
  refine tw_iload k187_599 rfl ?_
  refine tw_const k187_600 ?_
  refine tw_iadd k187_601 (v := (((6 * k) + 2 : Nat) : Int)) rfl (by omega) ?_
  refine tw_ialdc (j := (6 * k) + 2) (v := ((K 0).2 ((6 * k) + 2))) k187_602 rfl rfl (by omega) rfl ?_
  refine tw_call (by omega) (S' := [.inl v]) (as := [.inr (.inr (.inl 126)), .inl ((K 0).2 ((6 * k) + 1)), .inl ((K 0).2 ((6 * k) + 2))]) k187_603 hP1 rfl rfl rfl rfl rfl (fun r603 Z603 hq603 => ?_)
  obtain ⟨rfl, M2, N2, rfl, hG2⟩ := hq603
  refine tw_as (S := [.inl v, .inl v]) (M := M2) (N := N2) rfl rfl ?_
  refine tw_ceqT k187_606 rfl ?_
  refine tw_iinc k187_1290 rfl (v := (((6 * k) + 6 : Nat) : Int)) rfl (by omega) rfl (L' := [some (.inr (.inr (.inr 0))), some (.inr (.inr (.inl 0))), some (.inr (.inr (.inl 126))), some (.inl (((6 * k) + 6 : Nat) : Int))]) rfl ?_
  refine tw_goto k187_1293 ?_
  refine tw_eqL (L' := [some (.inr (.inr (.inr 0))), some (.inr (.inr (.inl 0))), some (.inr (.inr (.inl 126))), some (.inl (((6 * (k + 1)) : Nat) : Int))]) (e_c rfl (e_c rfl (e_c rfl (e_c (e_i (by omega)) rfl)))) ?_
  exact ih M2 N2 hG2
theorem lc_14 {K : mj_C} {d : Nat} (hD : 21 ≤ d) (hK : kOk K) (hL : (K 0).1 ≤ 3072) (hr : ∀ j, -2147483648 ≤ (K 0).2 j ∧ (K 0).2 j ≤ 2147483647) {k : Nat} (hk : 6 * k + 6 ≤ (K 0).1) {M : Nat → Nat → Int} {N : Nat → Nat → Int64} (hG : Good M N) {Q : Option mj_V → mj_Z → Prop} (ih : ∀ M N, Good M N → mj_T K d 187 18 [some (.inr (.inr (.inr 0))), some (.inr (.inr (.inl 0))), some (.inr (.inr (.inl 126))), some (.inl (((6 * (k + 1)) : Nat) : Int))] [] (mj_Sh, M, N) Q) : mj_T K d 187 611 [some (.inr (.inr (.inr 0))), some (.inr (.inr (.inl 0))), some (.inr (.inr (.inl 126))), some (.inl (((6 * k) : Nat) : Int))] [] (mj_Sh, M, N) Q := by
  obtain ⟨v, hP⟩ := pr_83 (d := d - 1) (by omega) hK hG ((K 0).2 ((6 * k) + 1)) ((K 0).2 ((6 * k) + 2))
  unfold PR at hP
  refine tw_aload k187_611 rfl ?_
  refine tw_aload k187_612 rfl ?_
  refine tw_iload k187_613 rfl ?_
  refine tw_const k187_614 ?_
  refine tw_iadd k187_615 (v := (((6 * k) + 1 : Nat) : Int)) rfl (by omega) ?_
  refine tw_ialdc (j := (6 * k) + 1) (v := ((K 0).2 ((6 * k) + 1))) k187_616 rfl rfl (by omega) rfl ?_
  refine tw_aload k187_617 rfl ?_
  refine tw_iload k187_618 rfl ?_
  refine tw_const k187_619 ?_
  refine tw_iadd k187_620 (v := (((6 * k) + 2 : Nat) : Int)) rfl (by omega) ?_
  refine tw_ialdc (j := (6 * k) + 2) (v := ((K 0).2 ((6 * k) + 2))) k187_621 rfl rfl (by omega) rfl ?_
  refine tw_call (by omega) (S' := []) (as := [.inr (.inr (.inl 0)), .inl ((K 0).2 ((6 * k) + 1)), .inl ((K 0).2 ((6 * k) + 2))]) k187_622 hP rfl rfl rfl rfl rfl (fun r622 Z622 hq622 => ?_)
  obtain ⟨rfl, M1, N1, rfl, hP1⟩ := hq622
  refine tw_as (S := [.inl v]) (M := M1) (N := N1) rfl rfl ?_
  refine tw_aload k187_625 rfl ?_
  refine tw_aload k187_626 rfl ?_
  refine tw_iload k187_627 rfl ?_
  refine tw_const k187_628 ?_
  refine tw_iadd k187_629 (v := (((6 * k) + 1 : Nat) : Int)) rfl (by omega) ?_
  refine tw_ialdc (j := (6 * k) + 1) (v := ((K 0).2 ((6 * k) + 1))) k187_630 rfl rfl (by omega) rfl ?_
  refine tw_aload k187_631 rfl ?_
  refine tw_iload k187_632 rfl ?_
  refine tw_const k187_633 ?_
  refine tw_iadd k187_634 (v := (((6 * k) + 2 : Nat) : Int)) rfl (by omega) ?_
  refine tw_ialdc (j := (6 * k) + 2) (v := ((K 0).2 ((6 * k) + 2))) k187_635 rfl rfl (by omega) rfl ?_
  refine tw_call (by omega) (S' := [.inl v]) (as := [.inr (.inr (.inl 126)), .inl ((K 0).2 ((6 * k) + 1)), .inl ((K 0).2 ((6 * k) + 2))]) k187_636 hP1 rfl rfl rfl rfl rfl (fun r636 Z636 hq636 => ?_)
  obtain ⟨rfl, M2, N2, rfl, hG2⟩ := hq636
  refine tw_as (S := [.inl v, .inl v]) (M := M2) (N := N2) rfl rfl ?_
  refine tw_ceqT k187_639 rfl ?_
  refine tw_iinc k187_1290 rfl (v := (((6 * k) + 6 : Nat) : Int)) rfl (by omega) rfl (L' := [some (.inr (.inr (.inr 0))), some (.inr (.inr (.inl 0))), some (.inr (.inr (.inl 126))), some (.inl (((6 * k) + 6 : Nat) : Int))]) rfl ?_
  refine tw_goto k187_1293 ?_
  refine tw_eqL (L' := [some (.inr (.inr (.inr 0))), some (.inr (.inr (.inl 0))), some (.inr (.inr (.inl 126))), some (.inl (((6 * (k + 1)) : Nat) : Int))]) (e_c rfl (e_c rfl (e_c rfl (e_c (e_i (by omega)) rfl)))) ?_
  exact ih M2 N2 hG2
theorem lc_15 {K : mj_C} {d : Nat} (hD : 21 ≤ d) (hK : kOk K) (hL : (K 0).1 ≤ 3072) (hr : ∀ j, -2147483648 ≤ (K 0).2 j ∧ (K 0).2 j ≤ 2147483647) {k : Nat} (hk : 6 * k + 6 ≤ (K 0).1) {M : Nat → Nat → Int} {N : Nat → Nat → Int64} (hG : Good M N) {Q : Option mj_V → mj_Z → Prop} (ih : ∀ M N, Good M N → mj_T K d 187 18 [some (.inr (.inr (.inr 0))), some (.inr (.inr (.inl 0))), some (.inr (.inr (.inl 126))), some (.inl (((6 * (k + 1)) : Nat) : Int))] [] (mj_Sh, M, N) Q) : mj_T K d 187 644 [some (.inr (.inr (.inr 0))), some (.inr (.inr (.inl 0))), some (.inr (.inr (.inl 126))), some (.inl (((6 * k) : Nat) : Int))] [] (mj_Sh, M, N) Q := by
  obtain ⟨v, hP⟩ := pr_84 (d := d - 1) (by omega) hK hG ((K 0).2 ((6 * k) + 1))
  unfold PR at hP
  refine tw_aload k187_644 rfl ?_
  refine tw_aload k187_645 rfl ?_
  refine tw_iload k187_646 rfl ?_
  refine tw_const k187_647 ?_
  refine tw_iadd k187_648 (v := (((6 * k) + 1 : Nat) : Int)) rfl (by omega) ?_
  refine tw_ialdc (j := (6 * k) + 1) (v := ((K 0).2 ((6 * k) + 1))) k187_649 rfl rfl (by omega) rfl ?_
  refine tw_call (by omega) (S' := []) (as := [.inr (.inr (.inl 0)), .inl ((K 0).2 ((6 * k) + 1))]) k187_650 hP rfl rfl rfl rfl rfl (fun r650 Z650 hq650 => ?_)
  obtain ⟨rfl, M1, N1, rfl, hP1⟩ := hq650
  refine tw_as (S := [.inl v]) (M := M1) (N := N1) rfl rfl ?_
  refine tw_aload k187_653 rfl ?_
  refine tw_aload k187_654 rfl ?_
  refine tw_iload k187_655 rfl ?_
  refine tw_const k187_656 ?_
  refine tw_iadd k187_657 (v := (((6 * k) + 1 : Nat) : Int)) rfl (by omega) ?_
  refine tw_ialdc (j := (6 * k) + 1) (v := ((K 0).2 ((6 * k) + 1))) k187_658 rfl rfl (by omega) rfl ?_
  refine tw_call (by omega) (S' := [.inl v]) (as := [.inr (.inr (.inl 126)), .inl ((K 0).2 ((6 * k) + 1))]) k187_659 hP1 rfl rfl rfl rfl rfl (fun r659 Z659 hq659 => ?_)
  obtain ⟨rfl, M2, N2, rfl, hG2⟩ := hq659
  refine tw_as (S := [.inl v, .inl v]) (M := M2) (N := N2) rfl rfl ?_
  refine tw_ceqT k187_662 rfl ?_
  refine tw_iinc k187_1290 rfl (v := (((6 * k) + 6 : Nat) : Int)) rfl (by omega) rfl (L' := [some (.inr (.inr (.inr 0))), some (.inr (.inr (.inl 0))), some (.inr (.inr (.inl 126))), some (.inl (((6 * k) + 6 : Nat) : Int))]) rfl ?_
  refine tw_goto k187_1293 ?_
  refine tw_eqL (L' := [some (.inr (.inr (.inr 0))), some (.inr (.inr (.inl 0))), some (.inr (.inr (.inl 126))), some (.inl (((6 * (k + 1)) : Nat) : Int))]) (e_c rfl (e_c rfl (e_c rfl (e_c (e_i (by omega)) rfl)))) ?_
  exact ih M2 N2 hG2
theorem lc_16 {K : mj_C} {d : Nat} (hD : 21 ≤ d) (hK : kOk K) (hL : (K 0).1 ≤ 3072) (hr : ∀ j, -2147483648 ≤ (K 0).2 j ∧ (K 0).2 j ≤ 2147483647) {k : Nat} (hk : 6 * k + 6 ≤ (K 0).1) {M : Nat → Nat → Int} {N : Nat → Nat → Int64} (hG : Good M N) {Q : Option mj_V → mj_Z → Prop} (ih : ∀ M N, Good M N → mj_T K d 187 18 [some (.inr (.inr (.inr 0))), some (.inr (.inr (.inl 0))), some (.inr (.inr (.inl 126))), some (.inl (((6 * (k + 1)) : Nat) : Int))] [] (mj_Sh, M, N) Q) : mj_T K d 187 667 [some (.inr (.inr (.inr 0))), some (.inr (.inr (.inl 0))), some (.inr (.inr (.inl 126))), some (.inl (((6 * k) : Nat) : Int))] [] (mj_Sh, M, N) Q := by
  obtain ⟨v, hP⟩ := pr_85 (d := d - 1) (by omega) hK hG ((K 0).2 ((6 * k) + 1)) ((K 0).2 ((6 * k) + 2))
  unfold PR at hP
  refine tw_aload k187_667 rfl ?_
  refine tw_aload k187_668 rfl ?_
  refine tw_iload k187_669 rfl ?_
  refine tw_const k187_670 ?_
  refine tw_iadd k187_671 (v := (((6 * k) + 1 : Nat) : Int)) rfl (by omega) ?_
  refine tw_ialdc (j := (6 * k) + 1) (v := ((K 0).2 ((6 * k) + 1))) k187_672 rfl rfl (by omega) rfl ?_
  refine tw_aload k187_673 rfl ?_
  refine tw_iload k187_674 rfl ?_
  refine tw_const k187_675 ?_
  refine tw_iadd k187_676 (v := (((6 * k) + 2 : Nat) : Int)) rfl (by omega) ?_
  refine tw_ialdc (j := (6 * k) + 2) (v := ((K 0).2 ((6 * k) + 2))) k187_677 rfl rfl (by omega) rfl ?_
  refine tw_call (by omega) (S' := []) (as := [.inr (.inr (.inl 0)), .inl ((K 0).2 ((6 * k) + 1)), .inl ((K 0).2 ((6 * k) + 2))]) k187_678 hP rfl rfl rfl rfl rfl (fun r678 Z678 hq678 => ?_)
  obtain ⟨rfl, M1, N1, rfl, hP1⟩ := hq678
  refine tw_as (S := [.inl v]) (M := M1) (N := N1) rfl rfl ?_
  refine tw_aload k187_681 rfl ?_
  refine tw_aload k187_682 rfl ?_
  refine tw_iload k187_683 rfl ?_
  refine tw_const k187_684 ?_
  refine tw_iadd k187_685 (v := (((6 * k) + 1 : Nat) : Int)) rfl (by omega) ?_
  refine tw_ialdc (j := (6 * k) + 1) (v := ((K 0).2 ((6 * k) + 1))) k187_686 rfl rfl (by omega) rfl ?_
  refine tw_aload k187_687 rfl ?_
  refine tw_iload k187_688 rfl ?_
  refine tw_const k187_689 ?_
  refine tw_iadd k187_690 (v := (((6 * k) + 2 : Nat) : Int)) rfl (by omega) ?_
  refine tw_ialdc (j := (6 * k) + 2) (v := ((K 0).2 ((6 * k) + 2))) k187_691 rfl rfl (by omega) rfl ?_
  refine tw_call (by omega) (S' := [.inl v]) (as := [.inr (.inr (.inl 126)), .inl ((K 0).2 ((6 * k) + 1)), .inl ((K 0).2 ((6 * k) + 2))]) k187_692 hP1 rfl rfl rfl rfl rfl (fun r692 Z692 hq692 => ?_)
  obtain ⟨rfl, M2, N2, rfl, hG2⟩ := hq692
  refine tw_as (S := [.inl v, .inl v]) (M := M2) (N := N2) rfl rfl ?_
  refine tw_ceqT k187_695 rfl ?_
  refine tw_iinc k187_1290 rfl (v := (((6 * k) + 6 : Nat) : Int)) rfl (by omega) rfl (L' := [some (.inr (.inr (.inr 0))), some (.inr (.inr (.inl 0))), some (.inr (.inr (.inl 126))), some (.inl (((6 * k) + 6 : Nat) : Int))]) rfl ?_
  refine tw_goto k187_1293 ?_
  refine tw_eqL (L' := [some (.inr (.inr (.inr 0))), some (.inr (.inr (.inl 0))), some (.inr (.inr (.inl 126))), some (.inl (((6 * (k + 1)) : Nat) : Int))]) (e_c rfl (e_c rfl (e_c rfl (e_c (e_i (by omega)) rfl)))) ?_
  exact ih M2 N2 hG2
theorem lc_17 {K : mj_C} {d : Nat} (hD : 21 ≤ d) (hK : kOk K) (hL : (K 0).1 ≤ 3072) (hr : ∀ j, -2147483648 ≤ (K 0).2 j ∧ (K 0).2 j ≤ 2147483647) {k : Nat} (hk : 6 * k + 6 ≤ (K 0).1) {M : Nat → Nat → Int} {N : Nat → Nat → Int64} (hG : Good M N) {Q : Option mj_V → mj_Z → Prop} (ih : ∀ M N, Good M N → mj_T K d 187 18 [some (.inr (.inr (.inr 0))), some (.inr (.inr (.inl 0))), some (.inr (.inr (.inl 126))), some (.inl (((6 * (k + 1)) : Nat) : Int))] [] (mj_Sh, M, N) Q) : mj_T K d 187 700 [some (.inr (.inr (.inr 0))), some (.inr (.inr (.inl 0))), some (.inr (.inr (.inl 126))), some (.inl (((6 * k) : Nat) : Int))] [] (mj_Sh, M, N) Q := by
  obtain ⟨v, hP⟩ := pr_86 (d := d - 1) (by omega) hK hG ((K 0).2 ((6 * k) + 1))
  unfold PR at hP
  refine tw_aload k187_700 rfl ?_
  refine tw_aload k187_701 rfl ?_
  refine tw_iload k187_702 rfl ?_
  refine tw_const k187_703 ?_
  refine tw_iadd k187_704 (v := (((6 * k) + 1 : Nat) : Int)) rfl (by omega) ?_
  refine tw_ialdc (j := (6 * k) + 1) (v := ((K 0).2 ((6 * k) + 1))) k187_705 rfl rfl (by omega) rfl ?_
  refine tw_call (by omega) (S' := []) (as := [.inr (.inr (.inl 0)), .inl ((K 0).2 ((6 * k) + 1))]) k187_706 hP rfl rfl rfl rfl rfl (fun r706 Z706 hq706 => ?_)
  obtain ⟨rfl, M1, N1, rfl, hP1⟩ := hq706
  refine tw_as (S := [.inr (.inl v)]) (M := M1) (N := N1) rfl rfl ?_
  refine tw_aload k187_709 rfl ?_
  refine tw_aload k187_710 rfl ?_
  refine tw_iload k187_711 rfl ?_
  refine tw_const k187_712 ?_
  refine tw_iadd k187_713 (v := (((6 * k) + 1 : Nat) : Int)) rfl (by omega) ?_
  refine tw_ialdc (j := (6 * k) + 1) (v := ((K 0).2 ((6 * k) + 1))) k187_714 rfl rfl (by omega) rfl ?_
  refine tw_call (by omega) (S' := [.inr (.inl v)]) (as := [.inr (.inr (.inl 126)), .inl ((K 0).2 ((6 * k) + 1))]) k187_715 hP1 rfl rfl rfl rfl rfl (fun r715 Z715 hq715 => ?_)
  obtain ⟨rfl, M2, N2, rfl, hG2⟩ := hq715
  refine tw_as (S := [.inr (.inl v), .inr (.inl v)]) (M := M2) (N := N2) rfl rfl ?_
  refine tw_lcmp k187_718 ?_
  refine tw_zeqT k187_719 (lq_rf v) ?_
  refine tw_iinc k187_1290 rfl (v := (((6 * k) + 6 : Nat) : Int)) rfl (by omega) rfl (L' := [some (.inr (.inr (.inr 0))), some (.inr (.inr (.inl 0))), some (.inr (.inr (.inl 126))), some (.inl (((6 * k) + 6 : Nat) : Int))]) rfl ?_
  refine tw_goto k187_1293 ?_
  refine tw_eqL (L' := [some (.inr (.inr (.inr 0))), some (.inr (.inr (.inl 0))), some (.inr (.inr (.inl 126))), some (.inl (((6 * (k + 1)) : Nat) : Int))]) (e_c rfl (e_c rfl (e_c rfl (e_c (e_i (by omega)) rfl)))) ?_
  exact ih M2 N2 hG2
theorem lc_18 {K : mj_C} {d : Nat} (hD : 21 ≤ d) (hK : kOk K) (hL : (K 0).1 ≤ 3072) (hr : ∀ j, -2147483648 ≤ (K 0).2 j ∧ (K 0).2 j ≤ 2147483647) {k : Nat} (hk : 6 * k + 6 ≤ (K 0).1) {M : Nat → Nat → Int} {N : Nat → Nat → Int64} (hG : Good M N) {Q : Option mj_V → mj_Z → Prop} (ih : ∀ M N, Good M N → mj_T K d 187 18 [some (.inr (.inr (.inr 0))), some (.inr (.inr (.inl 0))), some (.inr (.inr (.inl 126))), some (.inl (((6 * (k + 1)) : Nat) : Int))] [] (mj_Sh, M, N) Q) : mj_T K d 187 724 [some (.inr (.inr (.inr 0))), some (.inr (.inr (.inl 0))), some (.inr (.inr (.inl 126))), some (.inl (((6 * k) : Nat) : Int))] [] (mj_Sh, M, N) Q := by
  obtain ⟨v, hP⟩ := pr_87 (d := d - 1) (by omega) hK hG ((K 0).2 ((6 * k) + 1)) ((K 0).2 ((6 * k) + 2)) ((K 0).2 ((6 * k) + 3))
  unfold PR at hP
  refine tw_aload k187_724 rfl ?_
  refine tw_aload k187_725 rfl ?_
  refine tw_iload k187_726 rfl ?_
  refine tw_const k187_727 ?_
  refine tw_iadd k187_728 (v := (((6 * k) + 1 : Nat) : Int)) rfl (by omega) ?_
  refine tw_ialdc (j := (6 * k) + 1) (v := ((K 0).2 ((6 * k) + 1))) k187_729 rfl rfl (by omega) rfl ?_
  refine tw_aload k187_730 rfl ?_
  refine tw_iload k187_731 rfl ?_
  refine tw_const k187_732 ?_
  refine tw_iadd k187_733 (v := (((6 * k) + 2 : Nat) : Int)) rfl (by omega) ?_
  refine tw_ialdc (j := (6 * k) + 2) (v := ((K 0).2 ((6 * k) + 2))) k187_734 rfl rfl (by omega) rfl ?_
  refine tw_aload k187_735 rfl ?_
  refine tw_iload k187_736 rfl ?_
  refine tw_const k187_737 ?_
  refine tw_iadd k187_738 (v := (((6 * k) + 3 : Nat) : Int)) rfl (by omega) ?_
  refine tw_ialdc (j := (6 * k) + 3) (v := ((K 0).2 ((6 * k) + 3))) k187_739 rfl rfl (by omega) rfl ?_
  refine tw_call (by omega) (S' := []) (as := [.inr (.inr (.inl 0)), .inl ((K 0).2 ((6 * k) + 1)), .inl ((K 0).2 ((6 * k) + 2)), .inl ((K 0).2 ((6 * k) + 3))]) k187_740 hP rfl rfl rfl rfl rfl (fun r740 Z740 hq740 => ?_)
  obtain ⟨rfl, M1, N1, rfl, hP1⟩ := hq740
  refine tw_as (S := [.inr (.inl v)]) (M := M1) (N := N1) rfl rfl ?_
  refine tw_aload k187_743 rfl ?_
  refine tw_aload k187_744 rfl ?_
  refine tw_iload k187_745 rfl ?_
  refine tw_const k187_746 ?_
  refine tw_iadd k187_747 (v := (((6 * k) + 1 : Nat) : Int)) rfl (by omega) ?_
  refine tw_ialdc (j := (6 * k) + 1) (v := ((K 0).2 ((6 * k) + 1))) k187_748 rfl rfl (by omega) rfl ?_
  refine tw_aload k187_749 rfl ?_
  refine tw_iload k187_750 rfl ?_
  refine tw_const k187_751 ?_
  refine tw_iadd k187_752 (v := (((6 * k) + 2 : Nat) : Int)) rfl (by omega) ?_
  refine tw_ialdc (j := (6 * k) + 2) (v := ((K 0).2 ((6 * k) + 2))) k187_753 rfl rfl (by omega) rfl ?_
  refine tw_aload k187_754 rfl ?_
  refine tw_iload k187_755 rfl ?_
  refine tw_const k187_756 ?_
  refine tw_iadd k187_757 (v := (((6 * k) + 3 : Nat) : Int)) rfl (by omega) ?_
  refine tw_ialdc (j := (6 * k) + 3) (v := ((K 0).2 ((6 * k) + 3))) k187_758 rfl rfl (by omega) rfl ?_
  refine tw_call (by omega) (S' := [.inr (.inl v)]) (as := [.inr (.inr (.inl 126)), .inl ((K 0).2 ((6 * k) + 1)), .inl ((K 0).2 ((6 * k) + 2)), .inl ((K 0).2 ((6 * k) + 3))]) k187_759 hP1 rfl rfl rfl rfl rfl (fun r759 Z759 hq759 => ?_)
  obtain ⟨rfl, M2, N2, rfl, hG2⟩ := hq759
  refine tw_as (S := [.inr (.inl v), .inr (.inl v)]) (M := M2) (N := N2) rfl rfl ?_
  refine tw_lcmp k187_762 ?_
  refine tw_zeqT k187_763 (lq_rf v) ?_
  refine tw_iinc k187_1290 rfl (v := (((6 * k) + 6 : Nat) : Int)) rfl (by omega) rfl (L' := [some (.inr (.inr (.inr 0))), some (.inr (.inr (.inl 0))), some (.inr (.inr (.inl 126))), some (.inl (((6 * k) + 6 : Nat) : Int))]) rfl ?_
  refine tw_goto k187_1293 ?_
  refine tw_eqL (L' := [some (.inr (.inr (.inr 0))), some (.inr (.inr (.inl 0))), some (.inr (.inr (.inl 126))), some (.inl (((6 * (k + 1)) : Nat) : Int))]) (e_c rfl (e_c rfl (e_c rfl (e_c (e_i (by omega)) rfl)))) ?_
  exact ih M2 N2 hG2
theorem lc_19 {K : mj_C} {d : Nat} (hD : 21 ≤ d) (hK : kOk K) (hL : (K 0).1 ≤ 3072) (hr : ∀ j, -2147483648 ≤ (K 0).2 j ∧ (K 0).2 j ≤ 2147483647) {k : Nat} (hk : 6 * k + 6 ≤ (K 0).1) {M : Nat → Nat → Int} {N : Nat → Nat → Int64} (hG : Good M N) {Q : Option mj_V → mj_Z → Prop} (ih : ∀ M N, Good M N → mj_T K d 187 18 [some (.inr (.inr (.inr 0))), some (.inr (.inr (.inl 0))), some (.inr (.inr (.inl 126))), some (.inl (((6 * (k + 1)) : Nat) : Int))] [] (mj_Sh, M, N) Q) : mj_T K d 187 768 [some (.inr (.inr (.inr 0))), some (.inr (.inr (.inl 0))), some (.inr (.inr (.inl 126))), some (.inl (((6 * k) : Nat) : Int))] [] (mj_Sh, M, N) Q := by
  obtain ⟨v, hP⟩ := pr_88 (d := d - 1) (by omega) hK hG ((K 0).2 ((6 * k) + 1)) ((K 0).2 ((6 * k) + 2))
  unfold PR at hP
  refine tw_aload k187_768 rfl ?_
  refine tw_aload k187_769 rfl ?_
  refine tw_iload k187_770 rfl ?_
  refine tw_const k187_771 ?_
  refine tw_iadd k187_772 (v := (((6 * k) + 1 : Nat) : Int)) rfl (by omega) ?_
  refine tw_ialdc (j := (6 * k) + 1) (v := ((K 0).2 ((6 * k) + 1))) k187_773 rfl rfl (by omega) rfl ?_
  refine tw_aload k187_774 rfl ?_
  refine tw_iload k187_775 rfl ?_
  refine tw_const k187_776 ?_
  refine tw_iadd k187_777 (v := (((6 * k) + 2 : Nat) : Int)) rfl (by omega) ?_
  refine tw_ialdc (j := (6 * k) + 2) (v := ((K 0).2 ((6 * k) + 2))) k187_778 rfl rfl (by omega) rfl ?_
  refine tw_call (by omega) (S' := []) (as := [.inr (.inr (.inl 0)), .inl ((K 0).2 ((6 * k) + 1)), .inl ((K 0).2 ((6 * k) + 2))]) k187_779 hP rfl rfl rfl rfl rfl (fun r779 Z779 hq779 => ?_)
  obtain ⟨rfl, M1, N1, rfl, hP1⟩ := hq779
  refine tw_as (S := [.inl v]) (M := M1) (N := N1) rfl rfl ?_
  refine tw_aload k187_782 rfl ?_
  refine tw_aload k187_783 rfl ?_
  refine tw_iload k187_784 rfl ?_
  refine tw_const k187_785 ?_
  refine tw_iadd k187_786 (v := (((6 * k) + 1 : Nat) : Int)) rfl (by omega) ?_
  refine tw_ialdc (j := (6 * k) + 1) (v := ((K 0).2 ((6 * k) + 1))) k187_787 rfl rfl (by omega) rfl ?_
  refine tw_aload k187_788 rfl ?_
  refine tw_iload k187_789 rfl ?_
  refine tw_const k187_790 ?_
  refine tw_iadd k187_791 (v := (((6 * k) + 2 : Nat) : Int)) rfl (by omega) ?_
  refine tw_ialdc (j := (6 * k) + 2) (v := ((K 0).2 ((6 * k) + 2))) k187_792 rfl rfl (by omega) rfl ?_
  refine tw_call (by omega) (S' := [.inl v]) (as := [.inr (.inr (.inl 126)), .inl ((K 0).2 ((6 * k) + 1)), .inl ((K 0).2 ((6 * k) + 2))]) k187_793 hP1 rfl rfl rfl rfl rfl (fun r793 Z793 hq793 => ?_)
  obtain ⟨rfl, M2, N2, rfl, hG2⟩ := hq793
  refine tw_as (S := [.inl v, .inl v]) (M := M2) (N := N2) rfl rfl ?_
  refine tw_ceqT k187_796 rfl ?_
  refine tw_iinc k187_1290 rfl (v := (((6 * k) + 6 : Nat) : Int)) rfl (by omega) rfl (L' := [some (.inr (.inr (.inr 0))), some (.inr (.inr (.inl 0))), some (.inr (.inr (.inl 126))), some (.inl (((6 * k) + 6 : Nat) : Int))]) rfl ?_
  refine tw_goto k187_1293 ?_
  refine tw_eqL (L' := [some (.inr (.inr (.inr 0))), some (.inr (.inr (.inl 0))), some (.inr (.inr (.inl 126))), some (.inl (((6 * (k + 1)) : Nat) : Int))]) (e_c rfl (e_c rfl (e_c rfl (e_c (e_i (by omega)) rfl)))) ?_
  exact ih M2 N2 hG2
theorem lc_20 {K : mj_C} {d : Nat} (hD : 21 ≤ d) (hK : kOk K) (hL : (K 0).1 ≤ 3072) (hr : ∀ j, -2147483648 ≤ (K 0).2 j ∧ (K 0).2 j ≤ 2147483647) {k : Nat} (hk : 6 * k + 6 ≤ (K 0).1) {M : Nat → Nat → Int} {N : Nat → Nat → Int64} (hG : Good M N) {Q : Option mj_V → mj_Z → Prop} (ih : ∀ M N, Good M N → mj_T K d 187 18 [some (.inr (.inr (.inr 0))), some (.inr (.inr (.inl 0))), some (.inr (.inr (.inl 126))), some (.inl (((6 * (k + 1)) : Nat) : Int))] [] (mj_Sh, M, N) Q) : mj_T K d 187 801 [some (.inr (.inr (.inr 0))), some (.inr (.inr (.inl 0))), some (.inr (.inr (.inl 126))), some (.inl (((6 * k) : Nat) : Int))] [] (mj_Sh, M, N) Q := by
  obtain ⟨v, hP⟩ := pr_89 (d := d - 1) (by omega) hK hG ((K 0).2 ((6 * k) + 1)) ((K 0).2 ((6 * k) + 2))
  unfold PR at hP
  refine tw_aload k187_801 rfl ?_
  refine tw_aload k187_802 rfl ?_
  refine tw_iload k187_803 rfl ?_
  refine tw_const k187_804 ?_
  refine tw_iadd k187_805 (v := (((6 * k) + 1 : Nat) : Int)) rfl (by omega) ?_
  refine tw_ialdc (j := (6 * k) + 1) (v := ((K 0).2 ((6 * k) + 1))) k187_806 rfl rfl (by omega) rfl ?_
  refine tw_aload k187_807 rfl ?_
  refine tw_iload k187_808 rfl ?_
  refine tw_const k187_809 ?_
  refine tw_iadd k187_810 (v := (((6 * k) + 2 : Nat) : Int)) rfl (by omega) ?_
  refine tw_ialdc (j := (6 * k) + 2) (v := ((K 0).2 ((6 * k) + 2))) k187_811 rfl rfl (by omega) rfl ?_
  refine tw_call (by omega) (S' := []) (as := [.inr (.inr (.inl 0)), .inl ((K 0).2 ((6 * k) + 1)), .inl ((K 0).2 ((6 * k) + 2))]) k187_812 hP rfl rfl rfl rfl rfl (fun r812 Z812 hq812 => ?_)
  obtain ⟨rfl, M1, N1, rfl, hP1⟩ := hq812
  refine tw_as (S := [.inl v]) (M := M1) (N := N1) rfl rfl ?_
  refine tw_aload k187_815 rfl ?_
  refine tw_aload k187_816 rfl ?_
  refine tw_iload k187_817 rfl ?_
  refine tw_const k187_818 ?_
  refine tw_iadd k187_819 (v := (((6 * k) + 1 : Nat) : Int)) rfl (by omega) ?_
  refine tw_ialdc (j := (6 * k) + 1) (v := ((K 0).2 ((6 * k) + 1))) k187_820 rfl rfl (by omega) rfl ?_
  refine tw_aload k187_821 rfl ?_
  refine tw_iload k187_822 rfl ?_
  refine tw_const k187_823 ?_
  refine tw_iadd k187_824 (v := (((6 * k) + 2 : Nat) : Int)) rfl (by omega) ?_
  refine tw_ialdc (j := (6 * k) + 2) (v := ((K 0).2 ((6 * k) + 2))) k187_825 rfl rfl (by omega) rfl ?_
  refine tw_call (by omega) (S' := [.inl v]) (as := [.inr (.inr (.inl 126)), .inl ((K 0).2 ((6 * k) + 1)), .inl ((K 0).2 ((6 * k) + 2))]) k187_826 hP1 rfl rfl rfl rfl rfl (fun r826 Z826 hq826 => ?_)
  obtain ⟨rfl, M2, N2, rfl, hG2⟩ := hq826
  refine tw_as (S := [.inl v, .inl v]) (M := M2) (N := N2) rfl rfl ?_
  refine tw_ceqT k187_829 rfl ?_
  refine tw_iinc k187_1290 rfl (v := (((6 * k) + 6 : Nat) : Int)) rfl (by omega) rfl (L' := [some (.inr (.inr (.inr 0))), some (.inr (.inr (.inl 0))), some (.inr (.inr (.inl 126))), some (.inl (((6 * k) + 6 : Nat) : Int))]) rfl ?_
  refine tw_goto k187_1293 ?_
  refine tw_eqL (L' := [some (.inr (.inr (.inr 0))), some (.inr (.inr (.inl 0))), some (.inr (.inr (.inl 126))), some (.inl (((6 * (k + 1)) : Nat) : Int))]) (e_c rfl (e_c rfl (e_c rfl (e_c (e_i (by omega)) rfl)))) ?_
  exact ih M2 N2 hG2
theorem lc_21 {K : mj_C} {d : Nat} (hD : 21 ≤ d) (hK : kOk K) (hL : (K 0).1 ≤ 3072) (hr : ∀ j, -2147483648 ≤ (K 0).2 j ∧ (K 0).2 j ≤ 2147483647) {k : Nat} (hk : 6 * k + 6 ≤ (K 0).1) {M : Nat → Nat → Int} {N : Nat → Nat → Int64} (hG : Good M N) {Q : Option mj_V → mj_Z → Prop} (ih : ∀ M N, Good M N → mj_T K d 187 18 [some (.inr (.inr (.inr 0))), some (.inr (.inr (.inl 0))), some (.inr (.inr (.inl 126))), some (.inl (((6 * (k + 1)) : Nat) : Int))] [] (mj_Sh, M, N) Q) : mj_T K d 187 834 [some (.inr (.inr (.inr 0))), some (.inr (.inr (.inl 0))), some (.inr (.inr (.inl 126))), some (.inl (((6 * k) : Nat) : Int))] [] (mj_Sh, M, N) Q := by
  obtain ⟨v, hP⟩ := pr_90 (d := d - 1) (by omega) hK hG ((K 0).2 ((6 * k) + 1)) ((K 0).2 ((6 * k) + 2))
  unfold PR at hP
  refine tw_aload k187_834 rfl ?_
  refine tw_aload k187_835 rfl ?_
  refine tw_iload k187_836 rfl ?_
  refine tw_const k187_837 ?_
  refine tw_iadd k187_838 (v := (((6 * k) + 1 : Nat) : Int)) rfl (by omega) ?_
  refine tw_ialdc (j := (6 * k) + 1) (v := ((K 0).2 ((6 * k) + 1))) k187_839 rfl rfl (by omega) rfl ?_
  refine tw_aload k187_840 rfl ?_
  refine tw_iload k187_841 rfl ?_
  refine tw_const k187_842 ?_
  refine tw_iadd k187_843 (v := (((6 * k) + 2 : Nat) : Int)) rfl (by omega) ?_
  refine tw_ialdc (j := (6 * k) + 2) (v := ((K 0).2 ((6 * k) + 2))) k187_844 rfl rfl (by omega) rfl ?_
  refine tw_call (by omega) (S' := []) (as := [.inr (.inr (.inl 0)), .inl ((K 0).2 ((6 * k) + 1)), .inl ((K 0).2 ((6 * k) + 2))]) k187_845 hP rfl rfl rfl rfl rfl (fun r845 Z845 hq845 => ?_)
  obtain ⟨rfl, M1, N1, rfl, hP1⟩ := hq845
  refine tw_as (S := [.inr (.inl v)]) (M := M1) (N := N1) rfl rfl ?_
  refine tw_aload k187_848 rfl ?_
  refine tw_aload k187_849 rfl ?_
  refine tw_iload k187_850 rfl ?_
  refine tw_const k187_851 ?_
  refine tw_iadd k187_852 (v := (((6 * k) + 1 : Nat) : Int)) rfl (by omega) ?_
  refine tw_ialdc (j := (6 * k) + 1) (v := ((K 0).2 ((6 * k) + 1))) k187_853 rfl rfl (by omega) rfl ?_
  refine tw_aload k187_854 rfl ?_
  refine tw_iload k187_855 rfl ?_
  refine tw_const k187_856 ?_
  refine tw_iadd k187_857 (v := (((6 * k) + 2 : Nat) : Int)) rfl (by omega) ?_
  refine tw_ialdc (j := (6 * k) + 2) (v := ((K 0).2 ((6 * k) + 2))) k187_858 rfl rfl (by omega) rfl ?_
  refine tw_call (by omega) (S' := [.inr (.inl v)]) (as := [.inr (.inr (.inl 126)), .inl ((K 0).2 ((6 * k) + 1)), .inl ((K 0).2 ((6 * k) + 2))]) k187_859 hP1 rfl rfl rfl rfl rfl (fun r859 Z859 hq859 => ?_)
  obtain ⟨rfl, M2, N2, rfl, hG2⟩ := hq859
  refine tw_as (S := [.inr (.inl v), .inr (.inl v)]) (M := M2) (N := N2) rfl rfl ?_
  refine tw_lcmp k187_862 ?_
  refine tw_zeqT k187_863 (lq_rf v) ?_
  refine tw_iinc k187_1290 rfl (v := (((6 * k) + 6 : Nat) : Int)) rfl (by omega) rfl (L' := [some (.inr (.inr (.inr 0))), some (.inr (.inr (.inl 0))), some (.inr (.inr (.inl 126))), some (.inl (((6 * k) + 6 : Nat) : Int))]) rfl ?_
  refine tw_goto k187_1293 ?_
  refine tw_eqL (L' := [some (.inr (.inr (.inr 0))), some (.inr (.inr (.inl 0))), some (.inr (.inr (.inl 126))), some (.inl (((6 * (k + 1)) : Nat) : Int))]) (e_c rfl (e_c rfl (e_c rfl (e_c (e_i (by omega)) rfl)))) ?_
  exact ih M2 N2 hG2
theorem lc_22 {K : mj_C} {d : Nat} (hD : 21 ≤ d) (hK : kOk K) (hL : (K 0).1 ≤ 3072) (hr : ∀ j, -2147483648 ≤ (K 0).2 j ∧ (K 0).2 j ≤ 2147483647) {k : Nat} (hk : 6 * k + 6 ≤ (K 0).1) {M : Nat → Nat → Int} {N : Nat → Nat → Int64} (hG : Good M N) {Q : Option mj_V → mj_Z → Prop} (ih : ∀ M N, Good M N → mj_T K d 187 18 [some (.inr (.inr (.inr 0))), some (.inr (.inr (.inl 0))), some (.inr (.inr (.inl 126))), some (.inl (((6 * (k + 1)) : Nat) : Int))] [] (mj_Sh, M, N) Q) : mj_T K d 187 868 [some (.inr (.inr (.inr 0))), some (.inr (.inr (.inl 0))), some (.inr (.inr (.inl 126))), some (.inl (((6 * k) : Nat) : Int))] [] (mj_Sh, M, N) Q := by
  obtain ⟨v, hP⟩ := pr_91 (d := d - 1) (by omega) hK hG ((K 0).2 ((6 * k) + 1))
  unfold PR at hP
  refine tw_aload k187_868 rfl ?_
  refine tw_aload k187_869 rfl ?_
  refine tw_iload k187_870 rfl ?_
  refine tw_const k187_871 ?_
  refine tw_iadd k187_872 (v := (((6 * k) + 1 : Nat) : Int)) rfl (by omega) ?_
  refine tw_ialdc (j := (6 * k) + 1) (v := ((K 0).2 ((6 * k) + 1))) k187_873 rfl rfl (by omega) rfl ?_
  refine tw_call (by omega) (S' := []) (as := [.inr (.inr (.inl 0)), .inl ((K 0).2 ((6 * k) + 1))]) k187_874 hP rfl rfl rfl rfl rfl (fun r874 Z874 hq874 => ?_)
  obtain ⟨rfl, M1, N1, rfl, hP1⟩ := hq874
  refine tw_as (S := [.inr (.inl v)]) (M := M1) (N := N1) rfl rfl ?_
  refine tw_aload k187_877 rfl ?_
  refine tw_aload k187_878 rfl ?_
  refine tw_iload k187_879 rfl ?_
  refine tw_const k187_880 ?_
  refine tw_iadd k187_881 (v := (((6 * k) + 1 : Nat) : Int)) rfl (by omega) ?_
  refine tw_ialdc (j := (6 * k) + 1) (v := ((K 0).2 ((6 * k) + 1))) k187_882 rfl rfl (by omega) rfl ?_
  refine tw_call (by omega) (S' := [.inr (.inl v)]) (as := [.inr (.inr (.inl 126)), .inl ((K 0).2 ((6 * k) + 1))]) k187_883 hP1 rfl rfl rfl rfl rfl (fun r883 Z883 hq883 => ?_)
  obtain ⟨rfl, M2, N2, rfl, hG2⟩ := hq883
  refine tw_as (S := [.inr (.inl v), .inr (.inl v)]) (M := M2) (N := N2) rfl rfl ?_
  refine tw_lcmp k187_886 ?_
  refine tw_zeqT k187_887 (lq_rf v) ?_
  refine tw_iinc k187_1290 rfl (v := (((6 * k) + 6 : Nat) : Int)) rfl (by omega) rfl (L' := [some (.inr (.inr (.inr 0))), some (.inr (.inr (.inl 0))), some (.inr (.inr (.inl 126))), some (.inl (((6 * k) + 6 : Nat) : Int))]) rfl ?_
  refine tw_goto k187_1293 ?_
  refine tw_eqL (L' := [some (.inr (.inr (.inr 0))), some (.inr (.inr (.inl 0))), some (.inr (.inr (.inl 126))), some (.inl (((6 * (k + 1)) : Nat) : Int))]) (e_c rfl (e_c rfl (e_c rfl (e_c (e_i (by omega)) rfl)))) ?_
  exact ih M2 N2 hG2
theorem lc_23 {K : mj_C} {d : Nat} (hD : 21 ≤ d) (hK : kOk K) (hL : (K 0).1 ≤ 3072) (hr : ∀ j, -2147483648 ≤ (K 0).2 j ∧ (K 0).2 j ≤ 2147483647) {k : Nat} (hk : 6 * k + 6 ≤ (K 0).1) {M : Nat → Nat → Int} {N : Nat → Nat → Int64} (hG : Good M N) {Q : Option mj_V → mj_Z → Prop} (ih : ∀ M N, Good M N → mj_T K d 187 18 [some (.inr (.inr (.inr 0))), some (.inr (.inr (.inl 0))), some (.inr (.inr (.inl 126))), some (.inl (((6 * (k + 1)) : Nat) : Int))] [] (mj_Sh, M, N) Q) : mj_T K d 187 892 [some (.inr (.inr (.inr 0))), some (.inr (.inr (.inl 0))), some (.inr (.inr (.inl 126))), some (.inl (((6 * k) : Nat) : Int))] [] (mj_Sh, M, N) Q := by
  obtain ⟨v, hP⟩ := pr_92 (d := d - 1) (by omega) hK hG ((K 0).2 ((6 * k) + 1)) ((K 0).2 ((6 * k) + 2))
  unfold PR at hP
  refine tw_aload k187_892 rfl ?_
  refine tw_aload k187_893 rfl ?_
  refine tw_iload k187_894 rfl ?_
  refine tw_const k187_895 ?_
  refine tw_iadd k187_896 (v := (((6 * k) + 1 : Nat) : Int)) rfl (by omega) ?_
  refine tw_ialdc (j := (6 * k) + 1) (v := ((K 0).2 ((6 * k) + 1))) k187_897 rfl rfl (by omega) rfl ?_
  refine tw_aload k187_898 rfl ?_
  refine tw_iload k187_899 rfl ?_
  refine tw_const k187_900 ?_
  refine tw_iadd k187_901 (v := (((6 * k) + 2 : Nat) : Int)) rfl (by omega) ?_
  refine tw_ialdc (j := (6 * k) + 2) (v := ((K 0).2 ((6 * k) + 2))) k187_902 rfl rfl (by omega) rfl ?_
  refine tw_call (by omega) (S' := []) (as := [.inr (.inr (.inl 0)), .inl ((K 0).2 ((6 * k) + 1)), .inl ((K 0).2 ((6 * k) + 2))]) k187_903 hP rfl rfl rfl rfl rfl (fun r903 Z903 hq903 => ?_)
  obtain ⟨rfl, M1, N1, rfl, hP1⟩ := hq903
  refine tw_as (S := [.inl v]) (M := M1) (N := N1) rfl rfl ?_
  refine tw_aload k187_906 rfl ?_
  refine tw_aload k187_907 rfl ?_
  refine tw_iload k187_908 rfl ?_
  refine tw_const k187_909 ?_
  refine tw_iadd k187_910 (v := (((6 * k) + 1 : Nat) : Int)) rfl (by omega) ?_
  refine tw_ialdc (j := (6 * k) + 1) (v := ((K 0).2 ((6 * k) + 1))) k187_911 rfl rfl (by omega) rfl ?_
  refine tw_aload k187_912 rfl ?_
  refine tw_iload k187_913 rfl ?_
  refine tw_const k187_914 ?_
  refine tw_iadd k187_915 (v := (((6 * k) + 2 : Nat) : Int)) rfl (by omega) ?_
  refine tw_ialdc (j := (6 * k) + 2) (v := ((K 0).2 ((6 * k) + 2))) k187_916 rfl rfl (by omega) rfl ?_
  refine tw_call (by omega) (S' := [.inl v]) (as := [.inr (.inr (.inl 126)), .inl ((K 0).2 ((6 * k) + 1)), .inl ((K 0).2 ((6 * k) + 2))]) k187_917 hP1 rfl rfl rfl rfl rfl (fun r917 Z917 hq917 => ?_)
  obtain ⟨rfl, M2, N2, rfl, hG2⟩ := hq917
  refine tw_as (S := [.inl v, .inl v]) (M := M2) (N := N2) rfl rfl ?_
  refine tw_ceqT k187_920 rfl ?_
  refine tw_iinc k187_1290 rfl (v := (((6 * k) + 6 : Nat) : Int)) rfl (by omega) rfl (L' := [some (.inr (.inr (.inr 0))), some (.inr (.inr (.inl 0))), some (.inr (.inr (.inl 126))), some (.inl (((6 * k) + 6 : Nat) : Int))]) rfl ?_
  refine tw_goto k187_1293 ?_
  refine tw_eqL (L' := [some (.inr (.inr (.inr 0))), some (.inr (.inr (.inl 0))), some (.inr (.inr (.inl 126))), some (.inl (((6 * (k + 1)) : Nat) : Int))]) (e_c rfl (e_c rfl (e_c rfl (e_c (e_i (by omega)) rfl)))) ?_
  exact ih M2 N2 hG2
theorem lc_24 {K : mj_C} {d : Nat} (hD : 21 ≤ d) (hK : kOk K) (hL : (K 0).1 ≤ 3072) (hr : ∀ j, -2147483648 ≤ (K 0).2 j ∧ (K 0).2 j ≤ 2147483647) {k : Nat} (hk : 6 * k + 6 ≤ (K 0).1) {M : Nat → Nat → Int} {N : Nat → Nat → Int64} (hG : Good M N) {Q : Option mj_V → mj_Z → Prop} (ih : ∀ M N, Good M N → mj_T K d 187 18 [some (.inr (.inr (.inr 0))), some (.inr (.inr (.inl 0))), some (.inr (.inr (.inl 126))), some (.inl (((6 * (k + 1)) : Nat) : Int))] [] (mj_Sh, M, N) Q) : mj_T K d 187 925 [some (.inr (.inr (.inr 0))), some (.inr (.inr (.inl 0))), some (.inr (.inr (.inl 126))), some (.inl (((6 * k) : Nat) : Int))] [] (mj_Sh, M, N) Q := by
  obtain ⟨v, hP⟩ := pr_93 (d := d - 1) (by omega) hK hG ((K 0).2 ((6 * k) + 1))
  unfold PR at hP
  refine tw_aload k187_925 rfl ?_
  refine tw_aload k187_926 rfl ?_
  refine tw_iload k187_927 rfl ?_
  refine tw_const k187_928 ?_
  refine tw_iadd k187_929 (v := (((6 * k) + 1 : Nat) : Int)) rfl (by omega) ?_
  refine tw_ialdc (j := (6 * k) + 1) (v := ((K 0).2 ((6 * k) + 1))) k187_930 rfl rfl (by omega) rfl ?_
  refine tw_call (by omega) (S' := []) (as := [.inr (.inr (.inl 0)), .inl ((K 0).2 ((6 * k) + 1))]) k187_931 hP rfl rfl rfl rfl rfl (fun r931 Z931 hq931 => ?_)
  obtain ⟨rfl, M1, N1, rfl, hP1⟩ := hq931
  refine tw_as (S := [.inr (.inl v)]) (M := M1) (N := N1) rfl rfl ?_
  refine tw_aload k187_934 rfl ?_
  refine tw_aload k187_935 rfl ?_
  refine tw_iload k187_936 rfl ?_
  refine tw_const k187_937 ?_
  refine tw_iadd k187_938 (v := (((6 * k) + 1 : Nat) : Int)) rfl (by omega) ?_
  refine tw_ialdc (j := (6 * k) + 1) (v := ((K 0).2 ((6 * k) + 1))) k187_939 rfl rfl (by omega) rfl ?_
  refine tw_call (by omega) (S' := [.inr (.inl v)]) (as := [.inr (.inr (.inl 126)), .inl ((K 0).2 ((6 * k) + 1))]) k187_940 hP1 rfl rfl rfl rfl rfl (fun r940 Z940 hq940 => ?_)
  obtain ⟨rfl, M2, N2, rfl, hG2⟩ := hq940
  refine tw_as (S := [.inr (.inl v), .inr (.inl v)]) (M := M2) (N := N2) rfl rfl ?_
  refine tw_lcmp k187_943 ?_
  refine tw_zeqT k187_944 (lq_rf v) ?_
  refine tw_iinc k187_1290 rfl (v := (((6 * k) + 6 : Nat) : Int)) rfl (by omega) rfl (L' := [some (.inr (.inr (.inr 0))), some (.inr (.inr (.inl 0))), some (.inr (.inr (.inl 126))), some (.inl (((6 * k) + 6 : Nat) : Int))]) rfl ?_
  refine tw_goto k187_1293 ?_
  refine tw_eqL (L' := [some (.inr (.inr (.inr 0))), some (.inr (.inr (.inl 0))), some (.inr (.inr (.inl 126))), some (.inl (((6 * (k + 1)) : Nat) : Int))]) (e_c rfl (e_c rfl (e_c rfl (e_c (e_i (by omega)) rfl)))) ?_
  exact ih M2 N2 hG2
theorem lc_25 {K : mj_C} {d : Nat} (hD : 21 ≤ d) (hK : kOk K) (hL : (K 0).1 ≤ 3072) (hr : ∀ j, -2147483648 ≤ (K 0).2 j ∧ (K 0).2 j ≤ 2147483647) {k : Nat} (hk : 6 * k + 6 ≤ (K 0).1) {M : Nat → Nat → Int} {N : Nat → Nat → Int64} (hG : Good M N) {Q : Option mj_V → mj_Z → Prop} (ih : ∀ M N, Good M N → mj_T K d 187 18 [some (.inr (.inr (.inr 0))), some (.inr (.inr (.inl 0))), some (.inr (.inr (.inl 126))), some (.inl (((6 * (k + 1)) : Nat) : Int))] [] (mj_Sh, M, N) Q) : mj_T K d 187 949 [some (.inr (.inr (.inr 0))), some (.inr (.inr (.inl 0))), some (.inr (.inr (.inl 126))), some (.inl (((6 * k) : Nat) : Int))] [] (mj_Sh, M, N) Q := by
  obtain ⟨v, hP⟩ := pr_94 (d := d - 1) (by omega) hK hG ((K 0).2 ((6 * k) + 1)) ((K 0).2 ((6 * k) + 2))
  unfold PR at hP
  refine tw_aload k187_949 rfl ?_
  refine tw_aload k187_950 rfl ?_
  refine tw_iload k187_951 rfl ?_
  refine tw_const k187_952 ?_
  refine tw_iadd k187_953 (v := (((6 * k) + 1 : Nat) : Int)) rfl (by omega) ?_
  refine tw_ialdc (j := (6 * k) + 1) (v := ((K 0).2 ((6 * k) + 1))) k187_954 rfl rfl (by omega) rfl ?_
  refine tw_aload k187_955 rfl ?_
  refine tw_iload k187_956 rfl ?_
  refine tw_const k187_957 ?_
  refine tw_iadd k187_958 (v := (((6 * k) + 2 : Nat) : Int)) rfl (by omega) ?_
  refine tw_ialdc (j := (6 * k) + 2) (v := ((K 0).2 ((6 * k) + 2))) k187_959 rfl rfl (by omega) rfl ?_
  refine tw_call (by omega) (S' := []) (as := [.inr (.inr (.inl 0)), .inl ((K 0).2 ((6 * k) + 1)), .inl ((K 0).2 ((6 * k) + 2))]) k187_960 hP rfl rfl rfl rfl rfl (fun r960 Z960 hq960 => ?_)
  obtain ⟨rfl, M1, N1, rfl, hP1⟩ := hq960
  refine tw_as (S := [.inl v]) (M := M1) (N := N1) rfl rfl ?_
  refine tw_aload k187_963 rfl ?_
  refine tw_aload k187_964 rfl ?_
  refine tw_iload k187_965 rfl ?_
  refine tw_const k187_966 ?_
  refine tw_iadd k187_967 (v := (((6 * k) + 1 : Nat) : Int)) rfl (by omega) ?_
  refine tw_ialdc (j := (6 * k) + 1) (v := ((K 0).2 ((6 * k) + 1))) k187_968 rfl rfl (by omega) rfl ?_
  refine tw_aload k187_969 rfl ?_
  refine tw_iload k187_970 rfl ?_
  refine tw_const k187_971 ?_
  refine tw_iadd k187_972 (v := (((6 * k) + 2 : Nat) : Int)) rfl (by omega) ?_
  refine tw_ialdc (j := (6 * k) + 2) (v := ((K 0).2 ((6 * k) + 2))) k187_973 rfl rfl (by omega) rfl ?_
  refine tw_call (by omega) (S' := [.inl v]) (as := [.inr (.inr (.inl 126)), .inl ((K 0).2 ((6 * k) + 1)), .inl ((K 0).2 ((6 * k) + 2))]) k187_974 hP1 rfl rfl rfl rfl rfl (fun r974 Z974 hq974 => ?_)
  obtain ⟨rfl, M2, N2, rfl, hG2⟩ := hq974
  refine tw_as (S := [.inl v, .inl v]) (M := M2) (N := N2) rfl rfl ?_
  refine tw_ceqT k187_977 rfl ?_
  refine tw_iinc k187_1290 rfl (v := (((6 * k) + 6 : Nat) : Int)) rfl (by omega) rfl (L' := [some (.inr (.inr (.inr 0))), some (.inr (.inr (.inl 0))), some (.inr (.inr (.inl 126))), some (.inl (((6 * k) + 6 : Nat) : Int))]) rfl ?_
  refine tw_goto k187_1293 ?_
  refine tw_eqL (L' := [some (.inr (.inr (.inr 0))), some (.inr (.inr (.inl 0))), some (.inr (.inr (.inl 126))), some (.inl (((6 * (k + 1)) : Nat) : Int))]) (e_c rfl (e_c rfl (e_c rfl (e_c (e_i (by omega)) rfl)))) ?_
  exact ih M2 N2 hG2
theorem lc_26 {K : mj_C} {d : Nat} (hD : 21 ≤ d) (hK : kOk K) (hL : (K 0).1 ≤ 3072) (hr : ∀ j, -2147483648 ≤ (K 0).2 j ∧ (K 0).2 j ≤ 2147483647) {k : Nat} (hk : 6 * k + 6 ≤ (K 0).1) {M : Nat → Nat → Int} {N : Nat → Nat → Int64} (hG : Good M N) {Q : Option mj_V → mj_Z → Prop} (ih : ∀ M N, Good M N → mj_T K d 187 18 [some (.inr (.inr (.inr 0))), some (.inr (.inr (.inl 0))), some (.inr (.inr (.inl 126))), some (.inl (((6 * (k + 1)) : Nat) : Int))] [] (mj_Sh, M, N) Q) : mj_T K d 187 982 [some (.inr (.inr (.inr 0))), some (.inr (.inr (.inl 0))), some (.inr (.inr (.inl 126))), some (.inl (((6 * k) : Nat) : Int))] [] (mj_Sh, M, N) Q := by
  obtain ⟨v, hP⟩ := pr_95 (d := d - 1) (by omega) hK hG 
  unfold PR at hP
  refine tw_aload k187_982 rfl ?_
  refine tw_call (by omega) (S' := []) (as := [.inr (.inr (.inl 0))]) k187_983 hP rfl rfl rfl rfl rfl (fun r983 Z983 hq983 => ?_)
  obtain ⟨rfl, M1, N1, rfl, hP1⟩ := hq983
  refine tw_as (S := [.inl v]) (M := M1) (N := N1) rfl rfl ?_
  refine tw_aload k187_986 rfl ?_
  refine tw_call (by omega) (S' := [.inl v]) (as := [.inr (.inr (.inl 126))]) k187_987 hP1 rfl rfl rfl rfl rfl (fun r987 Z987 hq987 => ?_)
  obtain ⟨rfl, M2, N2, rfl, hG2⟩ := hq987
  refine tw_as (S := [.inl v, .inl v]) (M := M2) (N := N2) rfl rfl ?_
  refine tw_ceqT k187_990 rfl ?_
  refine tw_iinc k187_1290 rfl (v := (((6 * k) + 6 : Nat) : Int)) rfl (by omega) rfl (L' := [some (.inr (.inr (.inr 0))), some (.inr (.inr (.inl 0))), some (.inr (.inr (.inl 126))), some (.inl (((6 * k) + 6 : Nat) : Int))]) rfl ?_
  refine tw_goto k187_1293 ?_
  refine tw_eqL (L' := [some (.inr (.inr (.inr 0))), some (.inr (.inr (.inl 0))), some (.inr (.inr (.inl 126))), some (.inl (((6 * (k + 1)) : Nat) : Int))]) (e_c rfl (e_c rfl (e_c rfl (e_c (e_i (by omega)) rfl)))) ?_
  exact ih M2 N2 hG2
theorem lc_27 {K : mj_C} {d : Nat} (hD : 21 ≤ d) (hK : kOk K) (hL : (K 0).1 ≤ 3072) (hr : ∀ j, -2147483648 ≤ (K 0).2 j ∧ (K 0).2 j ≤ 2147483647) {k : Nat} (hk : 6 * k + 6 ≤ (K 0).1) {M : Nat → Nat → Int} {N : Nat → Nat → Int64} (hG : Good M N) {Q : Option mj_V → mj_Z → Prop} (ih : ∀ M N, Good M N → mj_T K d 187 18 [some (.inr (.inr (.inr 0))), some (.inr (.inr (.inl 0))), some (.inr (.inr (.inl 126))), some (.inl (((6 * (k + 1)) : Nat) : Int))] [] (mj_Sh, M, N) Q) : mj_T K d 187 995 [some (.inr (.inr (.inr 0))), some (.inr (.inr (.inl 0))), some (.inr (.inr (.inl 126))), some (.inl (((6 * k) : Nat) : Int))] [] (mj_Sh, M, N) Q := by
  obtain ⟨v, hP⟩ := pr_96 (d := d - 1) (by omega) hK hG ((K 0).2 ((6 * k) + 1)) ((K 0).2 ((6 * k) + 2)) (hr _)
  unfold PR at hP
  refine tw_aload k187_995 rfl ?_
  refine tw_aload k187_996 rfl ?_
  refine tw_iload k187_997 rfl ?_
  refine tw_const k187_998 ?_
  refine tw_iadd k187_999 (v := (((6 * k) + 1 : Nat) : Int)) rfl (by omega) ?_
  refine tw_ialdc (j := (6 * k) + 1) (v := ((K 0).2 ((6 * k) + 1))) k187_1000 rfl rfl (by omega) rfl ?_
  refine tw_aload k187_1001 rfl ?_
  refine tw_iload k187_1002 rfl ?_
  refine tw_const k187_1003 ?_
  refine tw_iadd k187_1004 (v := (((6 * k) + 2 : Nat) : Int)) rfl (by omega) ?_
  refine tw_ialdc (j := (6 * k) + 2) (v := ((K 0).2 ((6 * k) + 2))) k187_1005 rfl rfl (by omega) rfl ?_
  refine tw_call (by omega) (S' := []) (as := [.inr (.inr (.inl 0)), .inl ((K 0).2 ((6 * k) + 1)), .inl ((K 0).2 ((6 * k) + 2))]) k187_1006 hP rfl rfl rfl rfl rfl (fun r1006 Z1006 hq1006 => ?_)
  obtain ⟨rfl, M1, N1, rfl, hP1⟩ := hq1006
  refine tw_as (S := [.inl v]) (M := M1) (N := N1) rfl rfl ?_
  refine tw_aload k187_1009 rfl ?_
  refine tw_aload k187_1010 rfl ?_
  refine tw_iload k187_1011 rfl ?_
  refine tw_const k187_1012 ?_
  refine tw_iadd k187_1013 (v := (((6 * k) + 1 : Nat) : Int)) rfl (by omega) ?_
  refine tw_ialdc (j := (6 * k) + 1) (v := ((K 0).2 ((6 * k) + 1))) k187_1014 rfl rfl (by omega) rfl ?_
  refine tw_aload k187_1015 rfl ?_
  refine tw_iload k187_1016 rfl ?_
  refine tw_const k187_1017 ?_
  refine tw_iadd k187_1018 (v := (((6 * k) + 2 : Nat) : Int)) rfl (by omega) ?_
  refine tw_ialdc (j := (6 * k) + 2) (v := ((K 0).2 ((6 * k) + 2))) k187_1019 rfl rfl (by omega) rfl ?_
  refine tw_call (by omega) (S' := [.inl v]) (as := [.inr (.inr (.inl 126)), .inl ((K 0).2 ((6 * k) + 1)), .inl ((K 0).2 ((6 * k) + 2))]) k187_1020 hP1 rfl rfl rfl rfl rfl (fun r1020 Z1020 hq1020 => ?_)
  obtain ⟨rfl, M2, N2, rfl, hG2⟩ := hq1020
  refine tw_as (S := [.inl v, .inl v]) (M := M2) (N := N2) rfl rfl ?_
  refine tw_ceqT k187_1023 rfl ?_
  refine tw_iinc k187_1290 rfl (v := (((6 * k) + 6 : Nat) : Int)) rfl (by omega) rfl (L' := [some (.inr (.inr (.inr 0))), some (.inr (.inr (.inl 0))), some (.inr (.inr (.inl 126))), some (.inl (((6 * k) + 6 : Nat) : Int))]) rfl ?_
  refine tw_goto k187_1293 ?_
  refine tw_eqL (L' := [some (.inr (.inr (.inr 0))), some (.inr (.inr (.inl 0))), some (.inr (.inr (.inl 126))), some (.inl (((6 * (k + 1)) : Nat) : Int))]) (e_c rfl (e_c rfl (e_c rfl (e_c (e_i (by omega)) rfl)))) ?_
  exact ih M2 N2 hG2
theorem lc_28 {K : mj_C} {d : Nat} (hD : 21 ≤ d) (hK : kOk K) (hL : (K 0).1 ≤ 3072) (hr : ∀ j, -2147483648 ≤ (K 0).2 j ∧ (K 0).2 j ≤ 2147483647) {k : Nat} (hk : 6 * k + 6 ≤ (K 0).1) {M : Nat → Nat → Int} {N : Nat → Nat → Int64} (hG : Good M N) {Q : Option mj_V → mj_Z → Prop} (ih : ∀ M N, Good M N → mj_T K d 187 18 [some (.inr (.inr (.inr 0))), some (.inr (.inr (.inl 0))), some (.inr (.inr (.inl 126))), some (.inl (((6 * (k + 1)) : Nat) : Int))] [] (mj_Sh, M, N) Q) : mj_T K d 187 1028 [some (.inr (.inr (.inr 0))), some (.inr (.inr (.inl 0))), some (.inr (.inr (.inl 126))), some (.inl (((6 * k) : Nat) : Int))] [] (mj_Sh, M, N) Q := by
  obtain ⟨v, hP⟩ := pr_97 (d := d - 1) (by omega) hK hG 
  unfold PR at hP
  refine tw_aload k187_1028 rfl ?_
  refine tw_call (by omega) (S' := []) (as := [.inr (.inr (.inl 0))]) k187_1029 hP rfl rfl rfl rfl rfl (fun r1029 Z1029 hq1029 => ?_)
  obtain ⟨rfl, M1, N1, rfl, hP1⟩ := hq1029
  refine tw_as (S := [.inl v]) (M := M1) (N := N1) rfl rfl ?_
  refine tw_aload k187_1032 rfl ?_
  refine tw_call (by omega) (S' := [.inl v]) (as := [.inr (.inr (.inl 126))]) k187_1033 hP1 rfl rfl rfl rfl rfl (fun r1033 Z1033 hq1033 => ?_)
  obtain ⟨rfl, M2, N2, rfl, hG2⟩ := hq1033
  refine tw_as (S := [.inl v, .inl v]) (M := M2) (N := N2) rfl rfl ?_
  refine tw_ceqT k187_1036 rfl ?_
  refine tw_iinc k187_1290 rfl (v := (((6 * k) + 6 : Nat) : Int)) rfl (by omega) rfl (L' := [some (.inr (.inr (.inr 0))), some (.inr (.inr (.inl 0))), some (.inr (.inr (.inl 126))), some (.inl (((6 * k) + 6 : Nat) : Int))]) rfl ?_
  refine tw_goto k187_1293 ?_
  refine tw_eqL (L' := [some (.inr (.inr (.inr 0))), some (.inr (.inr (.inl 0))), some (.inr (.inr (.inl 126))), some (.inl (((6 * (k + 1)) : Nat) : Int))]) (e_c rfl (e_c rfl (e_c rfl (e_c (e_i (by omega)) rfl)))) ?_
  exact ih M2 N2 hG2
theorem lc_29 {K : mj_C} {d : Nat} (hD : 21 ≤ d) (hK : kOk K) (hL : (K 0).1 ≤ 3072) (hr : ∀ j, -2147483648 ≤ (K 0).2 j ∧ (K 0).2 j ≤ 2147483647) {k : Nat} (hk : 6 * k + 6 ≤ (K 0).1) {M : Nat → Nat → Int} {N : Nat → Nat → Int64} (hG : Good M N) {Q : Option mj_V → mj_Z → Prop} (ih : ∀ M N, Good M N → mj_T K d 187 18 [some (.inr (.inr (.inr 0))), some (.inr (.inr (.inl 0))), some (.inr (.inr (.inl 126))), some (.inl (((6 * (k + 1)) : Nat) : Int))] [] (mj_Sh, M, N) Q) : mj_T K d 187 1041 [some (.inr (.inr (.inr 0))), some (.inr (.inr (.inl 0))), some (.inr (.inr (.inl 126))), some (.inl (((6 * k) : Nat) : Int))] [] (mj_Sh, M, N) Q := by
  obtain ⟨v, hP⟩ := pr_98 (d := d - 1) (by omega) hK hG 
  unfold PR at hP
  refine tw_aload k187_1041 rfl ?_
  refine tw_call (by omega) (S' := []) (as := [.inr (.inr (.inl 0))]) k187_1042 hP rfl rfl rfl rfl rfl (fun r1042 Z1042 hq1042 => ?_)
  obtain ⟨rfl, M1, N1, rfl, hP1⟩ := hq1042
  refine tw_as (S := [.inl v]) (M := M1) (N := N1) rfl rfl ?_
  refine tw_aload k187_1045 rfl ?_
  refine tw_call (by omega) (S' := [.inl v]) (as := [.inr (.inr (.inl 126))]) k187_1046 hP1 rfl rfl rfl rfl rfl (fun r1046 Z1046 hq1046 => ?_)
  obtain ⟨rfl, M2, N2, rfl, hG2⟩ := hq1046
  refine tw_as (S := [.inl v, .inl v]) (M := M2) (N := N2) rfl rfl ?_
  refine tw_ceqT k187_1049 rfl ?_
  refine tw_iinc k187_1290 rfl (v := (((6 * k) + 6 : Nat) : Int)) rfl (by omega) rfl (L' := [some (.inr (.inr (.inr 0))), some (.inr (.inr (.inl 0))), some (.inr (.inr (.inl 126))), some (.inl (((6 * k) + 6 : Nat) : Int))]) rfl ?_
  refine tw_goto k187_1293 ?_
  refine tw_eqL (L' := [some (.inr (.inr (.inr 0))), some (.inr (.inr (.inl 0))), some (.inr (.inr (.inl 126))), some (.inl (((6 * (k + 1)) : Nat) : Int))]) (e_c rfl (e_c rfl (e_c rfl (e_c (e_i (by omega)) rfl)))) ?_
  exact ih M2 N2 hG2
theorem lc_30 {K : mj_C} {d : Nat} (hD : 21 ≤ d) (hK : kOk K) (hL : (K 0).1 ≤ 3072) (hr : ∀ j, -2147483648 ≤ (K 0).2 j ∧ (K 0).2 j ≤ 2147483647) {k : Nat} (hk : 6 * k + 6 ≤ (K 0).1) {M : Nat → Nat → Int} {N : Nat → Nat → Int64} (hG : Good M N) {Q : Option mj_V → mj_Z → Prop} (ih : ∀ M N, Good M N → mj_T K d 187 18 [some (.inr (.inr (.inr 0))), some (.inr (.inr (.inl 0))), some (.inr (.inr (.inl 126))), some (.inl (((6 * (k + 1)) : Nat) : Int))] [] (mj_Sh, M, N) Q) : mj_T K d 187 1054 [some (.inr (.inr (.inr 0))), some (.inr (.inr (.inl 0))), some (.inr (.inr (.inl 126))), some (.inl (((6 * k) : Nat) : Int))] [] (mj_Sh, M, N) Q := by
  obtain ⟨v, hP⟩ := pr_99 (d := d - 1) (by omega) hK hG ((K 0).2 ((6 * k) + 1))
  unfold PR at hP
  refine tw_aload k187_1054 rfl ?_
  refine tw_aload k187_1055 rfl ?_
  refine tw_iload k187_1056 rfl ?_
  refine tw_const k187_1057 ?_
  refine tw_iadd k187_1058 (v := (((6 * k) + 1 : Nat) : Int)) rfl (by omega) ?_
  refine tw_ialdc (j := (6 * k) + 1) (v := ((K 0).2 ((6 * k) + 1))) k187_1059 rfl rfl (by omega) rfl ?_
  refine tw_call (by omega) (S' := []) (as := [.inr (.inr (.inl 0)), .inl ((K 0).2 ((6 * k) + 1))]) k187_1060 hP rfl rfl rfl rfl rfl (fun r1060 Z1060 hq1060 => ?_)
  obtain ⟨rfl, M1, N1, rfl, hP1⟩ := hq1060
  refine tw_as (S := [.inl v]) (M := M1) (N := N1) rfl rfl ?_
  refine tw_aload k187_1063 rfl ?_
  refine tw_aload k187_1064 rfl ?_
  refine tw_iload k187_1065 rfl ?_
  refine tw_const k187_1066 ?_
  refine tw_iadd k187_1067 (v := (((6 * k) + 1 : Nat) : Int)) rfl (by omega) ?_
  refine tw_ialdc (j := (6 * k) + 1) (v := ((K 0).2 ((6 * k) + 1))) k187_1068 rfl rfl (by omega) rfl ?_
  refine tw_call (by omega) (S' := [.inl v]) (as := [.inr (.inr (.inl 126)), .inl ((K 0).2 ((6 * k) + 1))]) k187_1069 hP1 rfl rfl rfl rfl rfl (fun r1069 Z1069 hq1069 => ?_)
  obtain ⟨rfl, M2, N2, rfl, hG2⟩ := hq1069
  refine tw_as (S := [.inl v, .inl v]) (M := M2) (N := N2) rfl rfl ?_
  refine tw_ceqT k187_1072 rfl ?_
  refine tw_iinc k187_1290 rfl (v := (((6 * k) + 6 : Nat) : Int)) rfl (by omega) rfl (L' := [some (.inr (.inr (.inr 0))), some (.inr (.inr (.inl 0))), some (.inr (.inr (.inl 126))), some (.inl (((6 * k) + 6 : Nat) : Int))]) rfl ?_
  refine tw_goto k187_1293 ?_
  refine tw_eqL (L' := [some (.inr (.inr (.inr 0))), some (.inr (.inr (.inl 0))), some (.inr (.inr (.inl 126))), some (.inl (((6 * (k + 1)) : Nat) : Int))]) (e_c rfl (e_c rfl (e_c rfl (e_c (e_i (by omega)) rfl)))) ?_
  exact ih M2 N2 hG2
theorem lc_31 {K : mj_C} {d : Nat} (hD : 21 ≤ d) (hK : kOk K) (hL : (K 0).1 ≤ 3072) (hr : ∀ j, -2147483648 ≤ (K 0).2 j ∧ (K 0).2 j ≤ 2147483647) {k : Nat} (hk : 6 * k + 6 ≤ (K 0).1) {M : Nat → Nat → Int} {N : Nat → Nat → Int64} (hG : Good M N) {Q : Option mj_V → mj_Z → Prop} (ih : ∀ M N, Good M N → mj_T K d 187 18 [some (.inr (.inr (.inr 0))), some (.inr (.inr (.inl 0))), some (.inr (.inr (.inl 126))), some (.inl (((6 * (k + 1)) : Nat) : Int))] [] (mj_Sh, M, N) Q) : mj_T K d 187 1077 [some (.inr (.inr (.inr 0))), some (.inr (.inr (.inl 0))), some (.inr (.inr (.inl 126))), some (.inl (((6 * k) : Nat) : Int))] [] (mj_Sh, M, N) Q := by
  obtain ⟨v, hP⟩ := pr_100 (d := d - 1) (by omega) hK hG ((K 0).2 ((6 * k) + 1)) ((K 0).2 ((6 * k) + 2)) ((K 0).2 ((6 * k) + 3))
  unfold PR at hP
  refine tw_aload k187_1077 rfl ?_
  refine tw_aload k187_1078 rfl ?_
  refine tw_iload k187_1079 rfl ?_
  refine tw_const k187_1080 ?_
  refine tw_iadd k187_1081 (v := (((6 * k) + 1 : Nat) : Int)) rfl (by omega) ?_
  refine tw_ialdc (j := (6 * k) + 1) (v := ((K 0).2 ((6 * k) + 1))) k187_1082 rfl rfl (by omega) rfl ?_
  refine tw_aload k187_1083 rfl ?_
  refine tw_iload k187_1084 rfl ?_
  refine tw_const k187_1085 ?_
  refine tw_iadd k187_1086 (v := (((6 * k) + 2 : Nat) : Int)) rfl (by omega) ?_
  refine tw_ialdc (j := (6 * k) + 2) (v := ((K 0).2 ((6 * k) + 2))) k187_1087 rfl rfl (by omega) rfl ?_
  refine tw_aload k187_1088 rfl ?_
  refine tw_iload k187_1089 rfl ?_
  refine tw_const k187_1090 ?_
  refine tw_iadd k187_1091 (v := (((6 * k) + 3 : Nat) : Int)) rfl (by omega) ?_
  refine tw_ialdc (j := (6 * k) + 3) (v := ((K 0).2 ((6 * k) + 3))) k187_1092 rfl rfl (by omega) rfl ?_
  refine tw_call (by omega) (S' := []) (as := [.inr (.inr (.inl 0)), .inl ((K 0).2 ((6 * k) + 1)), .inl ((K 0).2 ((6 * k) + 2)), .inl ((K 0).2 ((6 * k) + 3))]) k187_1093 hP rfl rfl rfl rfl rfl (fun r1093 Z1093 hq1093 => ?_)
  obtain ⟨rfl, M1, N1, rfl, hP1⟩ := hq1093
  refine tw_as (S := [.inl v]) (M := M1) (N := N1) rfl rfl ?_
  refine tw_aload k187_1096 rfl ?_
  refine tw_aload k187_1097 rfl ?_
  refine tw_iload k187_1098 rfl ?_
  refine tw_const k187_1099 ?_
  refine tw_iadd k187_1100 (v := (((6 * k) + 1 : Nat) : Int)) rfl (by omega) ?_
  refine tw_ialdc (j := (6 * k) + 1) (v := ((K 0).2 ((6 * k) + 1))) k187_1101 rfl rfl (by omega) rfl ?_
  refine tw_aload k187_1102 rfl ?_
  refine tw_iload k187_1103 rfl ?_
  refine tw_const k187_1104 ?_
  refine tw_iadd k187_1105 (v := (((6 * k) + 2 : Nat) : Int)) rfl (by omega) ?_
  refine tw_ialdc (j := (6 * k) + 2) (v := ((K 0).2 ((6 * k) + 2))) k187_1106 rfl rfl (by omega) rfl ?_
  refine tw_aload k187_1107 rfl ?_
  refine tw_iload k187_1108 rfl ?_
  refine tw_const k187_1109 ?_
  refine tw_iadd k187_1110 (v := (((6 * k) + 3 : Nat) : Int)) rfl (by omega) ?_
  refine tw_ialdc (j := (6 * k) + 3) (v := ((K 0).2 ((6 * k) + 3))) k187_1111 rfl rfl (by omega) rfl ?_
  refine tw_call (by omega) (S' := [.inl v]) (as := [.inr (.inr (.inl 126)), .inl ((K 0).2 ((6 * k) + 1)), .inl ((K 0).2 ((6 * k) + 2)), .inl ((K 0).2 ((6 * k) + 3))]) k187_1112 hP1 rfl rfl rfl rfl rfl (fun r1112 Z1112 hq1112 => ?_)
  obtain ⟨rfl, M2, N2, rfl, hG2⟩ := hq1112
  refine tw_as (S := [.inl v, .inl v]) (M := M2) (N := N2) rfl rfl ?_
  refine tw_ceqT k187_1115 rfl ?_
  refine tw_iinc k187_1290 rfl (v := (((6 * k) + 6 : Nat) : Int)) rfl (by omega) rfl (L' := [some (.inr (.inr (.inr 0))), some (.inr (.inr (.inl 0))), some (.inr (.inr (.inl 126))), some (.inl (((6 * k) + 6 : Nat) : Int))]) rfl ?_
  refine tw_goto k187_1293 ?_
  refine tw_eqL (L' := [some (.inr (.inr (.inr 0))), some (.inr (.inr (.inl 0))), some (.inr (.inr (.inl 126))), some (.inl (((6 * (k + 1)) : Nat) : Int))]) (e_c rfl (e_c rfl (e_c rfl (e_c (e_i (by omega)) rfl)))) ?_
  exact ih M2 N2 hG2
theorem lc_32 {K : mj_C} {d : Nat} (hD : 21 ≤ d) (hK : kOk K) (hL : (K 0).1 ≤ 3072) (hr : ∀ j, -2147483648 ≤ (K 0).2 j ∧ (K 0).2 j ≤ 2147483647) {k : Nat} (hk : 6 * k + 6 ≤ (K 0).1) {M : Nat → Nat → Int} {N : Nat → Nat → Int64} (hG : Good M N) {Q : Option mj_V → mj_Z → Prop} (ih : ∀ M N, Good M N → mj_T K d 187 18 [some (.inr (.inr (.inr 0))), some (.inr (.inr (.inl 0))), some (.inr (.inr (.inl 126))), some (.inl (((6 * (k + 1)) : Nat) : Int))] [] (mj_Sh, M, N) Q) : mj_T K d 187 1120 [some (.inr (.inr (.inr 0))), some (.inr (.inr (.inl 0))), some (.inr (.inr (.inl 126))), some (.inl (((6 * k) : Nat) : Int))] [] (mj_Sh, M, N) Q := by
  obtain ⟨v, hP⟩ := pr_101 (d := d - 1) (by omega) hK hG ((K 0).2 ((6 * k) + 1)) ((K 0).2 ((6 * k) + 2)) ((((Int32.ofInt ((K 0).2 ((6 * k) + 3))).toInt64) <<< ((Int32.ofInt (32 : Int)).toInt64 &&& 63)) ||| (((Int32.ofInt ((K 0).2 ((6 * k) + 4))).toInt64) &&& (Int64.ofInt 4294967295)))
  unfold PR at hP
  refine tw_aload k187_1120 rfl ?_
  refine tw_aload k187_1121 rfl ?_
  refine tw_iload k187_1122 rfl ?_
  refine tw_const k187_1123 ?_
  refine tw_iadd k187_1124 (v := (((6 * k) + 1 : Nat) : Int)) rfl (by omega) ?_
  refine tw_ialdc (j := (6 * k) + 1) (v := ((K 0).2 ((6 * k) + 1))) k187_1125 rfl rfl (by omega) rfl ?_
  refine tw_aload k187_1126 rfl ?_
  refine tw_iload k187_1127 rfl ?_
  refine tw_const k187_1128 ?_
  refine tw_iadd k187_1129 (v := (((6 * k) + 2 : Nat) : Int)) rfl (by omega) ?_
  refine tw_ialdc (j := (6 * k) + 2) (v := ((K 0).2 ((6 * k) + 2))) k187_1130 rfl rfl (by omega) rfl ?_
  refine tw_aload k187_1131 rfl ?_
  refine tw_iload k187_1132 rfl ?_
  refine tw_const k187_1133 ?_
  refine tw_iadd k187_1134 (v := (((6 * k) + 3 : Nat) : Int)) rfl (by omega) ?_
  refine tw_ialdc (j := (6 * k) + 3) (v := ((K 0).2 ((6 * k) + 3))) k187_1135 rfl rfl (by omega) rfl ?_
  refine tw_i2l k187_1136 ?_
  refine tw_const k187_1137 ?_
  refine tw_lshl k187_1139 ?_
  refine tw_aload k187_1140 rfl ?_
  refine tw_iload k187_1141 rfl ?_
  refine tw_const k187_1142 ?_
  refine tw_iadd k187_1143 (v := (((6 * k) + 4 : Nat) : Int)) rfl (by omega) ?_
  refine tw_ialdc (j := (6 * k) + 4) (v := ((K 0).2 ((6 * k) + 4))) k187_1144 rfl rfl (by omega) rfl ?_
  refine tw_i2l k187_1145 ?_
  refine tw_lconst k187_1146 ?_
  refine tw_land k187_1149 ?_
  refine tw_lor k187_1150 ?_
  refine tw_call (by omega) (S' := []) (as := [.inr (.inr (.inl 0)), .inl ((K 0).2 ((6 * k) + 1)), .inl ((K 0).2 ((6 * k) + 2)), .inr (.inl ((((Int32.ofInt ((K 0).2 ((6 * k) + 3))).toInt64) <<< ((Int32.ofInt (32 : Int)).toInt64 &&& 63)) ||| (((Int32.ofInt ((K 0).2 ((6 * k) + 4))).toInt64) &&& (Int64.ofInt 4294967295))))]) k187_1151 hP rfl rfl rfl rfl rfl (fun r1151 Z1151 hq1151 => ?_)
  obtain ⟨rfl, M1, N1, rfl, hP1⟩ := hq1151
  refine tw_as (S := [.inl v]) (M := M1) (N := N1) rfl rfl ?_
  refine tw_aload k187_1154 rfl ?_
  refine tw_aload k187_1155 rfl ?_
  refine tw_iload k187_1156 rfl ?_
  refine tw_const k187_1157 ?_
  refine tw_iadd k187_1158 (v := (((6 * k) + 1 : Nat) : Int)) rfl (by omega) ?_
  refine tw_ialdc (j := (6 * k) + 1) (v := ((K 0).2 ((6 * k) + 1))) k187_1159 rfl rfl (by omega) rfl ?_
  refine tw_aload k187_1160 rfl ?_
  refine tw_iload k187_1161 rfl ?_
  refine tw_const k187_1162 ?_
  refine tw_iadd k187_1163 (v := (((6 * k) + 2 : Nat) : Int)) rfl (by omega) ?_
  refine tw_ialdc (j := (6 * k) + 2) (v := ((K 0).2 ((6 * k) + 2))) k187_1164 rfl rfl (by omega) rfl ?_
  refine tw_aload k187_1165 rfl ?_
  refine tw_iload k187_1166 rfl ?_
  refine tw_const k187_1167 ?_
  refine tw_iadd k187_1168 (v := (((6 * k) + 3 : Nat) : Int)) rfl (by omega) ?_
  refine tw_ialdc (j := (6 * k) + 3) (v := ((K 0).2 ((6 * k) + 3))) k187_1169 rfl rfl (by omega) rfl ?_
  refine tw_i2l k187_1170 ?_
  refine tw_const k187_1171 ?_
  refine tw_lshl k187_1173 ?_
  refine tw_aload k187_1174 rfl ?_
  refine tw_iload k187_1175 rfl ?_
  refine tw_const k187_1176 ?_
  refine tw_iadd k187_1177 (v := (((6 * k) + 4 : Nat) : Int)) rfl (by omega) ?_
  refine tw_ialdc (j := (6 * k) + 4) (v := ((K 0).2 ((6 * k) + 4))) k187_1178 rfl rfl (by omega) rfl ?_
  refine tw_i2l k187_1179 ?_
  refine tw_lconst k187_1180 ?_
  refine tw_land k187_1183 ?_
  refine tw_lor k187_1184 ?_
  refine tw_call (by omega) (S' := [.inl v]) (as := [.inr (.inr (.inl 126)), .inl ((K 0).2 ((6 * k) + 1)), .inl ((K 0).2 ((6 * k) + 2)), .inr (.inl ((((Int32.ofInt ((K 0).2 ((6 * k) + 3))).toInt64) <<< ((Int32.ofInt (32 : Int)).toInt64 &&& 63)) ||| (((Int32.ofInt ((K 0).2 ((6 * k) + 4))).toInt64) &&& (Int64.ofInt 4294967295))))]) k187_1185 hP1 rfl rfl rfl rfl rfl (fun r1185 Z1185 hq1185 => ?_)
  obtain ⟨rfl, M2, N2, rfl, hG2⟩ := hq1185
  refine tw_as (S := [.inl v, .inl v]) (M := M2) (N := N2) rfl rfl ?_
  refine tw_ceqT k187_1188 rfl ?_
  refine tw_iinc k187_1290 rfl (v := (((6 * k) + 6 : Nat) : Int)) rfl (by omega) rfl (L' := [some (.inr (.inr (.inr 0))), some (.inr (.inr (.inl 0))), some (.inr (.inr (.inl 126))), some (.inl (((6 * k) + 6 : Nat) : Int))]) rfl ?_
  refine tw_goto k187_1293 ?_
  refine tw_eqL (L' := [some (.inr (.inr (.inr 0))), some (.inr (.inr (.inl 0))), some (.inr (.inr (.inl 126))), some (.inl (((6 * (k + 1)) : Nat) : Int))]) (e_c rfl (e_c rfl (e_c rfl (e_c (e_i (by omega)) rfl)))) ?_
  exact ih M2 N2 hG2
theorem lc_33 {K : mj_C} {d : Nat} (hD : 21 ≤ d) (hK : kOk K) (hL : (K 0).1 ≤ 3072) (hr : ∀ j, -2147483648 ≤ (K 0).2 j ∧ (K 0).2 j ≤ 2147483647) {k : Nat} (hk : 6 * k + 6 ≤ (K 0).1) {M : Nat → Nat → Int} {N : Nat → Nat → Int64} (hG : Good M N) {Q : Option mj_V → mj_Z → Prop} (ih : ∀ M N, Good M N → mj_T K d 187 18 [some (.inr (.inr (.inr 0))), some (.inr (.inr (.inl 0))), some (.inr (.inr (.inl 126))), some (.inl (((6 * (k + 1)) : Nat) : Int))] [] (mj_Sh, M, N) Q) : mj_T K d 187 1193 [some (.inr (.inr (.inr 0))), some (.inr (.inr (.inl 0))), some (.inr (.inr (.inl 126))), some (.inl (((6 * k) : Nat) : Int))] [] (mj_Sh, M, N) Q := by
  obtain ⟨v, hP⟩ := pr_102 (d := d - 1) (by omega) hK hG ((K 0).2 ((6 * k) + 1)) ((K 0).2 ((6 * k) + 2))
  unfold PR at hP
  refine tw_aload k187_1193 rfl ?_
  refine tw_aload k187_1194 rfl ?_
  refine tw_iload k187_1195 rfl ?_
  refine tw_const k187_1196 ?_
  refine tw_iadd k187_1197 (v := (((6 * k) + 1 : Nat) : Int)) rfl (by omega) ?_
  refine tw_ialdc (j := (6 * k) + 1) (v := ((K 0).2 ((6 * k) + 1))) k187_1198 rfl rfl (by omega) rfl ?_
  refine tw_aload k187_1199 rfl ?_
  refine tw_iload k187_1200 rfl ?_
  refine tw_const k187_1201 ?_
  refine tw_iadd k187_1202 (v := (((6 * k) + 2 : Nat) : Int)) rfl (by omega) ?_
  refine tw_ialdc (j := (6 * k) + 2) (v := ((K 0).2 ((6 * k) + 2))) k187_1203 rfl rfl (by omega) rfl ?_
  refine tw_call (by omega) (S' := []) (as := [.inr (.inr (.inl 0)), .inl ((K 0).2 ((6 * k) + 1)), .inl ((K 0).2 ((6 * k) + 2))]) k187_1204 hP rfl rfl rfl rfl rfl (fun r1204 Z1204 hq1204 => ?_)
  obtain ⟨rfl, M1, N1, rfl, hP1⟩ := hq1204
  refine tw_as (S := [.inr (.inl v)]) (M := M1) (N := N1) rfl rfl ?_
  refine tw_aload k187_1207 rfl ?_
  refine tw_aload k187_1208 rfl ?_
  refine tw_iload k187_1209 rfl ?_
  refine tw_const k187_1210 ?_
  refine tw_iadd k187_1211 (v := (((6 * k) + 1 : Nat) : Int)) rfl (by omega) ?_
  refine tw_ialdc (j := (6 * k) + 1) (v := ((K 0).2 ((6 * k) + 1))) k187_1212 rfl rfl (by omega) rfl ?_
  refine tw_aload k187_1213 rfl ?_
  refine tw_iload k187_1214 rfl ?_
  refine tw_const k187_1215 ?_
  refine tw_iadd k187_1216 (v := (((6 * k) + 2 : Nat) : Int)) rfl (by omega) ?_
  refine tw_ialdc (j := (6 * k) + 2) (v := ((K 0).2 ((6 * k) + 2))) k187_1217 rfl rfl (by omega) rfl ?_
  refine tw_call (by omega) (S' := [.inr (.inl v)]) (as := [.inr (.inr (.inl 126)), .inl ((K 0).2 ((6 * k) + 1)), .inl ((K 0).2 ((6 * k) + 2))]) k187_1218 hP1 rfl rfl rfl rfl rfl (fun r1218 Z1218 hq1218 => ?_)
  obtain ⟨rfl, M2, N2, rfl, hG2⟩ := hq1218
  refine tw_as (S := [.inr (.inl v), .inr (.inl v)]) (M := M2) (N := N2) rfl rfl ?_
  refine tw_lcmp k187_1221 ?_
  refine tw_zeqT k187_1222 (lq_rf v) ?_
  refine tw_iinc k187_1290 rfl (v := (((6 * k) + 6 : Nat) : Int)) rfl (by omega) rfl (L' := [some (.inr (.inr (.inr 0))), some (.inr (.inr (.inl 0))), some (.inr (.inr (.inl 126))), some (.inl (((6 * k) + 6 : Nat) : Int))]) rfl ?_
  refine tw_goto k187_1293 ?_
  refine tw_eqL (L' := [some (.inr (.inr (.inr 0))), some (.inr (.inr (.inl 0))), some (.inr (.inr (.inl 126))), some (.inl (((6 * (k + 1)) : Nat) : Int))]) (e_c rfl (e_c rfl (e_c rfl (e_c (e_i (by omega)) rfl)))) ?_
  exact ih M2 N2 hG2
theorem lc_34 {K : mj_C} {d : Nat} (hD : 21 ≤ d) (hK : kOk K) (hL : (K 0).1 ≤ 3072) (hr : ∀ j, -2147483648 ≤ (K 0).2 j ∧ (K 0).2 j ≤ 2147483647) {k : Nat} (hk : 6 * k + 6 ≤ (K 0).1) {M : Nat → Nat → Int} {N : Nat → Nat → Int64} (hG : Good M N) {Q : Option mj_V → mj_Z → Prop} (ih : ∀ M N, Good M N → mj_T K d 187 18 [some (.inr (.inr (.inr 0))), some (.inr (.inr (.inl 0))), some (.inr (.inr (.inl 126))), some (.inl (((6 * (k + 1)) : Nat) : Int))] [] (mj_Sh, M, N) Q) : mj_T K d 187 1227 [some (.inr (.inr (.inr 0))), some (.inr (.inr (.inl 0))), some (.inr (.inr (.inl 126))), some (.inl (((6 * k) : Nat) : Int))] [] (mj_Sh, M, N) Q := by
  obtain ⟨v, hP⟩ := pr_103 (d := d - 1) (by omega) hK hG ((K 0).2 ((6 * k) + 1)) ((K 0).2 ((6 * k) + 2)) ((K 0).2 ((6 * k) + 3)) ((K 0).2 ((6 * k) + 4)) ((K 0).2 ((6 * k) + 5)) (hr _) (hr _)
  unfold PR at hP
  refine tw_aload k187_1227 rfl ?_
  refine tw_aload k187_1228 rfl ?_
  refine tw_iload k187_1229 rfl ?_
  refine tw_const k187_1230 ?_
  refine tw_iadd k187_1231 (v := (((6 * k) + 1 : Nat) : Int)) rfl (by omega) ?_
  refine tw_ialdc (j := (6 * k) + 1) (v := ((K 0).2 ((6 * k) + 1))) k187_1232 rfl rfl (by omega) rfl ?_
  refine tw_aload k187_1233 rfl ?_
  refine tw_iload k187_1234 rfl ?_
  refine tw_const k187_1235 ?_
  refine tw_iadd k187_1236 (v := (((6 * k) + 2 : Nat) : Int)) rfl (by omega) ?_
  refine tw_ialdc (j := (6 * k) + 2) (v := ((K 0).2 ((6 * k) + 2))) k187_1237 rfl rfl (by omega) rfl ?_
  refine tw_aload k187_1238 rfl ?_
  refine tw_iload k187_1239 rfl ?_
  refine tw_const k187_1240 ?_
  refine tw_iadd k187_1241 (v := (((6 * k) + 3 : Nat) : Int)) rfl (by omega) ?_
  refine tw_ialdc (j := (6 * k) + 3) (v := ((K 0).2 ((6 * k) + 3))) k187_1242 rfl rfl (by omega) rfl ?_
  refine tw_aload k187_1243 rfl ?_
  refine tw_iload k187_1244 rfl ?_
  refine tw_const k187_1245 ?_
  refine tw_iadd k187_1246 (v := (((6 * k) + 4 : Nat) : Int)) rfl (by omega) ?_
  refine tw_ialdc (j := (6 * k) + 4) (v := ((K 0).2 ((6 * k) + 4))) k187_1247 rfl rfl (by omega) rfl ?_
  refine tw_aload k187_1248 rfl ?_
  refine tw_iload k187_1249 rfl ?_
  refine tw_const k187_1250 ?_
  refine tw_iadd k187_1251 (v := (((6 * k) + 5 : Nat) : Int)) rfl (by omega) ?_
  refine tw_ialdc (j := (6 * k) + 5) (v := ((K 0).2 ((6 * k) + 5))) k187_1252 rfl rfl (by omega) rfl ?_
  refine tw_call (by omega) (S' := []) (as := [.inr (.inr (.inl 0)), .inl ((K 0).2 ((6 * k) + 1)), .inl ((K 0).2 ((6 * k) + 2)), .inl ((K 0).2 ((6 * k) + 3)), .inl ((K 0).2 ((6 * k) + 4)), .inl ((K 0).2 ((6 * k) + 5))]) k187_1253 hP rfl rfl rfl rfl rfl (fun r1253 Z1253 hq1253 => ?_)
  obtain ⟨rfl, M1, N1, rfl, hP1⟩ := hq1253
  refine tw_as (S := [.inl v]) (M := M1) (N := N1) rfl rfl ?_
  refine tw_aload k187_1256 rfl ?_
  refine tw_aload k187_1257 rfl ?_
  refine tw_iload k187_1258 rfl ?_
  refine tw_const k187_1259 ?_
  refine tw_iadd k187_1260 (v := (((6 * k) + 1 : Nat) : Int)) rfl (by omega) ?_
  refine tw_ialdc (j := (6 * k) + 1) (v := ((K 0).2 ((6 * k) + 1))) k187_1261 rfl rfl (by omega) rfl ?_
  refine tw_aload k187_1262 rfl ?_
  refine tw_iload k187_1263 rfl ?_
  refine tw_const k187_1264 ?_
  refine tw_iadd k187_1265 (v := (((6 * k) + 2 : Nat) : Int)) rfl (by omega) ?_
  refine tw_ialdc (j := (6 * k) + 2) (v := ((K 0).2 ((6 * k) + 2))) k187_1266 rfl rfl (by omega) rfl ?_
  refine tw_aload k187_1267 rfl ?_
  refine tw_iload k187_1268 rfl ?_
  refine tw_const k187_1269 ?_
  refine tw_iadd k187_1270 (v := (((6 * k) + 3 : Nat) : Int)) rfl (by omega) ?_
  refine tw_ialdc (j := (6 * k) + 3) (v := ((K 0).2 ((6 * k) + 3))) k187_1271 rfl rfl (by omega) rfl ?_
  refine tw_aload k187_1272 rfl ?_
  refine tw_iload k187_1273 rfl ?_
  refine tw_const k187_1274 ?_
  refine tw_iadd k187_1275 (v := (((6 * k) + 4 : Nat) : Int)) rfl (by omega) ?_
  refine tw_ialdc (j := (6 * k) + 4) (v := ((K 0).2 ((6 * k) + 4))) k187_1276 rfl rfl (by omega) rfl ?_
  refine tw_aload k187_1277 rfl ?_
  refine tw_iload k187_1278 rfl ?_
  refine tw_const k187_1279 ?_
  refine tw_iadd k187_1280 (v := (((6 * k) + 5 : Nat) : Int)) rfl (by omega) ?_
  refine tw_ialdc (j := (6 * k) + 5) (v := ((K 0).2 ((6 * k) + 5))) k187_1281 rfl rfl (by omega) rfl ?_
  refine tw_call (by omega) (S' := [.inl v]) (as := [.inr (.inr (.inl 126)), .inl ((K 0).2 ((6 * k) + 1)), .inl ((K 0).2 ((6 * k) + 2)), .inl ((K 0).2 ((6 * k) + 3)), .inl ((K 0).2 ((6 * k) + 4)), .inl ((K 0).2 ((6 * k) + 5))]) k187_1282 hP1 rfl rfl rfl rfl rfl (fun r1282 Z1282 hq1282 => ?_)
  obtain ⟨rfl, M2, N2, rfl, hG2⟩ := hq1282
  refine tw_as (S := [.inl v, .inl v]) (M := M2) (N := N2) rfl rfl ?_
  refine tw_ceqT k187_1285 rfl ?_
  refine tw_iinc k187_1290 rfl (v := (((6 * k) + 6 : Nat) : Int)) rfl (by omega) rfl (L' := [some (.inr (.inr (.inr 0))), some (.inr (.inr (.inl 0))), some (.inr (.inr (.inl 126))), some (.inl (((6 * k) + 6 : Nat) : Int))]) rfl ?_
  refine tw_goto k187_1293 ?_
  refine tw_eqL (L' := [some (.inr (.inr (.inr 0))), some (.inr (.inr (.inl 0))), some (.inr (.inr (.inl 126))), some (.inl (((6 * (k + 1)) : Nat) : Int))]) (e_c rfl (e_c rfl (e_c rfl (e_c (e_i (by omega)) rfl)))) ?_
  exact ih M2 N2 hG2
