/-! ===== the law's walk: its cases ===== -/
section LCS
variable {E : Ev} {M : Mc} {nm : String} {b h g i Ln : Nat} {xs : Nat → Int32}
theorem cs_leg : Cs E M nm b h g i Ln xs 164 := by
  rintro X hs hZ hi cells slots Q ⟨S, I, V, J, N⟩ ⟨n, c, s, e, np, k, z, H⟩ hr kk
  have H : Rel S V N I I h g n c s e np k z := H
  have GE := X.glob
  refine r_aload_n (i := 1) X dL_law_164 rfl rfl ?_
  refine r_arg (k := 1) X hs dL_law_165 dL_law_166 dL_law_167 dL_law_168 dL_law_169 rfl (Nat.le_of_ble_eq_true rfl) hi ?_
  refine r_arg (k := 2) X hs dL_law_170 dL_law_171 dL_law_172 dL_law_173 dL_law_174 rfl (Nat.le_of_ble_eq_true rfl) hi ?_
  refine q_callV (As := [.int (xs (i + 1)), .int (xs (i + 2))]) (st := []) X dL_law_175 mL_13 cwX10_leg (c_hLeg GE S I V J N h n (xs (i + 1)) (xs (i + 2)) (ra_H H.1) (ra_n H.1) H.1.n12) rfl (ra_H H.1).1 rfl rfl rfl (Nat.le_of_ble_eq_true rfl) ⟨(Nat.le_of_ble_eq_true rfl), (Nat.le_of_ble_eq_true rfl)⟩ ⟨rm_1 hr.1 (Nat.le_of_ble_eq_true rfl), rm_1 hr.2 (Nat.le_of_ble_eq_true rfl)⟩ ?_
  rintro _ _ ⟨rfl, rfl⟩
  have hg := H.1.mn
  have F : Kp (Inn g) I (hLeg I h n (xs (i + 1)) (xs (i + 2))).2 := by rw [hg]; exact fh_leg
  have H0 := H.ref F
  have H1 := H0.1
  obtain ⟨A, v1, R⟩ := do_leg H0 (xs (i + 1)) (xs (i + 2))
  refine r_aload_n (i := 2) X dL_law_178 rfl rfl ?_
  refine r_arg (k := 1) X hs dL_law_179 dL_law_180 dL_law_181 dL_law_182 dL_law_183 rfl (Nat.le_of_ble_eq_true rfl) hi ?_
  refine r_arg (k := 2) X hs dL_law_184 dL_law_185 dL_law_186 dL_law_187 dL_law_188 rfl (Nat.le_of_ble_eq_true rfl) hi ?_
  refine q_callV (As := [.int (xs (i + 1)), .int (xs (i + 2))]) (st := [_]) X dL_law_189 mL_17 cwX13_leg (c_mLeg GE S _ V J N g n (xs (i + 1)) (xs (i + 2)) (ra_M H1) (ra_0 H1) (ra_gn H1) H1.n12) rfl (ra_M H1).1 rfl rfl rfl (Nat.le_of_ble_eq_true rfl) ⟨(Nat.le_of_ble_eq_true rfl), (Nat.le_of_ble_eq_true rfl)⟩ ⟨rm_2 hr.1 (Nat.le_of_ble_eq_true rfl), rm_2 hr.2 (Nat.le_of_ble_eq_true rfl)⟩ ?_
  rintro _ _ ⟨rfl, rfl⟩
  exact r_icmp_eq (tgt := 1083) X dL_law_192 rfl (fun _ => kk _ _ _ (rm_3 (Nat.le_of_ble_eq_true rfl)) (rm_3 (Nat.le_of_ble_eq_true rfl)) ⟨_, _, _, _, _, _, _, R.cls (fo_leg)⟩) (fun q => absurd A q)
theorem cs_cold : Cs E M nm b h g i Ln xs 197 := by
  rintro X hs hZ hi cells slots Q ⟨S, I, V, J, N⟩ ⟨n, c, s, e, np, k, z, H⟩ hr kk
  have H : Rel S V N I I h g n c s e np k z := H
  have GE := X.glob
  refine r_aload_n (i := 1) X dL_law_197 rfl rfl ?_
  refine r_arg (k := 1) X hs dL_law_198 dL_law_199 dL_law_200 dL_law_201 dL_law_202 rfl (Nat.le_of_ble_eq_true rfl) hi ?_
  refine r_arg (k := 2) X hs dL_law_203 dL_law_204 dL_law_205 dL_law_206 dL_law_207 rfl (Nat.le_of_ble_eq_true rfl) hi ?_
  refine r_arg (k := 3) X hs dL_law_208 dL_law_209 dL_law_210 dL_law_211 dL_law_212 rfl (Nat.le_of_ble_eq_true rfl) hi ?_
  refine q_callV (As := [.int (xs (i + 1)), .int (xs (i + 2)), .int (xs (i + 3))]) (st := []) X dL_law_213 mL_18 cwX10_cold (c_hCold GE S I V J N h s (xs (i + 1)) (xs (i + 2)) (xs (i + 3)) (ra_H H.1) (ra_s H.1) (ra_s2 H.1)) rfl (ra_H H.1).1 rfl rfl rfl (Nat.le_of_ble_eq_true rfl) ⟨(Nat.le_of_ble_eq_true rfl), (Nat.le_of_ble_eq_true rfl)⟩ ⟨rm_1 hr.1 (Nat.le_of_ble_eq_true rfl), rm_1 hr.2 (Nat.le_of_ble_eq_true rfl)⟩ ?_
  rintro _ _ ⟨rfl, rfl⟩
  have hg := H.1.mn
  have F : Kp (Inn g) I (hCold I h s (xs (i + 1)) (xs (i + 2)) (xs (i + 3))).2 := by rw [hg]; exact fh_cold
  have H0 := H.ref F
  have H1 := H0.1
  obtain ⟨A, R⟩ := do_cold H0 (xs (i + 1)) (xs (i + 2)) (xs (i + 3))
  refine r_aload_n (i := 2) X dL_law_216 rfl rfl ?_
  refine r_arg (k := 1) X hs dL_law_217 dL_law_218 dL_law_219 dL_law_220 dL_law_221 rfl (Nat.le_of_ble_eq_true rfl) hi ?_
  refine r_arg (k := 2) X hs dL_law_222 dL_law_223 dL_law_224 dL_law_225 dL_law_226 rfl (Nat.le_of_ble_eq_true rfl) hi ?_
  refine r_arg (k := 3) X hs dL_law_227 dL_law_228 dL_law_229 dL_law_230 dL_law_231 rfl (Nat.le_of_ble_eq_true rfl) hi ?_
  refine q_callV (As := [.int (xs (i + 1)), .int (xs (i + 2)), .int (xs (i + 3))]) (st := [_]) X dL_law_232 mL_22 cwX13_cold (c_mCold GE S _ V J N g s (xs (i + 1)) (xs (i + 2)) (xs (i + 3)) (ra_M H1) (ra_0 H1) (ra_gs H1) (ra_s2 H1)) rfl (ra_M H1).1 rfl rfl rfl (Nat.le_of_ble_eq_true rfl) ⟨(Nat.le_of_ble_eq_true rfl), (Nat.le_of_ble_eq_true rfl)⟩ ⟨rm_2 hr.1 (Nat.le_of_ble_eq_true rfl), rm_2 hr.2 (Nat.le_of_ble_eq_true rfl)⟩ ?_
  rintro _ _ ⟨rfl, rfl⟩
  exact r_icmp_eq (tgt := 1083) X dL_law_235 rfl (fun _ => kk _ _ _ (rm_3 (Nat.le_of_ble_eq_true rfl)) (rm_3 (Nat.le_of_ble_eq_true rfl)) ⟨_, _, _, _, _, _, _, R.cls (fo_cold)⟩) (fun q => absurd A q)
theorem cs_feed : Cs E M nm b h g i Ln xs 240 := by
  rintro X hs hZ hi cells slots Q ⟨S, I, V, J, N⟩ ⟨n, c, s, e, np, k, z, H⟩ hr kk
  have H : Rel S V N I I h g n c s e np k z := H
  have GE := X.glob
  refine r_aload_n (i := 1) X dL_law_240 rfl rfl ?_
  refine r_arg (k := 1) X hs dL_law_241 dL_law_242 dL_law_243 dL_law_244 dL_law_245 rfl (Nat.le_of_ble_eq_true rfl) hi ?_
  refine r_arg (k := 2) X hs dL_law_246 dL_law_247 dL_law_248 dL_law_249 dL_law_250 rfl (Nat.le_of_ble_eq_true rfl) hi ?_
  refine r_arg (k := 3) X hs dL_law_251 dL_law_252 dL_law_253 dL_law_254 dL_law_255 rfl (Nat.le_of_ble_eq_true rfl) hi ?_
  refine r_arg (k := 4) X hs dL_law_256 dL_law_257 dL_law_258 dL_law_259 dL_law_260 rfl (Nat.le_of_ble_eq_true rfl) hi ?_
  refine r_arg (k := 5) X hs dL_law_261 dL_law_262 dL_law_263 dL_law_264 dL_law_265 rfl (Nat.le_of_ble_eq_true rfl) hi ?_
  refine q_callV (As := [.int (xs (i + 1)), .int (xs (i + 2)), .int (xs (i + 3)), .int (xs (i + 4)), .int (xs (i + 5))]) (st := []) X dL_law_266 mL_23 cwX10_feed (c_hFeed GE S I V J N h z (xs (i + 1)) (xs (i + 2)) (xs (i + 3)) (xs (i + 4)) (xs (i + 5)) (ra_H H.1) (ra_z H.1) (ra_z4 H.1)) rfl (ra_H H.1).1 rfl rfl rfl (Nat.le_of_ble_eq_true rfl) ⟨(Nat.le_of_ble_eq_true rfl), (Nat.le_of_ble_eq_true rfl)⟩ ⟨rm_1 hr.1 (Nat.le_of_ble_eq_true rfl), rm_1 hr.2 (Nat.le_of_ble_eq_true rfl)⟩ ?_
  rintro _ _ ⟨rfl, rfl⟩
  have hg := H.1.mn
  have F : Kp (Inn g) I (hFeed I h z (xs (i + 1)) (xs (i + 2)) (xs (i + 3)) (xs (i + 4)) (xs (i + 5))).2 := by rw [hg]; exact fh_feed
  have H0 := H.ref F
  have H1 := H0.1
  obtain ⟨A, v1, R⟩ := do_feed H0 (xs (i + 1)) (xs (i + 2)) (xs (i + 3)) (xs (i + 4)) (xs (i + 5))
  refine r_aload_n (i := 2) X dL_law_269 rfl rfl ?_
  refine r_arg (k := 1) X hs dL_law_270 dL_law_271 dL_law_272 dL_law_273 dL_law_274 rfl (Nat.le_of_ble_eq_true rfl) hi ?_
  refine r_arg (k := 2) X hs dL_law_275 dL_law_276 dL_law_277 dL_law_278 dL_law_279 rfl (Nat.le_of_ble_eq_true rfl) hi ?_
  refine r_arg (k := 3) X hs dL_law_280 dL_law_281 dL_law_282 dL_law_283 dL_law_284 rfl (Nat.le_of_ble_eq_true rfl) hi ?_
  refine r_arg (k := 4) X hs dL_law_285 dL_law_286 dL_law_287 dL_law_288 dL_law_289 rfl (Nat.le_of_ble_eq_true rfl) hi ?_
  refine r_arg (k := 5) X hs dL_law_290 dL_law_291 dL_law_292 dL_law_293 dL_law_294 rfl (Nat.le_of_ble_eq_true rfl) hi ?_
  refine q_callV (As := [.int (xs (i + 1)), .int (xs (i + 2)), .int (xs (i + 3)), .int (xs (i + 4)), .int (xs (i + 5))]) (st := [_]) X dL_law_295 mL_27 cwX13_feed (c_mFeed GE S _ V J N g z (xs (i + 1)) (xs (i + 2)) (xs (i + 3)) (xs (i + 4)) (xs (i + 5)) (ra_M H1) (ra_R H1) (ra_0 H1) (ra_gz H1) (ra_z4 H1)) rfl (ra_M H1).1 rfl rfl rfl (Nat.le_of_ble_eq_true rfl) ⟨(Nat.le_of_ble_eq_true rfl), (Nat.le_of_ble_eq_true rfl)⟩ ⟨rm_2 hr.1 (Nat.le_of_ble_eq_true rfl), rm_2 hr.2 (Nat.le_of_ble_eq_true rfl)⟩ ?_
  rintro _ _ ⟨rfl, rfl⟩
  exact r_icmp_eq (tgt := 1083) X dL_law_298 rfl (fun _ => kk _ _ _ (rm_3 (Nat.le_of_ble_eq_true rfl)) (rm_3 (Nat.le_of_ble_eq_true rfl)) ⟨_, _, _, _, _, _, _, R.cls (fo_feed)⟩) (fun q => absurd A q)
theorem cs_plan : Cs E M nm b h g i Ln xs 303 := by
  rintro X hs hZ hi cells slots Q ⟨S, I, V, J, N⟩ ⟨n, c, s, e, np, k, z, H⟩ hr kk
  have H : Rel S V N I I h g n c s e np k z := H
  have GE := X.glob
  refine r_aload_n (i := 1) X dL_law_303 rfl rfl ?_
  refine r_arg (k := 1) X hs dL_law_304 dL_law_305 dL_law_306 dL_law_307 dL_law_308 rfl (Nat.le_of_ble_eq_true rfl) hi ?_
  refine q_callV (As := [.int (xs (i + 1))]) (st := []) X dL_law_309 mL_28 cwX10_plan (c_hPlan GE S I V J N h z np (xs (i + 1)) hZ (ra_H H.1) (ra_z H.1) (ra_z4 H.1) (ra_p H.1) (ra_p8 H.1)) rfl (ra_H H.1).1 rfl rfl rfl (Nat.le_of_ble_eq_true rfl) ⟨(Nat.le_of_ble_eq_true rfl), (Nat.le_of_ble_eq_true rfl)⟩ ⟨rm_1 hr.1 (Nat.le_of_ble_eq_true rfl), rm_1 hr.2 (Nat.le_of_ble_eq_true rfl)⟩ ?_
  rintro _ _ ⟨rfl, rfl⟩
  have hg := H.1.mn
  have F : Kp (Inn g) I (hPlan I h z np (xs (i + 1))).2 := by rw [hg]; exact fh_plan (ra_p8 H.1)
  have H0 := H.ref F
  have H1 := H0.1
  obtain ⟨A, v1, v2, R⟩ := do_plan H0 J (xs (i + 1))
  refine r_aload_n (i := 2) X dL_law_312 rfl rfl ?_
  refine r_arg (k := 1) X hs dL_law_313 dL_law_314 dL_law_315 dL_law_316 dL_law_317 rfl (Nat.le_of_ble_eq_true rfl) hi ?_
  refine t_callW (As := [.int (xs (i + 1))]) (st := [_]) X dL_law_318 nL_32.1 nL_32.2.1 nL_32.2.2 cwX13_plan (c_mPlF GE S (_, J) V N g z np (xs (i + 1)) hZ (ra_M H1) (ra_R H1) (ra_0 H1) (ra_gz H1) (ra_z4 H1) (ra_by H1) (ra_gp H1) (ra_p8 H1)) (ra_M H1).1 rfl rfl rfl (Nat.le_of_ble_eq_true rfl) ⟨(Nat.le_of_ble_eq_true rfl), (Nat.le_of_ble_eq_true rfl)⟩ ⟨rm_2 hr.1 (Nat.le_of_ble_eq_true rfl), rm_2 hr.2 (Nat.le_of_ble_eq_true rfl)⟩ ?_
  rintro _ _ ⟨rfl, rfl⟩
  exact r_icmp_eq (tgt := 1083) X dL_law_321 rfl (fun _ => kk _ _ _ (rm_3 (Nat.le_of_ble_eq_true rfl)) (rm_3 (Nat.le_of_ble_eq_true rfl)) ⟨_, _, _, _, _, _, _, R.cls (fo_plan)⟩) (fun q => absurd A q)
theorem cs_laws : Cs E M nm b h g i Ln xs 326 := by
  rintro X hs hZ hi cells slots Q ⟨S, I, V, J, N⟩ ⟨n, c, s, e, np, k, z, H⟩ hr kk
  have H : Rel S V N I I h g n c s e np k z := H
  have GE := X.glob
  refine r_aload_n (i := 1) X dL_law_326 rfl rfl ?_
  refine r_arg (k := 1) X hs dL_law_327 dL_law_328 dL_law_329 dL_law_330 dL_law_331 rfl (Nat.le_of_ble_eq_true rfl) hi ?_
  refine q_callV (As := [.int (xs (i + 1))]) (st := []) X dL_law_332 mL_33 cwX10_laws (c_hLaws GE S I V J N h z k (xs (i + 1)) hZ (ra_H H.1) (ra_z H.1) (ra_z4 H.1) (ra_k H.1) (ra_k10 H.1)) rfl (ra_H H.1).1 rfl rfl rfl (Nat.le_of_ble_eq_true rfl) ⟨(Nat.le_of_ble_eq_true rfl), (Nat.le_of_ble_eq_true rfl)⟩ ⟨rm_1 hr.1 (Nat.le_of_ble_eq_true rfl), rm_1 hr.2 (Nat.le_of_ble_eq_true rfl)⟩ ?_
  rintro _ _ ⟨rfl, rfl⟩
  have hg := H.1.mn
  have F : Kp (Inn g) I (hLaws I h z k (xs (i + 1))).2 := by rw [hg]; exact fh_laws
  have H0 := H.ref F
  have H1 := H0.1
  obtain ⟨A, v1, v2, R⟩ := do_laws H0 J (xs (i + 1))
  refine r_aload_n (i := 2) X dL_law_335 rfl rfl ?_
  refine r_arg (k := 1) X hs dL_law_336 dL_law_337 dL_law_338 dL_law_339 dL_law_340 rfl (Nat.le_of_ble_eq_true rfl) hi ?_
  refine t_callW (As := [.int (xs (i + 1))]) (st := [_]) X dL_law_341 nL_36.1 nL_36.2.1 nL_36.2.2 cwX13_laws (c_mLaF GE S (_, J) V N g z k (xs (i + 1)) hZ (ra_M H1) (ra_R H1) (ra_0 H1) (ra_gz H1) (ra_z4 H1) (ra_by H1) (ra_gk H1) (ra_k10 H1)) (ra_M H1).1 rfl rfl rfl (Nat.le_of_ble_eq_true rfl) ⟨(Nat.le_of_ble_eq_true rfl), (Nat.le_of_ble_eq_true rfl)⟩ ⟨rm_2 hr.1 (Nat.le_of_ble_eq_true rfl), rm_2 hr.2 (Nat.le_of_ble_eq_true rfl)⟩ ?_
  rintro _ _ ⟨rfl, rfl⟩
  exact r_icmp_eq (tgt := 1083) X dL_law_344 rfl (fun _ => kk _ _ _ (rm_3 (Nat.le_of_ble_eq_true rfl)) (rm_3 (Nat.le_of_ble_eq_true rfl)) ⟨_, _, _, _, _, _, _, R.cls (fo_laws)⟩) (fun q => absurd A q)
theorem cs_fault : Cs E M nm b h g i Ln xs 349 := by
  rintro X hs hZ hi cells slots Q ⟨S, I, V, J, N⟩ ⟨n, c, s, e, np, k, z, H⟩ hr kk
  have H : Rel S V N I I h g n c s e np k z := H
  have GE := X.glob
  refine r_aload_n (i := 1) X dL_law_349 rfl rfl ?_
  refine q_callV (As := []) (st := []) X dL_law_350 mL_37 cwX10_fault (c_hFault GE S I V J N h (ra_H H.1)) rfl (ra_H H.1).1 rfl rfl rfl (Nat.le_of_ble_eq_true rfl) ⟨(Nat.le_of_ble_eq_true rfl), (Nat.le_of_ble_eq_true rfl)⟩ ⟨rm_1 hr.1 (Nat.le_of_ble_eq_true rfl), rm_1 hr.2 (Nat.le_of_ble_eq_true rfl)⟩ ?_
  rintro _ _ ⟨rfl, rfl⟩
  refine r_aload_n (i := 2) X dL_law_353 rfl rfl ?_
  refine q_callV (As := []) (st := [_]) X dL_law_354 mL_41 cwX13_fault (c_mFault GE S I V J N g (ra_M H.1).1 ) rfl (ra_M H.1).1 rfl rfl rfl (Nat.le_of_ble_eq_true rfl) ⟨(Nat.le_of_ble_eq_true rfl), (Nat.le_of_ble_eq_true rfl)⟩ ⟨rm_2 hr.1 (Nat.le_of_ble_eq_true rfl), rm_2 hr.2 (Nat.le_of_ble_eq_true rfl)⟩ ?_
  rintro _ _ ⟨rfl, rfl⟩
  exact r_icmp_eq (tgt := 1083) X dL_law_357 rfl (fun _ => kk _ _ _ (rm_3 (Nat.le_of_ble_eq_true rfl)) (rm_3 (Nat.le_of_ble_eq_true rfl)) ⟨n, c, s, e, np, k, z, H.mem2 (fun b j _ => up0 (ra_0 H.1) b j) (fun b j _ _ => up0 (ra_0 H.1) b j)⟩) (fun q => absurd (H.2.2.1) q)
theorem cs_where : Cs E M nm b h g i Ln xs 362 := by
  rintro X hs hZ hi cells slots Q ⟨S, I, V, J, N⟩ ⟨n, c, s, e, np, k, z, H⟩ hr kk
  have H : Rel S V N I I h g n c s e np k z := H
  have GE := X.glob
  refine r_aload_n (i := 1) X dL_law_362 rfl rfl ?_
  refine q_callV (As := []) (st := []) X dL_law_363 mL_42 cwX10_where (c_hWhere GE S I V J N h (ra_H H.1)) rfl (ra_H H.1).1 rfl rfl rfl (Nat.le_of_ble_eq_true rfl) ⟨(Nat.le_of_ble_eq_true rfl), (Nat.le_of_ble_eq_true rfl)⟩ ⟨rm_1 hr.1 (Nat.le_of_ble_eq_true rfl), rm_1 hr.2 (Nat.le_of_ble_eq_true rfl)⟩ ?_
  rintro _ _ ⟨rfl, rfl⟩
  refine r_aload_n (i := 2) X dL_law_366 rfl rfl ?_
  refine q_callV (As := []) (st := [_]) X dL_law_367 mL_45 cwX13_where (c_mWhere GE S I V J N g (ra_M H.1).1 ) rfl (ra_M H.1).1 rfl rfl rfl (Nat.le_of_ble_eq_true rfl) ⟨(Nat.le_of_ble_eq_true rfl), (Nat.le_of_ble_eq_true rfl)⟩ ⟨rm_2 hr.1 (Nat.le_of_ble_eq_true rfl), rm_2 hr.2 (Nat.le_of_ble_eq_true rfl)⟩ ?_
  rintro _ _ ⟨rfl, rfl⟩
  exact r_icmp_eq (tgt := 1083) X dL_law_370 rfl (fun _ => kk _ _ _ (rm_3 (Nat.le_of_ble_eq_true rfl)) (rm_3 (Nat.le_of_ble_eq_true rfl)) ⟨n, c, s, e, np, k, z, H.mem2 (fun b j _ => up0 (ra_0 H.1) b j) (fun b j _ _ => up0 (ra_0 H.1) b j)⟩) (fun q => absurd (H.2.2.2.symm) q)
theorem cs_team : Cs E M nm b h g i Ln xs 375 := by
  rintro X hs hZ hi cells slots Q ⟨S, I, V, J, N⟩ ⟨n, c, s, e, np, k, z, H⟩ hr kk
  have H : Rel S V N I I h g n c s e np k z := H
  have GE := X.glob
  refine r_aload_n (i := 1) X dL_law_375 rfl rfl ?_
  refine r_arg (k := 1) X hs dL_law_376 dL_law_377 dL_law_378 dL_law_379 dL_law_380 rfl (Nat.le_of_ble_eq_true rfl) hi ?_
  refine r_arg (k := 2) X hs dL_law_381 dL_law_382 dL_law_383 dL_law_384 dL_law_385 rfl (Nat.le_of_ble_eq_true rfl) hi ?_
  refine r_arg (k := 3) X hs dL_law_386 dL_law_387 dL_law_388 dL_law_389 dL_law_390 rfl (Nat.le_of_ble_eq_true rfl) hi ?_
  refine r_arg (k := 4) X hs dL_law_391 dL_law_392 dL_law_393 dL_law_394 dL_law_395 rfl (Nat.le_of_ble_eq_true rfl) hi ?_
  refine r_arg (k := 5) X hs dL_law_396 dL_law_397 dL_law_398 dL_law_399 dL_law_400 rfl (Nat.le_of_ble_eq_true rfl) hi ?_
  refine q_callV (As := [.int (xs (i + 1)), .int (xs (i + 2)), .int (xs (i + 3)), .int (xs (i + 4)), .int (xs (i + 5))]) (st := []) X dL_law_401 mL_46 cwX10_team (c_hTeam GE S I V J N h c n np (xs (i + 1)) (xs (i + 2)) (xs (i + 3)) (xs (i + 4)) (xs (i + 5)) (ra_H H.1) (ra_c H.1) H.1.c6 (ra_n H.1) H.1.n12 (ra_p H.1)) rfl (ra_H H.1).1 rfl rfl rfl (Nat.le_of_ble_eq_true rfl) ⟨(Nat.le_of_ble_eq_true rfl), (Nat.le_of_ble_eq_true rfl)⟩ ⟨rm_1 hr.1 (Nat.le_of_ble_eq_true rfl), rm_1 hr.2 (Nat.le_of_ble_eq_true rfl)⟩ ?_
  rintro _ _ ⟨rfl, rfl⟩
  have hg := H.1.mn
  have F : Kp (Inn g) I (hTeam I h c n np (xs (i + 1)) (xs (i + 2)) (xs (i + 3)) (xs (i + 4)) (xs (i + 5))).2 := by rw [hg]; exact fh_team H.1.c6
  have H0 := H.ref F
  have H1 := H0.1
  obtain ⟨A, v1, R⟩ := do_team H0 (xs (i + 1)) (xs (i + 2)) (xs (i + 3)) (xs (i + 4)) (xs (i + 5))
  refine r_aload_n (i := 2) X dL_law_404 rfl rfl ?_
  refine r_arg (k := 1) X hs dL_law_405 dL_law_406 dL_law_407 dL_law_408 dL_law_409 rfl (Nat.le_of_ble_eq_true rfl) hi ?_
  refine r_arg (k := 2) X hs dL_law_410 dL_law_411 dL_law_412 dL_law_413 dL_law_414 rfl (Nat.le_of_ble_eq_true rfl) hi ?_
  refine r_arg (k := 3) X hs dL_law_415 dL_law_416 dL_law_417 dL_law_418 dL_law_419 rfl (Nat.le_of_ble_eq_true rfl) hi ?_
  refine r_arg (k := 4) X hs dL_law_420 dL_law_421 dL_law_422 dL_law_423 dL_law_424 rfl (Nat.le_of_ble_eq_true rfl) hi ?_
  refine r_arg (k := 5) X hs dL_law_425 dL_law_426 dL_law_427 dL_law_428 dL_law_429 rfl (Nat.le_of_ble_eq_true rfl) hi ?_
  refine q_callV (As := [.int (xs (i + 1)), .int (xs (i + 2)), .int (xs (i + 3)), .int (xs (i + 4)), .int (xs (i + 5))]) (st := [_]) X dL_law_430 mL_49 cwX13_team (c_mTeam GE S _ V J N g c n np (xs (i + 1)) (xs (i + 2)) (xs (i + 3)) (xs (i + 4)) (xs (i + 5)) (ra_M H1) (ra_0 H1) (ra_gc H1) H1.c6 (ra_gn H1) H1.n12 (ra_gp H1)) rfl (ra_M H1).1 rfl rfl rfl (Nat.le_of_ble_eq_true rfl) ⟨(Nat.le_of_ble_eq_true rfl), (Nat.le_of_ble_eq_true rfl)⟩ ⟨rm_2 hr.1 (Nat.le_of_ble_eq_true rfl), rm_2 hr.2 (Nat.le_of_ble_eq_true rfl)⟩ ?_
  rintro _ _ ⟨rfl, rfl⟩
  exact r_icmp_eq (tgt := 1083) X dL_law_433 rfl (fun _ => kk _ _ _ (rm_3 (Nat.le_of_ble_eq_true rfl)) (rm_3 (Nat.le_of_ble_eq_true rfl)) ⟨_, _, _, _, _, _, _, R.cls (fo_team H.1.c6)⟩) (fun q => absurd A q)
theorem cs_follow : Cs E M nm b h g i Ln xs 438 := by
  rintro X hs hZ hi cells slots Q ⟨S, I, V, J, N⟩ ⟨n, c, s, e, np, k, z, H⟩ hr kk
  have H : Rel S V N I I h g n c s e np k z := H
  have GE := X.glob
  refine r_aload_n (i := 1) X dL_law_438 rfl rfl ?_
  refine r_arg (k := 1) X hs dL_law_439 dL_law_440 dL_law_441 dL_law_442 dL_law_443 rfl (Nat.le_of_ble_eq_true rfl) hi ?_
  refine r_arg (k := 2) X hs dL_law_444 dL_law_445 dL_law_446 dL_law_447 dL_law_448 rfl (Nat.le_of_ble_eq_true rfl) hi ?_
  refine q_callV (As := [.int (xs (i + 1)), .int (xs (i + 2))]) (st := []) X dL_law_449 mL_50 cwX10_follow (c_hFollow GE S I V J N h c np (xs (i + 1)) (xs (i + 2)) (ra_H H.1) (ra_c H.1) H.1.c6 (ra_p H.1)) rfl (ra_H H.1).1 rfl rfl rfl (Nat.le_of_ble_eq_true rfl) ⟨(Nat.le_of_ble_eq_true rfl), (Nat.le_of_ble_eq_true rfl)⟩ ⟨rm_1 hr.1 (Nat.le_of_ble_eq_true rfl), rm_1 hr.2 (Nat.le_of_ble_eq_true rfl)⟩ ?_
  rintro _ _ ⟨rfl, rfl⟩
  have hg := H.1.mn
  have F : Kp (Inn g) I (hFollow I h c np (xs (i + 1)) (xs (i + 2))).2 := by rw [hg]; exact fh_follow H.1.c6
  have H0 := H.ref F
  have H1 := H0.1
  obtain ⟨A, R⟩ := do_follow H0 (xs (i + 1)) (xs (i + 2))
  refine r_aload_n (i := 2) X dL_law_452 rfl rfl ?_
  refine r_arg (k := 1) X hs dL_law_453 dL_law_454 dL_law_455 dL_law_456 dL_law_457 rfl (Nat.le_of_ble_eq_true rfl) hi ?_
  refine r_arg (k := 2) X hs dL_law_458 dL_law_459 dL_law_460 dL_law_461 dL_law_462 rfl (Nat.le_of_ble_eq_true rfl) hi ?_
  refine q_callV (As := [.int (xs (i + 1)), .int (xs (i + 2))]) (st := [_]) X dL_law_463 mL_54 cwX13_follow (c_mFollow GE S _ V J N g c np (xs (i + 1)) (xs (i + 2)) (ra_M H1) (ra_0 H1) (ra_gc H1) H1.c6 (ra_gp H1)) rfl (ra_M H1).1 rfl rfl rfl (Nat.le_of_ble_eq_true rfl) ⟨(Nat.le_of_ble_eq_true rfl), (Nat.le_of_ble_eq_true rfl)⟩ ⟨rm_2 hr.1 (Nat.le_of_ble_eq_true rfl), rm_2 hr.2 (Nat.le_of_ble_eq_true rfl)⟩ ?_
  rintro _ _ ⟨rfl, rfl⟩
  exact r_icmp_eq (tgt := 1083) X dL_law_466 rfl (fun _ => kk _ _ _ (rm_3 (Nat.le_of_ble_eq_true rfl)) (rm_3 (Nat.le_of_ble_eq_true rfl)) ⟨_, _, _, _, _, _, _, R.cls (fo_follow H.1.c6)⟩) (fun q => absurd A q)
theorem cs_gap : Cs E M nm b h g i Ln xs 471 := by
  rintro X hs hZ hi cells slots Q ⟨S, I, V, J, N⟩ ⟨n, c, s, e, np, k, z, H⟩ hr kk
  have H : Rel S V N I I h g n c s e np k z := H
  have GE := X.glob
  refine r_aload_n (i := 1) X dL_law_471 rfl rfl ?_
  refine r_arg (k := 1) X hs dL_law_472 dL_law_473 dL_law_474 dL_law_475 dL_law_476 rfl (Nat.le_of_ble_eq_true rfl) hi ?_
  refine r_arg (k := 2) X hs dL_law_477 dL_law_478 dL_law_479 dL_law_480 dL_law_481 rfl (Nat.le_of_ble_eq_true rfl) hi ?_
  refine r_arg (k := 3) X hs dL_law_482 dL_law_483 dL_law_484 dL_law_485 dL_law_486 rfl (Nat.le_of_ble_eq_true rfl) hi ?_
  refine q_callV (As := [.int (xs (i + 1)), .int (xs (i + 2)), .int (xs (i + 3))]) (st := []) X dL_law_487 mL_55 cwX10_gap (c_hGap GE S I V J N h c (xs (i + 1)) (xs (i + 2)) (xs (i + 3)) (ra_H H.1) (ra_c H.1) H.1.c6 (ra_g H.1)) rfl (ra_H H.1).1 rfl rfl rfl (Nat.le_of_ble_eq_true rfl) ⟨(Nat.le_of_ble_eq_true rfl), (Nat.le_of_ble_eq_true rfl)⟩ ⟨rm_1 hr.1 (Nat.le_of_ble_eq_true rfl), rm_1 hr.2 (Nat.le_of_ble_eq_true rfl)⟩ ?_
  rintro _ _ ⟨rfl, rfl⟩
  have hg := H.1.mn
  have F : Kp (Inn g) I (hGap I h c (xs (i + 1)) (xs (i + 2)) (xs (i + 3))).2 := by rw [hg]; exact fh_gap H.1.c6
  have H0 := H.ref F
  have H1 := H0.1
  obtain ⟨A, R⟩ := do_gap H0 (xs (i + 1)) (xs (i + 2)) (xs (i + 3))
  refine r_aload_n (i := 2) X dL_law_490 rfl rfl ?_
  refine r_arg (k := 1) X hs dL_law_491 dL_law_492 dL_law_493 dL_law_494 dL_law_495 rfl (Nat.le_of_ble_eq_true rfl) hi ?_
  refine r_arg (k := 2) X hs dL_law_496 dL_law_497 dL_law_498 dL_law_499 dL_law_500 rfl (Nat.le_of_ble_eq_true rfl) hi ?_
  refine r_arg (k := 3) X hs dL_law_501 dL_law_502 dL_law_503 dL_law_504 dL_law_505 rfl (Nat.le_of_ble_eq_true rfl) hi ?_
  refine q_callV (As := [.int (xs (i + 1)), .int (xs (i + 2)), .int (xs (i + 3))]) (st := [_]) X dL_law_506 mL_59 cwX13_gap (c_mGapD GE S _ V J N g c (xs (i + 1)) (xs (i + 2)) (xs (i + 3)) (ra_M H1) (ra_0 H1) (ra_gc H1) H1.c6 (ra_mg H1)) rfl (ra_M H1).1 rfl rfl rfl (Nat.le_of_ble_eq_true rfl) ⟨(Nat.le_of_ble_eq_true rfl), (Nat.le_of_ble_eq_true rfl)⟩ ⟨rm_2 hr.1 (Nat.le_of_ble_eq_true rfl), rm_2 hr.2 (Nat.le_of_ble_eq_true rfl)⟩ ?_
  rintro _ _ ⟨rfl, rfl⟩
  exact r_icmp_eq (tgt := 1083) X dL_law_509 rfl (fun _ => kk _ _ _ (rm_3 (Nat.le_of_ble_eq_true rfl)) (rm_3 (Nat.le_of_ble_eq_true rfl)) ⟨_, _, _, _, _, _, _, R.cls (fo_gap H.1.c6)⟩) (fun q => absurd A q)
theorem cs_each : Cs E M nm b h g i Ln xs 514 := by
  rintro X hs hZ hi cells slots Q ⟨S, I, V, J, N⟩ ⟨n, c, s, e, np, k, z, H⟩ hr kk
  have H : Rel S V N I I h g n c s e np k z := H
  have GE := X.glob
  refine r_aload_n (i := 1) X dL_law_514 rfl rfl ?_
  refine r_arg (k := 1) X hs dL_law_515 dL_law_516 dL_law_517 dL_law_518 dL_law_519 rfl (Nat.le_of_ble_eq_true rfl) hi ?_
  refine q_callV (As := [.int (xs (i + 1))]) (st := []) X dL_law_520 mL_60 cwX10_each (c_hEach GE S I V J N h (xs (i + 1)) (ra_H H.1)) rfl (ra_H H.1).1 rfl rfl rfl (Nat.le_of_ble_eq_true rfl) ⟨(Nat.le_of_ble_eq_true rfl), (Nat.le_of_ble_eq_true rfl)⟩ ⟨rm_1 hr.1 (Nat.le_of_ble_eq_true rfl), rm_1 hr.2 (Nat.le_of_ble_eq_true rfl)⟩ ?_
  rintro _ _ ⟨rfl, rfl⟩
  have hg := H.1.mn
  have F : Kp (Inn g) I (hEach I h (xs (i + 1))).2 := by rw [hg]; exact fh_each
  have H0 := H.ref F
  have H1 := H0.1
  obtain ⟨A, v1, R⟩ := do_each H0 (xs (i + 1))
  refine r_aload_n (i := 2) X dL_law_523 rfl rfl ?_
  refine r_arg (k := 1) X hs dL_law_524 dL_law_525 dL_law_526 dL_law_527 dL_law_528 rfl (Nat.le_of_ble_eq_true rfl) hi ?_
  refine q_callV (As := [.int (xs (i + 1))]) (st := [_]) X dL_law_529 mL_64 cwX13_each (c_mEach GE S _ V J N g (xs (i + 1)) (ra_M H1) (ra_0 H1)) rfl (ra_M H1).1 rfl rfl rfl (Nat.le_of_ble_eq_true rfl) ⟨(Nat.le_of_ble_eq_true rfl), (Nat.le_of_ble_eq_true rfl)⟩ ⟨rm_2 hr.1 (Nat.le_of_ble_eq_true rfl), rm_2 hr.2 (Nat.le_of_ble_eq_true rfl)⟩ ?_
  rintro _ _ ⟨rfl, rfl⟩
  exact r_icmp_eq (tgt := 1083) X dL_law_532 rfl (fun _ => kk _ _ _ (rm_3 (Nat.le_of_ble_eq_true rfl)) (rm_3 (Nat.le_of_ble_eq_true rfl)) ⟨_, _, _, _, _, _, _, R.cls (fo_each)⟩) (fun q => absurd A q)
theorem cs_about : Cs E M nm b h g i Ln xs 560 := by
  rintro X hs hZ hi cells slots Q ⟨S, I, V, J, N⟩ ⟨n, c, s, e, np, k, z, H⟩ hr kk
  have H : Rel S V N I I h g n c s e np k z := H
  have GE := X.glob
  refine r_aload_n (i := 1) X dL_law_560 rfl rfl ?_
  refine r_arg (k := 1) X hs dL_law_561 dL_law_562 dL_law_563 dL_law_564 dL_law_565 rfl (Nat.le_of_ble_eq_true rfl) hi ?_
  refine r_arg (k := 2) X hs dL_law_566 dL_law_567 dL_law_568 dL_law_569 dL_law_570 rfl (Nat.le_of_ble_eq_true rfl) hi ?_
  refine q_callV (As := [.int (xs (i + 1)), .int (xs (i + 2))]) (st := []) X dL_law_571 mL_69 cwX10_about (c_hAbout GE S I V J N h c (xs (i + 1)) (xs (i + 2)) (ra_H H.1) (ra_c H.1) H.1.c6 (ra_l H.1)) rfl (ra_H H.1).1 rfl rfl rfl (Nat.le_of_ble_eq_true rfl) ⟨(Nat.le_of_ble_eq_true rfl), (Nat.le_of_ble_eq_true rfl)⟩ ⟨rm_1 hr.1 (Nat.le_of_ble_eq_true rfl), rm_1 hr.2 (Nat.le_of_ble_eq_true rfl)⟩ ?_
  rintro _ _ ⟨rfl, rfl⟩
  refine r_aload_n (i := 2) X dL_law_574 rfl rfl ?_
  refine r_arg (k := 1) X hs dL_law_575 dL_law_576 dL_law_577 dL_law_578 dL_law_579 rfl (Nat.le_of_ble_eq_true rfl) hi ?_
  refine r_arg (k := 2) X hs dL_law_580 dL_law_581 dL_law_582 dL_law_583 dL_law_584 rfl (Nat.le_of_ble_eq_true rfl) hi ?_
  refine q_callV (As := [.int (xs (i + 1)), .int (xs (i + 2))]) (st := [_]) X dL_law_585 mL_72 cwX13_about (c_mAbout GE S I V J N g c (xs (i + 1)) (xs (i + 2)) (ra_M H.1) (ra_0 H.1) (ra_gc H.1) H.1.c6 (ra_mt H.1)) rfl (ra_M H.1).1 rfl rfl rfl (Nat.le_of_ble_eq_true rfl) ⟨(Nat.le_of_ble_eq_true rfl), (Nat.le_of_ble_eq_true rfl)⟩ ⟨rm_2 hr.1 (Nat.le_of_ble_eq_true rfl), rm_2 hr.2 (Nat.le_of_ble_eq_true rfl)⟩ ?_
  rintro _ _ ⟨rfl, rfl⟩
  exact r_icmp_eq (tgt := 1083) X dL_law_588 rfl (fun _ => kk _ _ _ (rm_3 (Nat.le_of_ble_eq_true rfl)) (rm_3 (Nat.le_of_ble_eq_true rfl)) ⟨n, c, s, e, np, k, z, H⟩) (fun q => absurd (ask_about H.1 (xs (i + 1)) (xs (i + 2))) q)
theorem cs_dog : Cs E M nm b h g i Ln xs 593 := by
  rintro X hs hZ hi cells slots Q ⟨S, I, V, J, N⟩ ⟨n, c, s, e, np, k, z, H⟩ hr kk
  have H : Rel S V N I I h g n c s e np k z := H
  have GE := X.glob
  refine r_aload_n (i := 1) X dL_law_593 rfl rfl ?_
  refine r_arg (k := 1) X hs dL_law_594 dL_law_595 dL_law_596 dL_law_597 dL_law_598 rfl (Nat.le_of_ble_eq_true rfl) hi ?_
  refine r_arg (k := 2) X hs dL_law_599 dL_law_600 dL_law_601 dL_law_602 dL_law_603 rfl (Nat.le_of_ble_eq_true rfl) hi ?_
  refine r_arg (k := 3) X hs dL_law_604 dL_law_605 dL_law_606 dL_law_607 dL_law_608 rfl (Nat.le_of_ble_eq_true rfl) hi ?_
  refine q_callV (As := [.int (xs (i + 1)), .int (xs (i + 2)), .int (xs (i + 3))]) (st := []) X dL_law_609 mL_73 cwX10_dog (c_hDog GE S I V J N h c (xs (i + 1)) (xs (i + 2)) (xs (i + 3)) (ra_H H.1) (ra_c H.1) H.1.c6 (ra_d H.1)) rfl (ra_H H.1).1 rfl rfl rfl (Nat.le_of_ble_eq_true rfl) ⟨(Nat.le_of_ble_eq_true rfl), (Nat.le_of_ble_eq_true rfl)⟩ ⟨rm_1 hr.1 (Nat.le_of_ble_eq_true rfl), rm_1 hr.2 (Nat.le_of_ble_eq_true rfl)⟩ ?_
  rintro _ _ ⟨rfl, rfl⟩
  refine r_aload_n (i := 2) X dL_law_612 rfl rfl ?_
  refine r_arg (k := 1) X hs dL_law_613 dL_law_614 dL_law_615 dL_law_616 dL_law_617 rfl (Nat.le_of_ble_eq_true rfl) hi ?_
  refine r_arg (k := 2) X hs dL_law_618 dL_law_619 dL_law_620 dL_law_621 dL_law_622 rfl (Nat.le_of_ble_eq_true rfl) hi ?_
  refine r_arg (k := 3) X hs dL_law_623 dL_law_624 dL_law_625 dL_law_626 dL_law_627 rfl (Nat.le_of_ble_eq_true rfl) hi ?_
  refine q_callV (As := [.int (xs (i + 1)), .int (xs (i + 2)), .int (xs (i + 3))]) (st := [_]) X dL_law_628 mL_76 cwX13_dog (c_mDog GE S I V J N g c (xs (i + 1)) (xs (i + 2)) (xs (i + 3)) (ra_M H.1) (ra_0 H.1) (ra_gc H.1) H.1.c6 (ra_mt H.1)) rfl (ra_M H.1).1 rfl rfl rfl (Nat.le_of_ble_eq_true rfl) ⟨(Nat.le_of_ble_eq_true rfl), (Nat.le_of_ble_eq_true rfl)⟩ ⟨rm_2 hr.1 (Nat.le_of_ble_eq_true rfl), rm_2 hr.2 (Nat.le_of_ble_eq_true rfl)⟩ ?_
  rintro _ _ ⟨rfl, rfl⟩
  exact r_icmp_eq (tgt := 1083) X dL_law_631 rfl (fun _ => kk _ _ _ (rm_3 (Nat.le_of_ble_eq_true rfl)) (rm_3 (Nat.le_of_ble_eq_true rfl)) ⟨n, c, s, e, np, k, z, H⟩) (fun q => absurd (ask_dog H.1 (xs (i + 1)) (xs (i + 2)) (xs (i + 3))) q)
theorem cs_time : Cs E M nm b h g i Ln xs 636 := by
  rintro X hs hZ hi cells slots Q ⟨S, I, V, J, N⟩ ⟨n, c, s, e, np, k, z, H⟩ hr kk
  have H : Rel S V N I I h g n c s e np k z := H
  have GE := X.glob
  refine r_aload_n (i := 1) X dL_law_636 rfl rfl ?_
  refine r_arg (k := 1) X hs dL_law_637 dL_law_638 dL_law_639 dL_law_640 dL_law_641 rfl (Nat.le_of_ble_eq_true rfl) hi ?_
  refine r_arg (k := 2) X hs dL_law_642 dL_law_643 dL_law_644 dL_law_645 dL_law_646 rfl (Nat.le_of_ble_eq_true rfl) hi ?_
  refine r_arg (k := 3) X hs dL_law_647 dL_law_648 dL_law_649 dL_law_650 dL_law_651 rfl (Nat.le_of_ble_eq_true rfl) hi ?_
  refine r_bool X dL_law_652 dL_law_655 dL_law_656 dL_law_659 ?_
  refine q_callV (As := [.int (xs (i + 1)), .int (xs (i + 2)), .int (bI (!decide (xs (i + 3) = 0)))]) (st := []) X dL_law_660 mL_77 cwX10_time (c_hTime GE S I V J N h c n (xs (i + 1)) (xs (i + 2)) (bI (!decide (xs (i + 3) = 0))) (ra_H H.1) (ra_c H.1) H.1.c6 (ra_n H.1) H.1.n12) rfl (ra_H H.1).1 rfl rfl rfl (Nat.le_of_ble_eq_true rfl) ⟨(Nat.le_of_ble_eq_true rfl), (Nat.le_of_ble_eq_true rfl)⟩ ⟨rm_1 hr.1 (Nat.le_of_ble_eq_true rfl), rm_1 hr.2 (Nat.le_of_ble_eq_true rfl)⟩ ?_
  rintro _ _ ⟨rfl, rfl⟩
  refine r_aload_n (i := 2) X dL_law_663 rfl rfl ?_
  refine r_arg (k := 1) X hs dL_law_664 dL_law_665 dL_law_666 dL_law_667 dL_law_668 rfl (Nat.le_of_ble_eq_true rfl) hi ?_
  refine r_arg (k := 2) X hs dL_law_669 dL_law_670 dL_law_671 dL_law_672 dL_law_673 rfl (Nat.le_of_ble_eq_true rfl) hi ?_
  refine r_arg (k := 3) X hs dL_law_674 dL_law_675 dL_law_676 dL_law_677 dL_law_678 rfl (Nat.le_of_ble_eq_true rfl) hi ?_
  refine r_bool X dL_law_679 dL_law_682 dL_law_683 dL_law_686 ?_
  refine q_callV (As := [.int (xs (i + 1)), .int (xs (i + 2)), .int (bI (!decide (xs (i + 3) = 0)))]) (st := [_]) X dL_law_687 mL_81 cwX13_time (c_mTime GE S I V J N g c n (xs (i + 1)) (xs (i + 2)) (bI (!decide (xs (i + 3) = 0))) (ra_M H.1) (ra_0 H.1) (ra_gc H.1) H.1.c6 (ra_gn H.1) H.1.n12) rfl (ra_M H.1).1 rfl rfl rfl (Nat.le_of_ble_eq_true rfl) ⟨(Nat.le_of_ble_eq_true rfl), (Nat.le_of_ble_eq_true rfl)⟩ ⟨rm_2 hr.1 (Nat.le_of_ble_eq_true rfl), rm_2 hr.2 (Nat.le_of_ble_eq_true rfl)⟩ ?_
  rintro _ _ ⟨rfl, rfl⟩
  exact r_icmp_eq (tgt := 1083) X dL_law_690 rfl (fun _ => kk _ _ _ (rm_3 (Nat.le_of_ble_eq_true rfl)) (rm_3 (Nat.le_of_ble_eq_true rfl)) ⟨n, c, s, e, np, k, z, H⟩) (fun q => absurd (ask_time H.1 (xs (i + 1)) (xs (i + 2)) (bI (!decide (xs (i + 3) = 0)))) q)
theorem cs_did : Cs E M nm b h g i Ln xs 695 := by
  rintro X hs hZ hi cells slots Q ⟨S, I, V, J, N⟩ ⟨n, c, s, e, np, k, z, H⟩ hr kk
  have H : Rel S V N I I h g n c s e np k z := H
  have GE := X.glob
  refine r_aload_n (i := 1) X dL_law_695 rfl rfl ?_
  refine r_arg (k := 1) X hs dL_law_696 dL_law_697 dL_law_698 dL_law_699 dL_law_700 rfl (Nat.le_of_ble_eq_true rfl) hi ?_
  refine q_callV (As := [.int (xs (i + 1))]) (st := []) X dL_law_701 mL_82 cwX10_did (c_hDid GE S I V J N h c (xs (i + 1)) (ra_H H.1) (ra_c H.1) H.1.c6) rfl (ra_H H.1).1 rfl rfl rfl (Nat.le_of_ble_eq_true rfl) ⟨(Nat.le_of_ble_eq_true rfl), (Nat.le_of_ble_eq_true rfl)⟩ ⟨rm_1 hr.1 (Nat.le_of_ble_eq_true rfl), rm_1 hr.2 (Nat.le_of_ble_eq_true rfl)⟩ ?_
  rintro _ _ ⟨rfl, rfl⟩
  refine r_aload_n (i := 2) X dL_law_704 rfl rfl ?_
  refine r_arg (k := 1) X hs dL_law_705 dL_law_706 dL_law_707 dL_law_708 dL_law_709 rfl (Nat.le_of_ble_eq_true rfl) hi ?_
  refine q_callV (As := [.int (xs (i + 1))]) (st := [_]) X dL_law_710 mL_85 cwX13_did (c_mDid GE S I V J N g c (xs (i + 1)) (ra_M H.1) (ra_gc H.1) H.1.c6) rfl (ra_M H.1).1 rfl rfl rfl (Nat.le_of_ble_eq_true rfl) ⟨(Nat.le_of_ble_eq_true rfl), (Nat.le_of_ble_eq_true rfl)⟩ ⟨rm_2 hr.1 (Nat.le_of_ble_eq_true rfl), rm_2 hr.2 (Nat.le_of_ble_eq_true rfl)⟩ ?_
  rintro _ _ ⟨rfl, rfl⟩
  exact r_icmp_eq (tgt := 1083) X dL_law_713 rfl (fun _ => kk _ _ _ (rm_3 (Nat.le_of_ble_eq_true rfl)) (rm_3 (Nat.le_of_ble_eq_true rfl)) ⟨n, c, s, e, np, k, z, H.mem2 (fun b j _ => up0 (ra_0 H.1) b j) (fun b j _ _ => up0 (ra_0 H.1) b j)⟩) (fun q => absurd (ask_did H.1 (xs (i + 1))) q)
theorem cs_result : Cs E M nm b h g i Ln xs 718 := by
  rintro X hs hZ hi cells slots Q ⟨S, I, V, J, N⟩ ⟨n, c, s, e, np, k, z, H⟩ hr kk
  have H : Rel S V N I I h g n c s e np k z := H
  have GE := X.glob
  refine r_aload_n (i := 1) X dL_law_718 rfl rfl ?_
  refine r_arg (k := 1) X hs dL_law_719 dL_law_720 dL_law_721 dL_law_722 dL_law_723 rfl (Nat.le_of_ble_eq_true rfl) hi ?_
  refine q_callV (As := [.int (xs (i + 1))]) (st := []) X dL_law_724 mL_86 cwX10_result (c_hResult GE S I V J N h c n k (xs (i + 1)) (ra_H H.1) (ra_c H.1) H.1.c6 (ra_n H.1) H.1.n12 (ra_law H.1)) rfl (ra_H H.1).1 rfl rfl rfl (Nat.le_of_ble_eq_true rfl) ⟨(Nat.le_of_ble_eq_true rfl), (Nat.le_of_ble_eq_true rfl)⟩ ⟨rm_1 hr.1 (Nat.le_of_ble_eq_true rfl), rm_1 hr.2 (Nat.le_of_ble_eq_true rfl)⟩ ?_
  rintro _ _ ⟨rfl, rfl⟩
  refine r_aload_n (i := 2) X dL_law_727 rfl rfl ?_
  refine r_arg (k := 1) X hs dL_law_728 dL_law_729 dL_law_730 dL_law_731 dL_law_732 rfl (Nat.le_of_ble_eq_true rfl) hi ?_
  refine q_callV (As := [.int (xs (i + 1))]) (st := [_]) X dL_law_733 mL_89 cwX13_result (c_mResult GE S I V J N g c n k (xs (i + 1)) (ra_M H.1) (ra_R H.1) (ra_0 H.1) (ra_gc H.1) H.1.c6 (ra_gn H.1) H.1.n12 (ra_ml H.1) (ra_mt H.1)) rfl (ra_M H.1).1 rfl rfl rfl (Nat.le_of_ble_eq_true rfl) ⟨(Nat.le_of_ble_eq_true rfl), (Nat.le_of_ble_eq_true rfl)⟩ ⟨rm_2 hr.1 (Nat.le_of_ble_eq_true rfl), rm_2 hr.2 (Nat.le_of_ble_eq_true rfl)⟩ ?_
  rintro _ _ ⟨rfl, rfl⟩
  exact r_icmp_eq (tgt := 1083) X dL_law_736 rfl (fun _ => kk _ _ _ (rm_3 (Nat.le_of_ble_eq_true rfl)) (rm_3 (Nat.le_of_ble_eq_true rfl)) ⟨n, c, s, e, np, k, z, H⟩) (fun q => absurd (ask_result H.1 (xs (i + 1))) q)
theorem cs_lacks : Cs E M nm b h g i Ln xs 741 := by
  rintro X hs hZ hi cells slots Q ⟨S, I, V, J, N⟩ ⟨n, c, s, e, np, k, z, H⟩ hr kk
  have H : Rel S V N I I h g n c s e np k z := H
  have GE := X.glob
  refine r_aload_n (i := 1) X dL_law_741 rfl rfl ?_
  refine r_arg (k := 1) X hs dL_law_742 dL_law_743 dL_law_744 dL_law_745 dL_law_746 rfl (Nat.le_of_ble_eq_true rfl) hi ?_
  refine r_arg (k := 2) X hs dL_law_747 dL_law_748 dL_law_749 dL_law_750 dL_law_751 rfl (Nat.le_of_ble_eq_true rfl) hi ?_
  refine q_callV (As := [.int (xs (i + 1)), .int (xs (i + 2))]) (st := []) X dL_law_752 mL_90 cwX10_lacks (c_hLacks GE S I V J N h c n k (xs (i + 1)) (xs (i + 2)) (ra_H H.1) (ra_c H.1) H.1.c6 (ra_n H.1) H.1.n12 (ra_law H.1)) rfl (ra_H H.1).1 rfl rfl rfl (Nat.le_of_ble_eq_true rfl) ⟨(Nat.le_of_ble_eq_true rfl), (Nat.le_of_ble_eq_true rfl)⟩ ⟨rm_1 hr.1 (Nat.le_of_ble_eq_true rfl), rm_1 hr.2 (Nat.le_of_ble_eq_true rfl)⟩ ?_
  rintro _ _ ⟨rfl, rfl⟩
  refine r_aload_n (i := 2) X dL_law_755 rfl rfl ?_
  refine r_arg (k := 1) X hs dL_law_756 dL_law_757 dL_law_758 dL_law_759 dL_law_760 rfl (Nat.le_of_ble_eq_true rfl) hi ?_
  refine r_arg (k := 2) X hs dL_law_761 dL_law_762 dL_law_763 dL_law_764 dL_law_765 rfl (Nat.le_of_ble_eq_true rfl) hi ?_
  refine q_callV (As := [.int (xs (i + 1)), .int (xs (i + 2))]) (st := [_]) X dL_law_766 mL_93 cwX13_lacks (c_mLacks GE S I V J N g c n k (xs (i + 1)) (xs (i + 2)) (ra_M H.1) (ra_R H.1) (ra_0 H.1) (ra_gc H.1) H.1.c6 (ra_gn H.1) H.1.n12 (ra_ml H.1) (ra_mt H.1)) rfl (ra_M H.1).1 rfl rfl rfl (Nat.le_of_ble_eq_true rfl) ⟨(Nat.le_of_ble_eq_true rfl), (Nat.le_of_ble_eq_true rfl)⟩ ⟨rm_2 hr.1 (Nat.le_of_ble_eq_true rfl), rm_2 hr.2 (Nat.le_of_ble_eq_true rfl)⟩ ?_
  rintro _ _ ⟨rfl, rfl⟩
  exact r_icmp_eq (tgt := 1083) X dL_law_769 rfl (fun _ => kk _ _ _ (rm_3 (Nat.le_of_ble_eq_true rfl)) (rm_3 (Nat.le_of_ble_eq_true rfl)) ⟨n, c, s, e, np, k, z, H⟩) (fun q => absurd (ask_lacks H.1 (xs (i + 1)) (xs (i + 2))) q)
theorem cs_place : Cs E M nm b h g i Ln xs 774 := by
  rintro X hs hZ hi cells slots Q ⟨S, I, V, J, N⟩ ⟨n, c, s, e, np, k, z, H⟩ hr kk
  have H : Rel S V N I I h g n c s e np k z := H
  have GE := X.glob
  refine r_aload_n (i := 1) X dL_law_774 rfl rfl ?_
  refine r_arg (k := 1) X hs dL_law_775 dL_law_776 dL_law_777 dL_law_778 dL_law_779 rfl (Nat.le_of_ble_eq_true rfl) hi ?_
  refine q_callV (As := [.int (xs (i + 1))]) (st := []) X dL_law_780 mL_94 cwX10_place (c_hPlace GE S I V J N h c n k (xs (i + 1)) (ra_H H.1) (ra_c H.1) H.1.c6 (ra_n H.1) H.1.n12 (ra_law H.1) (ra_l H.1)) rfl (ra_H H.1).1 rfl rfl rfl (Nat.le_of_ble_eq_true rfl) ⟨(Nat.le_of_ble_eq_true rfl), (Nat.le_of_ble_eq_true rfl)⟩ ⟨rm_1 hr.1 (Nat.le_of_ble_eq_true rfl), rm_1 hr.2 (Nat.le_of_ble_eq_true rfl)⟩ ?_
  rintro _ _ ⟨rfl, rfl⟩
  refine r_aload_n (i := 2) X dL_law_783 rfl rfl ?_
  refine r_arg (k := 1) X hs dL_law_784 dL_law_785 dL_law_786 dL_law_787 dL_law_788 rfl (Nat.le_of_ble_eq_true rfl) hi ?_
  refine q_callV (As := [.int (xs (i + 1))]) (st := [_]) X dL_law_789 mL_97 cwX13_place (c_mPlace GE S I V J N g c n k (xs (i + 1)) (ra_M H.1) (ra_R H.1) (ra_0 H.1) (ra_gc H.1) H.1.c6 (ra_gn H.1) H.1.n12 (ra_ml H.1) (ra_mt H.1)) rfl (ra_M H.1).1 rfl rfl rfl (Nat.le_of_ble_eq_true rfl) ⟨(Nat.le_of_ble_eq_true rfl), (Nat.le_of_ble_eq_true rfl)⟩ ⟨rm_2 hr.1 (Nat.le_of_ble_eq_true rfl), rm_2 hr.2 (Nat.le_of_ble_eq_true rfl)⟩ ?_
  rintro _ _ ⟨rfl, rfl⟩
  exact r_icmp_eq (tgt := 1083) X dL_law_792 rfl (fun _ => kk _ _ _ (rm_3 (Nat.le_of_ble_eq_true rfl)) (rm_3 (Nat.le_of_ble_eq_true rfl)) ⟨n, c, s, e, np, k, z, H⟩) (fun q => absurd (ask_place H.1 (xs (i + 1))) q)
theorem cs_came : Cs E M nm b h g i Ln xs 797 := by
  rintro X hs hZ hi cells slots Q ⟨S, I, V, J, N⟩ ⟨n, c, s, e, np, k, z, H⟩ hr kk
  have H : Rel S V N I I h g n c s e np k z := H
  have GE := X.glob
  refine r_aload_n (i := 1) X dL_law_797 rfl rfl ?_
  refine r_arg (k := 1) X hs dL_law_798 dL_law_799 dL_law_800 dL_law_801 dL_law_802 rfl (Nat.le_of_ble_eq_true rfl) hi ?_
  refine r_arg (k := 2) X hs dL_law_803 dL_law_804 dL_law_805 dL_law_806 dL_law_807 rfl (Nat.le_of_ble_eq_true rfl) hi ?_
  refine q_callV (As := [.int (xs (i + 1)), .int (xs (i + 2))]) (st := []) X dL_law_808 mL_98 cwX10_came (c_hCame GE S I V J N h c n (xs (i + 1)) (xs (i + 2)) (ra_H H.1) (ra_c H.1) H.1.c6 (ra_n H.1) H.1.n12) rfl (ra_H H.1).1 rfl rfl rfl (Nat.le_of_ble_eq_true rfl) ⟨(Nat.le_of_ble_eq_true rfl), (Nat.le_of_ble_eq_true rfl)⟩ ⟨rm_1 hr.1 (Nat.le_of_ble_eq_true rfl), rm_1 hr.2 (Nat.le_of_ble_eq_true rfl)⟩ ?_
  rintro _ _ ⟨rfl, rfl⟩
  refine r_aload_n (i := 2) X dL_law_811 rfl rfl ?_
  refine r_arg (k := 1) X hs dL_law_812 dL_law_813 dL_law_814 dL_law_815 dL_law_816 rfl (Nat.le_of_ble_eq_true rfl) hi ?_
  refine r_arg (k := 2) X hs dL_law_817 dL_law_818 dL_law_819 dL_law_820 dL_law_821 rfl (Nat.le_of_ble_eq_true rfl) hi ?_
  refine q_callV (As := [.int (xs (i + 1)), .int (xs (i + 2))]) (st := [_]) X dL_law_822 mL_101 cwX13_came (c_mCame GE S I V J N g c n (xs (i + 1)) (xs (i + 2)) (ra_M H.1) (ra_0 H.1) (ra_gc H.1) H.1.c6 (ra_gn H.1) H.1.n12) rfl (ra_M H.1).1 rfl rfl rfl (Nat.le_of_ble_eq_true rfl) ⟨(Nat.le_of_ble_eq_true rfl), (Nat.le_of_ble_eq_true rfl)⟩ ⟨rm_2 hr.1 (Nat.le_of_ble_eq_true rfl), rm_2 hr.2 (Nat.le_of_ble_eq_true rfl)⟩ ?_
  rintro _ _ ⟨rfl, rfl⟩
  exact r_icmp_eq (tgt := 1083) X dL_law_825 rfl (fun _ => kk _ _ _ (rm_3 (Nat.le_of_ble_eq_true rfl)) (rm_3 (Nat.le_of_ble_eq_true rfl)) ⟨n, c, s, e, np, k, z, H⟩) (fun q => absurd (ask_came H.1 (xs (i + 1)) (xs (i + 2))) q)
theorem cs_spot : Cs E M nm b h g i Ln xs 830 := by
  rintro X hs hZ hi cells slots Q ⟨S, I, V, J, N⟩ ⟨n, c, s, e, np, k, z, H⟩ hr kk
  have H : Rel S V N I I h g n c s e np k z := H
  have GE := X.glob
  refine r_aload_n (i := 1) X dL_law_830 rfl rfl ?_
  refine r_arg (k := 1) X hs dL_law_831 dL_law_832 dL_law_833 dL_law_834 dL_law_835 rfl (Nat.le_of_ble_eq_true rfl) hi ?_
  refine r_arg (k := 2) X hs dL_law_836 dL_law_837 dL_law_838 dL_law_839 dL_law_840 rfl (Nat.le_of_ble_eq_true rfl) hi ?_
  refine r_arg (k := 3) X hs dL_law_841 dL_law_842 dL_law_843 dL_law_844 dL_law_845 rfl (Nat.le_of_ble_eq_true rfl) hi ?_
  refine r_bool X dL_law_846 dL_law_849 dL_law_850 dL_law_853 ?_
  refine q_callV (As := [.int (xs (i + 1)), .int (xs (i + 2)), .int (bI (!decide (xs (i + 3) = 0)))]) (st := []) X dL_law_854 mL_102 cwX10_spot (c_hSpot GE S I V J N h c e s n (rwA V h) (rwL S V h) (xs (i + 1)) (xs (i + 2)) (!decide (xs (i + 3) = 0)) (ra_H H.1) (ra_c H.1) H.1.c6 (ra_w H.1) (ra_e H.1) (ra_e0 H.1) (ra_e48 H.1) (ra_s H.1) (ra_s2 H.1) (ra_n H.1) H.1.n12) rfl (ra_H H.1).1 rfl rfl rfl (Nat.le_of_ble_eq_true rfl) ⟨(Nat.le_of_ble_eq_true rfl), (Nat.le_of_ble_eq_true rfl)⟩ ⟨rm_1 hr.1 (Nat.le_of_ble_eq_true rfl), rm_1 hr.2 (Nat.le_of_ble_eq_true rfl)⟩ ?_
  rintro _ _ ⟨rfl, rfl⟩
  refine r_aload_n (i := 2) X dL_law_857 rfl rfl ?_
  refine r_arg (k := 1) X hs dL_law_858 dL_law_859 dL_law_860 dL_law_861 dL_law_862 rfl (Nat.le_of_ble_eq_true rfl) hi ?_
  refine r_arg (k := 2) X hs dL_law_863 dL_law_864 dL_law_865 dL_law_866 dL_law_867 rfl (Nat.le_of_ble_eq_true rfl) hi ?_
  refine r_arg (k := 3) X hs dL_law_868 dL_law_869 dL_law_870 dL_law_871 dL_law_872 rfl (Nat.le_of_ble_eq_true rfl) hi ?_
  refine r_bool X dL_law_873 dL_law_876 dL_law_877 dL_law_880 ?_
  refine q_callV (As := [.int (xs (i + 1)), .int (xs (i + 2)), .int (bI (!decide (xs (i + 3) = 0)))]) (st := [_]) X dL_law_881 mL_105 cwX13_spot (c_mSpot GE S I V J N g c n (xs (i + 1)) (xs (i + 2)) (bI (!decide (xs (i + 3) = 0))) (ra_M H.1) (ra_0 H.1) (ra_gc H.1) H.1.c6 (ra_gn H.1) H.1.n12 (ra_ms H.1)) rfl (ra_M H.1).1 rfl rfl rfl (Nat.le_of_ble_eq_true rfl) ⟨(Nat.le_of_ble_eq_true rfl), (Nat.le_of_ble_eq_true rfl)⟩ ⟨rm_2 hr.1 (Nat.le_of_ble_eq_true rfl), rm_2 hr.2 (Nat.le_of_ble_eq_true rfl)⟩ ?_
  rintro _ _ ⟨rfl, rfl⟩
  exact r_icmp_eq (tgt := 1083) X dL_law_884 rfl (fun _ => kk _ _ _ (rm_3 (Nat.le_of_ble_eq_true rfl)) (rm_3 (Nat.le_of_ble_eq_true rfl)) ⟨n, c, s, e, np, k, z, H⟩) (fun q => absurd (ask_spot H.1 (xs (i + 1)) (xs (i + 2)) (!decide (xs (i + 3) = 0))) q)
theorem cs_signs : Cs E M nm b h g i Ln xs 889 := by
  rintro X hs hZ hi cells slots Q ⟨S, I, V, J, N⟩ ⟨n, c, s, e, np, k, z, H⟩ hr kk
  have H : Rel S V N I I h g n c s e np k z := H
  have GE := X.glob
  refine r_aload_n (i := 1) X dL_law_889 rfl rfl ?_
  refine r_arg (k := 1) X hs dL_law_890 dL_law_891 dL_law_892 dL_law_893 dL_law_894 rfl (Nat.le_of_ble_eq_true rfl) hi ?_
  refine q_callV (As := [.int (xs (i + 1))]) (st := []) X dL_law_895 mL_106 cwX10_signs (c_hSigns GE S I V J N h c e s (rwA V h) (rwL S V h) (xs (i + 1)) (ra_H H.1) (ra_c H.1) H.1.c6 (ra_w H.1) (ra_e H.1) (ra_e0 H.1) (ra_e48 H.1) (ra_s H.1) (ra_s2 H.1)) rfl (ra_H H.1).1 rfl rfl rfl (Nat.le_of_ble_eq_true rfl) ⟨(Nat.le_of_ble_eq_true rfl), (Nat.le_of_ble_eq_true rfl)⟩ ⟨rm_1 hr.1 (Nat.le_of_ble_eq_true rfl), rm_1 hr.2 (Nat.le_of_ble_eq_true rfl)⟩ ?_
  rintro _ _ ⟨rfl, rfl⟩
  refine r_aload_n (i := 2) X dL_law_898 rfl rfl ?_
  refine r_arg (k := 1) X hs dL_law_899 dL_law_900 dL_law_901 dL_law_902 dL_law_903 rfl (Nat.le_of_ble_eq_true rfl) hi ?_
  refine q_callV (As := [.int (xs (i + 1))]) (st := [_]) X dL_law_904 mL_109 cwX13_signs (c_mSigns GE S I V J N g c (xs (i + 1)) (ra_M H.1) (ra_0 H.1) (ra_gc H.1) H.1.c6) rfl (ra_M H.1).1 rfl rfl rfl (Nat.le_of_ble_eq_true rfl) ⟨(Nat.le_of_ble_eq_true rfl), (Nat.le_of_ble_eq_true rfl)⟩ ⟨rm_2 hr.1 (Nat.le_of_ble_eq_true rfl), rm_2 hr.2 (Nat.le_of_ble_eq_true rfl)⟩ ?_
  rintro _ _ ⟨rfl, rfl⟩
  exact r_icmp_eq (tgt := 1083) X dL_law_907 rfl (fun _ => kk _ _ _ (rm_3 (Nat.le_of_ble_eq_true rfl)) (rm_3 (Nat.le_of_ble_eq_true rfl)) ⟨n, c, s, e, np, k, z, H⟩) (fun q => absurd (ask_signs H.1 (xs (i + 1))) q)
theorem cs_replay : Cs E M nm b h g i Ln xs 912 := by
  rintro X hs hZ hi cells slots Q ⟨S, I, V, J, N⟩ ⟨n, c, s, e, np, k, z, H⟩ hr kk
  have H : Rel S V N I I h g n c s e np k z := H
  have GE := X.glob
  refine r_aload_n (i := 1) X dL_law_912 rfl rfl ?_
  refine r_arg (k := 1) X hs dL_law_913 dL_law_914 dL_law_915 dL_law_916 dL_law_917 rfl (Nat.le_of_ble_eq_true rfl) hi ?_
  refine r_arg (k := 2) X hs dL_law_918 dL_law_919 dL_law_920 dL_law_921 dL_law_922 rfl (Nat.le_of_ble_eq_true rfl) hi ?_
  refine r_arg (k := 3) X hs dL_law_923 dL_law_924 dL_law_925 dL_law_926 dL_law_927 rfl (Nat.le_of_ble_eq_true rfl) hi ?_
  refine q_callV (As := [.int (xs (i + 1)), .int (xs (i + 2)), .int (xs (i + 3))]) (st := []) X dL_law_928 mL_110 cwX10_replay (c_hReplay GE S I V J N h c np s n (xs (i + 1)) (xs (i + 2)) (xs (i + 3)) (ra_H H.1) (ra_c H.1) H.1.c6 (ra_p H.1) (ra_p9 H.1) (ra_s H.1) (ra_s2 H.1) (ra_n H.1) H.1.n12 (ra_po H.1) (ra_t H.1) (ra_gh H.1)) rfl (ra_H H.1).1 rfl rfl rfl (Nat.le_of_ble_eq_true rfl) ⟨(Nat.le_of_ble_eq_true rfl), (Nat.le_of_ble_eq_true rfl)⟩ ⟨rm_1 hr.1 (Nat.le_of_ble_eq_true rfl), rm_1 hr.2 (Nat.le_of_ble_eq_true rfl)⟩ ?_
  rintro _ _ ⟨rfl, rfl⟩
  have hg := H.1.mn
  have F : Kp (Inn g) I (hReplay I h c np s n (xs (i + 1)) (xs (i + 2)) (xs (i + 3))).2 := by rw [hg]; exact fh_replay
  have H0 := H.ref F
  have H1 := H0.1
  obtain ⟨A, R⟩ := do_replay H0 (xs (i + 1)) (xs (i + 2)) (xs (i + 3))
  refine r_aload_n (i := 2) X dL_law_931 rfl rfl ?_
  refine r_arg (k := 1) X hs dL_law_932 dL_law_933 dL_law_934 dL_law_935 dL_law_936 rfl (Nat.le_of_ble_eq_true rfl) hi ?_
  refine r_arg (k := 2) X hs dL_law_937 dL_law_938 dL_law_939 dL_law_940 dL_law_941 rfl (Nat.le_of_ble_eq_true rfl) hi ?_
  refine r_arg (k := 3) X hs dL_law_942 dL_law_943 dL_law_944 dL_law_945 dL_law_946 rfl (Nat.le_of_ble_eq_true rfl) hi ?_
  refine q_callV (As := [.int (xs (i + 1)), .int (xs (i + 2)), .int (xs (i + 3))]) (st := [_]) X dL_law_947 mL_113 cwX13_replay (c_mReplay GE S _ V J N g c e n np s (xs (i + 1)) (xs (i + 2)) (xs (i + 3)) (rel_ms H1) (ra_m0 H1) (ra_n0 H1)) rfl (ra_M H1).1 rfl rfl rfl (Nat.le_of_ble_eq_true rfl) ⟨(Nat.le_of_ble_eq_true rfl), (Nat.le_of_ble_eq_true rfl)⟩ ⟨rm_2 hr.1 (Nat.le_of_ble_eq_true rfl), rm_2 hr.2 (Nat.le_of_ble_eq_true rfl)⟩ ?_
  rintro _ _ ⟨rfl, rfl⟩
  exact r_icmp_eq (tgt := 1083) X dL_law_950 rfl (fun _ => kk _ _ _ (rm_3 (Nat.le_of_ble_eq_true rfl)) (rm_3 (Nat.le_of_ble_eq_true rfl)) ⟨_, _, _, _, _, _, _, R.cls (fo_replay)⟩) (fun q => absurd A q)
theorem cs_law : Cs E M nm b h g i Ln xs 981 := by
  rintro X hs hZ hi cells slots Q ⟨S, I, V, J, N⟩ ⟨n, c, s, e, np, k, z, H⟩ hr kk
  have H : Rel S V N I I h g n c s e np k z := H
  have GE := X.glob
  refine r_aload_n (i := 1) X dL_law_981 rfl rfl ?_
  refine r_arg (k := 1) X hs dL_law_982 dL_law_983 dL_law_984 dL_law_985 dL_law_986 rfl (Nat.le_of_ble_eq_true rfl) hi ?_
  refine r_arg (k := 2) X hs dL_law_987 dL_law_988 dL_law_989 dL_law_990 dL_law_991 rfl (Nat.le_of_ble_eq_true rfl) hi ?_
  refine q_callV (As := [.int (xs (i + 1)), .int (xs (i + 2))]) (st := []) X dL_law_992 mL_123 cwX10_law (c_hLaw GE S I V J N h k (xs (i + 1)) (xs (i + 2)) (ra_H H.1) (ra_k H.1) (ra_k10 H.1)) rfl (ra_H H.1).1 rfl rfl rfl (Nat.le_of_ble_eq_true rfl) ⟨(Nat.le_of_ble_eq_true rfl), (Nat.le_of_ble_eq_true rfl)⟩ ⟨rm_1 hr.1 (Nat.le_of_ble_eq_true rfl), rm_1 hr.2 (Nat.le_of_ble_eq_true rfl)⟩ ?_
  rintro _ _ ⟨rfl, rfl⟩
  refine r_aload_n (i := 2) X dL_law_995 rfl rfl ?_
  refine r_arg (k := 1) X hs dL_law_996 dL_law_997 dL_law_998 dL_law_999 dL_law_1000 rfl (Nat.le_of_ble_eq_true rfl) hi ?_
  refine r_arg (k := 2) X hs dL_law_1001 dL_law_1002 dL_law_1003 dL_law_1004 dL_law_1005 rfl (Nat.le_of_ble_eq_true rfl) hi ?_
  refine q_callV (As := [.int (xs (i + 1)), .int (xs (i + 2))]) (st := [_]) X dL_law_1006 mL_126 cwX13_law (c_mLaw GE S I V J N g k (xs (i + 1)) (xs (i + 2)) (ra_M H.1) (ra_R H.1) (ra_0 H.1) (ra_gk H.1) (ra_k10 H.1)) rfl (ra_M H.1).1 rfl rfl rfl (Nat.le_of_ble_eq_true rfl) ⟨(Nat.le_of_ble_eq_true rfl), (Nat.le_of_ble_eq_true rfl)⟩ ⟨rm_2 hr.1 (Nat.le_of_ble_eq_true rfl), rm_2 hr.2 (Nat.le_of_ble_eq_true rfl)⟩ ?_
  rintro _ _ ⟨rfl, rfl⟩
  exact r_icmp_eq (tgt := 1083) X dL_law_1009 rfl (fun _ => kk _ _ _ (rm_3 (Nat.le_of_ble_eq_true rfl)) (rm_3 (Nat.le_of_ble_eq_true rfl)) ⟨n, c, s, e, np, k, z, H⟩) (fun q => absurd (ask_law H.1 (xs (i + 1)) (xs (i + 2))) q)
theorem cs_planned : Cs E M nm b h g i Ln xs 1014 := by
  rintro X hs hZ hi cells slots Q ⟨S, I, V, J, N⟩ ⟨n, c, s, e, np, k, z, H⟩ hr kk
  have H : Rel S V N I I h g n c s e np k z := H
  have GE := X.glob
  refine r_aload_n (i := 1) X dL_law_1014 rfl rfl ?_
  refine r_arg (k := 1) X hs dL_law_1015 dL_law_1016 dL_law_1017 dL_law_1018 dL_law_1019 rfl (Nat.le_of_ble_eq_true rfl) hi ?_
  refine r_arg (k := 2) X hs dL_law_1020 dL_law_1021 dL_law_1022 dL_law_1023 dL_law_1024 rfl (Nat.le_of_ble_eq_true rfl) hi ?_
  refine q_callV (As := [.int (xs (i + 1)), .int (xs (i + 2))]) (st := []) X dL_law_1025 mL_127 cwX10_planned (c_hPlanned GE S I V J N h np (xs (i + 1)) (xs (i + 2)) (ra_H H.1) (ra_p H.1) (ra_p8 H.1)) rfl (ra_H H.1).1 rfl rfl rfl (Nat.le_of_ble_eq_true rfl) ⟨(Nat.le_of_ble_eq_true rfl), (Nat.le_of_ble_eq_true rfl)⟩ ⟨rm_1 hr.1 (Nat.le_of_ble_eq_true rfl), rm_1 hr.2 (Nat.le_of_ble_eq_true rfl)⟩ ?_
  rintro _ _ ⟨rfl, rfl⟩
  refine r_aload_n (i := 2) X dL_law_1028 rfl rfl ?_
  refine r_arg (k := 1) X hs dL_law_1029 dL_law_1030 dL_law_1031 dL_law_1032 dL_law_1033 rfl (Nat.le_of_ble_eq_true rfl) hi ?_
  refine r_arg (k := 2) X hs dL_law_1034 dL_law_1035 dL_law_1036 dL_law_1037 dL_law_1038 rfl (Nat.le_of_ble_eq_true rfl) hi ?_
  refine q_callV (As := [.int (xs (i + 1)), .int (xs (i + 2))]) (st := [_]) X dL_law_1039 mL_130 cwX13_planned (c_mPlanned GE S I V J N g np (xs (i + 1)) (xs (i + 2)) (ra_M H.1) (ra_R H.1) (ra_0 H.1) (ra_gp H.1) (ra_p8 H.1) (ra_pn H.1)) rfl (ra_M H.1).1 rfl rfl rfl (Nat.le_of_ble_eq_true rfl) ⟨(Nat.le_of_ble_eq_true rfl), (Nat.le_of_ble_eq_true rfl)⟩ ⟨rm_2 hr.1 (Nat.le_of_ble_eq_true rfl), rm_2 hr.2 (Nat.le_of_ble_eq_true rfl)⟩ ?_
  rintro _ _ ⟨rfl, rfl⟩
  exact r_icmp_eq (tgt := 1083) X dL_law_1042 rfl (fun _ => kk _ _ _ (rm_3 (Nat.le_of_ble_eq_true rfl)) (rm_3 (Nat.le_of_ble_eq_true rfl)) ⟨n, c, s, e, np, k, z, H⟩) (fun q => absurd (ask_planned H.1 (xs (i + 1)) (xs (i + 2))) q)
theorem cs_count : Cs E M nm b h g i Ln xs 1047 := by
  rintro X hs hZ hi cells slots Q ⟨S, I, V, J, N⟩ ⟨n, c, s, e, np, k, z, H⟩ hr kk
  have H : Rel S V N I I h g n c s e np k z := H
  have GE := X.glob
  refine r_aload_n (i := 1) X dL_law_1047 rfl rfl ?_
  refine r_arg (k := 1) X hs dL_law_1048 dL_law_1049 dL_law_1050 dL_law_1051 dL_law_1052 rfl (Nat.le_of_ble_eq_true rfl) hi ?_
  refine q_callV (As := [.int (xs (i + 1))]) (st := []) X dL_law_1053 mL_131 cwX10_count (c_hCount GE S I V J N h n (xs (i + 1)) (ra_H H.1) (ra_n H.1) H.1.n12) rfl (ra_H H.1).1 rfl rfl rfl (Nat.le_of_ble_eq_true rfl) ⟨(Nat.le_of_ble_eq_true rfl), (Nat.le_of_ble_eq_true rfl)⟩ ⟨rm_1 hr.1 (Nat.le_of_ble_eq_true rfl), rm_1 hr.2 (Nat.le_of_ble_eq_true rfl)⟩ ?_
  rintro _ _ ⟨rfl, rfl⟩
  refine r_aload_n (i := 2) X dL_law_1056 rfl rfl ?_
  refine r_arg (k := 1) X hs dL_law_1057 dL_law_1058 dL_law_1059 dL_law_1060 dL_law_1061 rfl (Nat.le_of_ble_eq_true rfl) hi ?_
  refine q_callV (As := [.int (xs (i + 1))]) (st := [_]) X dL_law_1062 mL_134 cwX13_count (c_mCount GE S I V J N g n (xs (i + 1)) (ra_M H.1) (ra_0 H.1) (ra_gn H.1) H.1.n12) rfl (ra_M H.1).1 rfl rfl rfl (Nat.le_of_ble_eq_true rfl) ⟨(Nat.le_of_ble_eq_true rfl), (Nat.le_of_ble_eq_true rfl)⟩ ⟨rm_2 hr.1 (Nat.le_of_ble_eq_true rfl), rm_2 hr.2 (Nat.le_of_ble_eq_true rfl)⟩ ?_
  rintro _ _ ⟨rfl, rfl⟩
  exact r_icmp_eq (tgt := 1083) X dL_law_1065 rfl (fun _ => kk _ _ _ (rm_3 (Nat.le_of_ble_eq_true rfl)) (rm_3 (Nat.le_of_ble_eq_true rfl)) ⟨n, c, s, e, np, k, z, H⟩) (fun q => absurd (ask_count H.1 (xs (i + 1))) q)
theorem cs_trouble : Cs E M nm b h g i Ln xs 1070 := by
  rintro X hs hZ hi cells slots Q ⟨S, I, V, J, N⟩ ⟨n, c, s, e, np, k, z, H⟩ hr kk
  have H : Rel S V N I I h g n c s e np k z := H
  have GE := X.glob
  refine r_aload_n (i := 1) X dL_law_1070 rfl rfl ?_
  refine q_callV (As := []) (st := []) X dL_law_1071 mL_135 cwX10_trouble (c_hTrouble GE S I V J N h (ra_H H.1)) rfl (ra_H H.1).1 rfl rfl rfl (Nat.le_of_ble_eq_true rfl) ⟨(Nat.le_of_ble_eq_true rfl), (Nat.le_of_ble_eq_true rfl)⟩ ⟨rm_1 hr.1 (Nat.le_of_ble_eq_true rfl), rm_1 hr.2 (Nat.le_of_ble_eq_true rfl)⟩ ?_
  rintro _ _ ⟨rfl, rfl⟩
  refine r_aload_n (i := 2) X dL_law_1074 rfl rfl ?_
  refine q_callV (As := []) (st := [_]) X dL_law_1075 mL_138 cwX13_trouble (c_mTrouble GE S I V J N g (ra_M H.1).1 ) rfl (ra_M H.1).1 rfl rfl rfl (Nat.le_of_ble_eq_true rfl) ⟨(Nat.le_of_ble_eq_true rfl), (Nat.le_of_ble_eq_true rfl)⟩ ⟨rm_2 hr.1 (Nat.le_of_ble_eq_true rfl), rm_2 hr.2 (Nat.le_of_ble_eq_true rfl)⟩ ?_
  rintro _ _ ⟨rfl, rfl⟩
  exact r_icmp_eq (tgt := 1083) X dL_law_1078 rfl (fun _ => kk _ _ _ (rm_3 (Nat.le_of_ble_eq_true rfl)) (rm_3 (Nat.le_of_ble_eq_true rfl)) ⟨n, c, s, e, np, k, z, H.mem2 (fun b j _ => up0 (ra_0 H.1) b j) (fun b j _ _ => up0 (ra_0 H.1) b j)⟩) (fun q => absurd (H.2.1) q)
theorem cs_run : Cs E M nm b h g i Ln xs 537 := by
  rintro X hs hZ hi cells slots Q ⟨S, I, V, J, N⟩ ⟨n, c, s, e, np, k, z, H⟩ hr kk
  have H : Rel S V N I I h g n c s e np k z := H
  have GE := X.glob
  have F : Kp (Inn g) I (hRun h c e s (S, I, V, J, N) (xs (i + 1))).2.2.1 := fun b j q => (do_run (J := J) H (xs (i + 1))).2.2 b j q.1 q.2
  have H0 := H.ref F
  obtain ⟨A, ⟨s1, R⟩, -⟩ := do_run (J := J) H0 (xs (i + 1))
  refine r_aload_n (i := 1) X dL_law_537 rfl rfl ?_
  refine r_arg (k := 1) X hs dL_law_538 dL_law_539 dL_law_540 dL_law_541 dL_law_542 rfl (Nat.le_of_ble_eq_true rfl) hi ?_
  refine q_callV (As := [.int (xs (i + 1))]) (st := []) X dL_law_543 mL_65 cwX10_run (c_hRun GE S I V J N h c e n np s (xs (i + 1)) (rel_hs H.1)) rfl (ra_H H.1).1 rfl rfl rfl (Nat.le_of_ble_eq_true rfl) ⟨(Nat.le_of_ble_eq_true rfl), (Nat.le_of_ble_eq_true rfl)⟩ ⟨rm_1 hr.1 (Nat.le_of_ble_eq_true rfl), rm_1 hr.2 (Nat.le_of_ble_eq_true rfl)⟩ ?_
  rintro _ _ ⟨rfl, rfl⟩
  have M0 := rel_ms H0.1
  have W1 := R.cls (fo_run (e := e) (n := n) (u := s) (x := xs (i + 1)) H.1.c6)
  generalize (hRun h c e s (S, I, V, J, N) (xs (i + 1))) = U at *
  obtain ⟨v, S1, I1, V1, J1, N1⟩ := U
  have hM := ra_M R.1
  have M1 : MS g c e n np s S1 I1 V1 := ⟨hM, ra_R R.1, M0.2.2⟩
  refine r_aload_n (i := 2) X dL_law_546 rfl rfl ?_
  refine r_arg (k := 1) X hs dL_law_547 dL_law_548 dL_law_549 dL_law_550 dL_law_551 rfl (Nat.le_of_ble_eq_true rfl) hi ?_
  refine q_callV (As := [.int (xs (i + 1))]) (st := [_]) X dL_law_552 mL_68 cwX13_run (c_mRun GE S1 I1 V1 J1 N1 g c e n np s (xs (i + 1)) M1) rfl hM.1 rfl rfl rfl (Nat.le_of_ble_eq_true rfl) ⟨(Nat.le_of_ble_eq_true rfl), (Nat.le_of_ble_eq_true rfl)⟩ ⟨rm_2 hr.1 (Nat.le_of_ble_eq_true rfl), rm_2 hr.2 (Nat.le_of_ble_eq_true rfl)⟩ ?_
  rintro _ _ ⟨rfl, rfl⟩
  exact r_icmp_eq (tgt := 1083) X dL_law_555 rfl (fun _ => kk _ _ _ (rm_3 (Nat.le_of_ble_eq_true rfl)) (rm_3 (Nat.le_of_ble_eq_true rfl)) ⟨_, _, _, _, _, _, _, W1⟩) (fun q => absurd A q)
theorem cs_keep : Cs E M nm b h g i Ln xs 955 := by
  rintro X hs hZ hi cells slots Q ⟨S, I, V, J, N⟩ ⟨n, c, s, e, np, k, z, H⟩ hr kk
  have H : Rel S V N I I h g n c s e np k z := H
  have GE := X.glob
  refine r_aload_n (i := 1) X dL_law_955 rfl rfl ?_
  have hg := H.1.mn
  rcases hV : V h 6 with _ | K
  · refine q_callV (As := []) (st := []) X dL_law_956 mL_114 cwX10_keep (c_hKeep0 GE S I V J N h c (ra_H H.1) (ra_N H.1) hV (ra_c H.1) H.1.c6) rfl (ra_H H.1).1 rfl rfl rfl (Nat.le_of_ble_eq_true rfl) ⟨(Nat.le_of_ble_eq_true rfl), (Nat.le_of_ble_eq_true rfl)⟩ ⟨rm_1 hr.1 (Nat.le_of_ble_eq_true rfl), rm_1 hr.2 (Nat.le_of_ble_eq_true rfl)⟩ ?_
    rintro _ _ ⟨rfl, S1, I1, V1, J1, rfl, ho, hRc, -⟩
    have hN := H.1.1.2.2.2.2.1
    have F : Kp (Inn g) I (rCopy I1 N (h + 9) c) := fun b j q => (rCopy_o H.1.c6 (Or.inl (by omega))).trans (congrFun (ho b (by omega)).2.1 j)
    have H0 := H.ref F
    have H1 := H0.1
    have R := do_keep0 H0 (fun x hx => ⟨(ho x hx).1, (ho x hx).2.1, (ho x hx).2.2.1⟩) hRc
    refine r_aload_n (i := 2) X dL_law_959 rfl rfl ?_
    refine q_callV (As := []) (st := [_]) X dL_law_960 mL_118 cwX13_keep (c_mKeep GE S1 _ (up2 V1 h 6 (some N)) J1 (N + 67) g c (ra_M R.1) (ra_0 H1) (ra_gc H1) H1.c6 (fun i hi => ⟨ra_ms H1 i hi, ra_mg H1 i hi⟩)) rfl (ra_M R.1).1 rfl rfl rfl (Nat.le_of_ble_eq_true rfl) ⟨(Nat.le_of_ble_eq_true rfl), (Nat.le_of_ble_eq_true rfl)⟩ ⟨rm_2 hr.1 (Nat.le_of_ble_eq_true rfl), rm_2 hr.2 (Nat.le_of_ble_eq_true rfl)⟩ ?_
    rintro _ _ ⟨rfl, rfl⟩
    exact r_icmp_eq (tgt := 1083) X dL_law_963 rfl (fun _ => kk _ _ _ (rm_3 (Nat.le_of_ble_eq_true rfl)) (rm_3 (Nat.le_of_ble_eq_true rfl)) ⟨_, _, _, _, _, _, _, R.cls (fo_keep H1.c6)⟩) (fun q => absurd rfl q)
  · obtain ⟨k1, k2, k3⟩ := ra_kp H.1 hV
    refine q_callV (As := []) (st := []) X dL_law_956 mL_114 cwX10_keep (c_hKeep1 GE S I V J N h K c (ra_H H.1) hV k1 (ra_c H.1) H.1.c6 k2) rfl (ra_H H.1).1 rfl rfl rfl (Nat.le_of_ble_eq_true rfl) ⟨(Nat.le_of_ble_eq_true rfl), (Nat.le_of_ble_eq_true rfl)⟩ ⟨rm_1 hr.1 (Nat.le_of_ble_eq_true rfl), rm_1 hr.2 (Nat.le_of_ble_eq_true rfl)⟩ ?_
    rintro _ _ ⟨rfl, rfl⟩
    have F : Kp (Inn g) I (rCopy I K (h + 9) c) := fun b j q => rCopy_o H.1.c6 (Or.inl (by omega))
    have H0 := H.ref F
    have H1 := H0.1
    have R := do_keep1 H0 hV
    refine r_aload_n (i := 2) X dL_law_959 rfl rfl ?_
    refine q_callV (As := []) (st := [_]) X dL_law_960 mL_118 cwX13_keep (c_mKeep GE S _ V J N g c (ra_M H1) (ra_0 H1) (ra_gc H1) H1.c6 (fun i hi => ⟨ra_ms H1 i hi, ra_mg H1 i hi⟩)) rfl (ra_M H1).1 rfl rfl rfl (Nat.le_of_ble_eq_true rfl) ⟨(Nat.le_of_ble_eq_true rfl), (Nat.le_of_ble_eq_true rfl)⟩ ⟨rm_2 hr.1 (Nat.le_of_ble_eq_true rfl), rm_2 hr.2 (Nat.le_of_ble_eq_true rfl)⟩ ?_
    rintro _ _ ⟨rfl, rfl⟩
    exact r_icmp_eq (tgt := 1083) X dL_law_963 rfl (fun _ => kk _ _ _ (rm_3 (Nat.le_of_ble_eq_true rfl)) (rm_3 (Nat.le_of_ble_eq_true rfl)) ⟨_, _, _, _, _, _, _, R.cls (fo_keep H1.c6)⟩) (fun q => absurd rfl q)
theorem cs_back : Cs E M nm b h g i Ln xs 968 := by
  rintro X hs hZ hi cells slots Q ⟨S, I, V, J, N⟩ ⟨n, c, s, e, np, k, z, H⟩ hr kk
  have H : Rel S V N I I h g n c s e np k z := H
  have GE := X.glob
  refine r_aload_n (i := 1) X dL_law_968 rfl rfl ?_
  have hg := H.1.mn
  rcases hV : V h 6 with _ | K
  · refine q_callV (As := []) (st := []) X dL_law_969 mL_119 cwX10_back (c_hBack0 GE S I V J N h (ra_H H.1) hV) rfl (ra_H H.1).1 rfl rfl rfl (Nat.le_of_ble_eq_true rfl) ⟨(Nat.le_of_ble_eq_true rfl), (Nat.le_of_ble_eq_true rfl)⟩ ⟨rm_1 hr.1 (Nat.le_of_ble_eq_true rfl), rm_1 hr.2 (Nat.le_of_ble_eq_true rfl)⟩ ?_
    rintro _ _ ⟨rfl, rfl⟩
    have F : Kp (Inn g) I (up2 I h 8 1) := fun b j q => up2_a (by omega)
    have H0 := H.ref F
    have H1 := H0.1
    obtain ⟨A, R⟩ := do_back0 H0 hV 0
    refine r_aload_n (i := 2) X dL_law_972 rfl rfl ?_
    refine q_callV (As := []) (st := [_]) X dL_law_973 mL_122 cwX13_back (c_mBack GE S _ V J N g 0 (ra_M H1) (ra_0 H1) (fun q => absurd (ra_k0 H1 hV) q)) rfl (ra_M H1).1 rfl rfl rfl (Nat.le_of_ble_eq_true rfl) ⟨(Nat.le_of_ble_eq_true rfl), (Nat.le_of_ble_eq_true rfl)⟩ ⟨rm_2 hr.1 (Nat.le_of_ble_eq_true rfl), rm_2 hr.2 (Nat.le_of_ble_eq_true rfl)⟩ ?_
    rintro _ _ ⟨rfl, rfl⟩
    have C := R.cls (fo_trb (g := g) (x := 1) (I := up2 I h 8 1) (I1 := up2 I h 8 1) (fun _ _ _ => rfl))
    rw [A]
    exact r_icmp_eq (tgt := 1083) X dL_law_976 rfl (fun _ => kk _ _ _ (rm_3 (Nat.le_of_ble_eq_true rfl)) (rm_3 (Nat.le_of_ble_eq_true rfl)) ⟨_, _, _, _, _, _, _, C⟩) (fun q => absurd rfl q)
  · obtain ⟨n1, c1, s1, e1, ⟨b1, b2, b3, b4, b5, b6, b7⟩, -⟩ := do_back1 H hV
    refine q_callV (As := []) (st := []) X dL_law_969 mL_119 cwX10_back (c_hBack1 GE S I V J N h K c1 (ra_H H.1) hV b5 b1 b2 b6) rfl (ra_H H.1).1 rfl rfl rfl (Nat.le_of_ble_eq_true rfl) ⟨(Nat.le_of_ble_eq_true rfl), (Nat.le_of_ble_eq_true rfl)⟩ ⟨rm_1 hr.1 (Nat.le_of_ble_eq_true rfl), rm_1 hr.2 (Nat.le_of_ble_eq_true rfl)⟩ ?_
    rintro _ _ ⟨rfl, rfl⟩
    have F : Kp (Inn g) I (hBack I h K c1) := by rw [hg]; exact fh_back b2
    have H0 := H.ref F
    have H1 := H0.1
    obtain ⟨n2, c2, s2, e2, ⟨d1, d2, d3, d4, d5, d6, d7⟩, R⟩ := do_back1 H0 hV
    obtain rfl : c1 = c2 := (nI_eq (by omega) (by omega)).mp (b1.symm.trans d1)
    refine r_aload_n (i := 2) X dL_law_972 rfl rfl ?_
    refine q_callV (As := []) (st := [_]) X dL_law_973 mL_122 cwX13_back (c_mBack GE S _ V J N g c1 (ra_M H1) (ra_0 H1) (fun _ => ⟨d3, d2, d7⟩)) rfl (ra_M H1).1 rfl rfl rfl (Nat.le_of_ble_eq_true rfl) ⟨(Nat.le_of_ble_eq_true rfl), (Nat.le_of_ble_eq_true rfl)⟩ ⟨rm_2 hr.1 (Nat.le_of_ble_eq_true rfl), rm_2 hr.2 (Nat.le_of_ble_eq_true rfl)⟩ ?_
    rintro _ _ ⟨rfl, rfl⟩
    have C := fo_back (I := hBack I h K c1) (g := g) b2
    rw [mBack, if_neg d4] at C ⊢
    exact r_icmp_eq (tgt := 1083) X dL_law_976 rfl (fun _ => kk _ _ _ (rm_3 (Nat.le_of_ble_eq_true rfl)) (rm_3 (Nat.le_of_ble_eq_true rfl)) ⟨_, _, _, _, _, _, _, R.cls C⟩) (fun q => absurd rfl q)
end LCS
