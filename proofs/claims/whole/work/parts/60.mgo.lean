/-! ===== the reference: goes ===== -/
theorem mOf_nI (I : Mem) (t : Nat) (x : Int32) : ∀ j, ∃ c, c ≤ j ∧ mOf I t x j = nI c
  | 0 => ⟨0, by omega, rfl⟩
  | j + 1 => by
    obtain ⟨c, hc, e⟩ := mOf_nI I t x j
    unfold mOf
    split
    · exact ⟨c + 1, by omega, by rw [e]; exact nI_1 c⟩
    · exact ⟨c, by omega, by rw [e, Int32.add_zero]⟩
theorem iMax_0 {y : Int32} (h : iMax 0 y ≤ 0) : iMax 0 y = 0 := by
  unfold iMax at *
  split at h
  · exact absurd h (Int32.not_le.mpr (by assumption))
  · rename_i q
    rw [if_neg q]
theorem iMax_p {y : Int32} (h : ¬ iMax 0 y ≤ 0) : ¬ iMax 0 y = 0 := fun z => h (by rw [z]; decide)
/-- one dog of the way -/
def mLose1 (I : Mem) (t j : Nat) (x : Int32) : Mem :=
  if I (t + 2) j = 0 then
    if iMax 0 (I (t + 1) j - x) = 0 then up2 (up2 I (t + 1) j (iMax 0 (I (t + 1) j - x))) (t + 2) j 1
    else up2 I (t + 1) j (iMax 0 (I (t + 1) j - x))
  else I
def mLose (I : Mem) (t : Nat) (x : Int32) : Nat → Mem
  | 0 => I
  | j + 1 => mLose1 (mLose I t x j) t j x
theorem mLose1_k {I : Mem} {t j : Nat} {x : Int32} {b k : Nat} (h1 : b ≠ t + 1) (h2 : b ≠ t + 2) : mLose1 I t j x b k = I b k := by
  unfold mLose1
  split
  · split
    · rw [up2_a h2, up2_a h1]
    · rw [up2_a h1]
  · rfl
theorem mLose_k {I : Mem} {t : Nat} {x : Int32} {b k : Nat} (h1 : b ≠ t + 1) (h2 : b ≠ t + 2) : ∀ j, mLose I t x j b k = I b k
  | 0 => rfl
  | j + 1 => by rw [mLose, mLose1_k h1 h2]; exact mLose_k h1 h2 j
def mLc1 (I : Mem) (t j : Nat) (p : Int32) : Mem := if I (t + 2) j = 1 then up2 (up2 I (t + 2) j 2) (t + 3) j p else I
def mLc (I : Mem) (t : Nat) (p : Int32) : Nat → Mem
  | 0 => I
  | j + 1 => mLc1 (mLc I t p j) t j p
theorem mLc1_k {I : Mem} {t j : Nat} {p : Int32} {b k : Nat} (h1 : b ≠ t + 2) (h2 : b ≠ t + 3) : mLc1 I t j p b k = I b k := by
  unfold mLc1
  split
  · rw [up2_a h2, up2_a h1]
  · rfl
theorem mLc_k {I : Mem} {t : Nat} {p : Int32} {b k : Nat} (h1 : b ≠ t + 2) (h2 : b ≠ t + 3) : ∀ j, mLc I t p j b k = I b k
  | 0 => rfl
  | j + 1 => by rw [mLc, mLc1_k h1 h2]; exact mLc_k h1 h2 j
def mArr0 (I : Mem) (t l s : Nat) : Mem := up2 (up2 (up2 I t 6 (nI (l + 1))) t 7 0) (t + 4) (l + 1) (nI s + 1)
def mArr1 (I : Mem) (t m l : Nat) : Mem := up2 (mLc I t (nI (l + 1)) m) t 1 (mLc I t (nI (l + 1)) m t 13)
def mArr (I : Mem) (t m l n s : Nat) : Mem := if l + 1 = n then up2 (mArr1 (mArr0 I t l s) t m l) t 5 2 else mArr1 (mArr0 I t l s) t m l
def mReach (I : Mem) (g t m l : Nat) : Int32 := 30 * mMean I t m * mOf I t 0 m * 100 / (1000 * I (g + 2) l) * 20 / (20 * mOf I t 0 m + I t 1)
def mGoW (I : Mem) (g t m l n s : Nat) : Mem := if I t 7 < I (g + 1) l then I else mArr I t m l n s
def mGoZ (I : Mem) (g t m l n s : Nat) : Mem := if mOf I t 0 m = 0 then up2 I t 5 3 else mGoW (up2 I t 7 (I t 7 + mReach I g t m l)) g t m l n s
def mGoY (I : Mem) (g t m l n s : Nat) : Mem := mGoZ (up2 I t 1 (I t 13 + 25 * mOf I t 1 m)) g t m l n s
def mGoX (I : Mem) (g t m l n s : Nat) (c : Int32) : Mem := mGoY (mLose (up2 (up2 I t 8 (I t 8 + 1)) t 9 0) t (6 + I t 1 / 40 + I (g + 2) l / 25 + tHeat c) m) g t m l n s
def mGo (I : Mem) (g t m l n s : Nat) (c : Int32) : Mem := if I t 7 = 0 ∧ I (t + 5) l = -1 then mGoX (up2 I (t + 5) l (nI s)) g t m l n s c else mGoX I g t m l n s c
set_option maxHeartbeats 2000000 in
set_option maxRecDepth 20000 in
/-- SledHouseModel.goes -/
theorem c_mGo {E : Ev} (GE : Glob E) (S : Nat → Option (Nat × Nat)) (I : Nat → Nat → Int32) (V : Nat → Nat → Option Nat) (J : Nat → Nat → Int64) (N : Nat) (g t m l n s ow : Nat) (c : Int32) (hM : MdSh S V g) (hT : MtSh S V t) (hgt : g + 3 < t) (hm : I t 0 = nI m) (hm6 : m ≤ 16) (hl : I t 6 = nI l) (hl12 : l < 12) (hn : I g 4 = nI n) (hn12 : n ≤ 12) (hs : s < 2000) (hh : ¬ 1000 * I (g + 2) l = 0) (how : I t 13 = nI ow) (how3 : ow ≤ 300) : Ct E yX13_goes cX13_goes 8 none (rmL 2) [.ref g, .ref t, .int (nI s), .int c] (S, I, V, J, N) (fun v w' => v = none ∧ w' = (S, mGo I g t m l n s c, V, J, N)) := by
  refine Ct.start GE (by decide) rfl (Nat.le_of_ble_eq_true rfl) (fun M X => ?_)
  have X : Cx E M RX13 cX13_goes 8 (rmL 2) none "goes" := X
  refine r_loc (L' := [some (.ref g), some (.ref t), some (.int (nI s)), some (.int c), none, none, none, none]) rfl ?_
  obtain ⟨hs0, v8, v9, v10, v11, v16, v17, v18, v19, v20, s1, s2, s3, s4, s5, s6, s7, s8, hOt, hTe, hKt⟩ := id hM
  obtain ⟨ts0, u15, u16, u17, u18, u19, u20, u21, u22, u23, w1, w2, w3, w4, w5, w6, w7, w8, w9⟩ := id hT
  generalize hZ : mGo I g t m l n s c = Z
  have e344 : ∀ I1 : Mem, I1 t 6 = nI (l + 1) → I1 g 4 = nI n → (if l + 1 = n then up2 (up2 I1 t 1 (I1 t 13)) t 5 2 else up2 I1 t 1 (I1 t 13)) = Z → ∀ x4 x5 x6 x7, G E M 0 0 (qQ E M (rmL 2) (fun v w' => v = none ∧ w' = (S, Z, V, J, N))) 344 [some (.ref g), some (.ref t), some (.int (nI s)), some (.int c), some (.int x4), some (.int x5), some (.int x6), some (.int x7)] [] (S, I1, V, J, N) := by
    intro I1 h6 h4 he x4 x5 x6 x7
    refine r_aload_n X dX13_goes_344 rfl rfl ?_
    refine r_aload_n X dX13_goes_345 rfl rfl ?_
    refine r_getI X dX13_goes_346 fX13_369 (by assumption) (by first | assumption | rfl) ?_
    refine r_putI X dX13_goes_349 fX13_327 wX13_327 (by assumption) rfl rfl ?_
    refine r_aload_n X dX13_goes_352 rfl rfl ?_
    refine r_getI X dX13_goes_353 fX13_307 (by assumption) ((up2_k (by decide)).trans h6) ?_
    refine r_aload_n X dX13_goes_356 rfl rfl ?_
    refine r_getI X dX13_goes_357 fX13_91 (by assumption) ((up2_a (by omega)).trans h4) ?_
    refine r_icmpN_ne (tgt := 368) X dX13_goes_360 (by decide) (by omega) (by omega) (fun h360 => ?_) (fun h360 => ?_)
    · skip
      refine r_return X dX13_goes_368 (by first | omega | decide | (simp only [rmL, rmA]; omega)) (by first | omega | decide | (simp only [rmL, rmA]; omega)) ?_
      first | exact ⟨rfl, by rw [← he, if_pos (by omega)]⟩ | exact ⟨rfl, by rw [← he, if_neg (by omega)]⟩
    · skip
      refine r_aload_n X dX13_goes_363 rfl rfl ?_
      refine r_iconst (v := 2) X dX13_goes_364 (by decide) ?_
      refine r_putI X dX13_goes_365 fX13_289 wX13_289 (by assumption) rfl rfl ?_
      refine r_return X dX13_goes_368 (by first | omega | decide | (simp only [rmL, rmA]; omega)) (by first | omega | decide | (simp only [rmL, rmA]; omega)) ?_
      first | exact ⟨rfl, by rw [← he, if_pos (by omega)]⟩ | exact ⟨rfl, by rw [← he, if_neg (by omega)]⟩
  have e266 : ∀ I1 : Mem, I1 t 0 = nI m → I1 t 6 = nI l → I1 g 4 = nI n → mArr I1 t m l n s = Z → ∀ x4 x5 x6, G E M 0 0 (qQ E M (rmL 2) (fun v w' => v = none ∧ w' = (S, Z, V, J, N))) 266 [some (.ref g), some (.ref t), some (.int (nI s)), some (.int c), some (.int x4), some (.int x5), some (.int x6), none] [] (S, I1, V, J, N) := by
    intro I1 h0 h6 h4 he x4 x5 x6
    have H : ∀ j, j ≤ m → G E M 0 0 (qQ E M (rmL 2) (fun v w' => v = none ∧ w' = (S, Z, V, J, N))) 296 [some (.ref g), some (.ref t), some (.int (nI s)), some (.int c), some (.int x4), some (.int x5), some (.int x6), some (.int (nI j))] [] (S, mLc (mArr0 I1 t l s) t (nI (l + 1)) j, V, J, N) := by
      refine loopN m (fun j hj ih => ?_)
      have z0 : mLc (mArr0 I1 t l s) t (nI (l + 1)) j t 0 = nI m := by
        rw [mLc_k (by omega) (by omega), mArr0, up2_a (by omega), up2_k (by decide), up2_k (by decide)]
        exact h0
      have z6 : mLc (mArr0 I1 t l s) t (nI (l + 1)) j t 6 = nI (l + 1) := by
        rw [mLc_k (by omega) (by omega), mArr0, up2_a (by omega), up2_k (by decide), up2_same]
      have z4 : mLc (mArr0 I1 t l s) t (nI (l + 1)) j g 4 = nI n := by
        rw [mLc_k (by omega) (by omega), mArr0, up2_a (by omega), up2_a (by omega), up2_a (by omega)]
        exact h4
      refine r_iload X dX13_goes_296 rfl ?_
      refine r_aload_n X dX13_goes_298 rfl rfl ?_
      refine r_getI X dX13_goes_299 fX13_361 (by assumption) z0 ?_
      refine r_icmpN_ge (tgt := 344) X dX13_goes_302 (by decide) (by omega) (by omega) (fun h302 => ?_) (fun h302 => ?_)
      · skip
        obtain rfl : j = m := by omega
        refine e344 _ z6 z4 ?_ _ _ _ _
        rw [← he, mArr, mArr1]
      · skip
        refine r_aload_n X dX13_goes_305 rfl rfl ?_
        refine r_getR X dX13_goes_306 fX13_352 (by assumption) (by assumption) ?_
        refine r_iload X dX13_goes_309 rfl ?_
        refine r_ialdN X dX13_goes_311 (by assumption) (by omega) (by omega) (by first | assumption | rfl) ?_
        refine r_iconst (v := 1) X dX13_goes_312 (by decide) ?_
        refine r_icmp_eq (tgt := 319) X dX13_goes_313 (by decide) (fun h313 => ?_) (fun h313 => ?_)
        · skip
          refine r_aload_n X dX13_goes_319 rfl rfl ?_
          refine r_getR X dX13_goes_320 fX13_352 (by assumption) (by assumption) ?_
          refine r_iload X dX13_goes_323 rfl ?_
          refine r_iconst (v := 2) X dX13_goes_325 (by decide) ?_
          refine r_iastN X dX13_goes_326 (by assumption) (by omega) (by omega) ?_
          refine r_aload_n X dX13_goes_327 rfl rfl ?_
          refine r_getR X dX13_goes_328 fX13_355 (by assumption) (by assumption) ?_
          refine r_iload X dX13_goes_331 rfl ?_
          refine r_aload_n X dX13_goes_333 rfl rfl ?_
          refine r_getI X dX13_goes_334 fX13_307 (by assumption) ((up2_a (by omega)).trans z6) ?_
          refine r_iastN X dX13_goes_337 (by assumption) (by omega) (by omega) ?_
          first
            | (refine r_world (w' := (S, mLc (mArr0 I1 t l s) t (nI (l + 1)) (j + 1), V, J, N)) (by rw [mLc, mLc1, if_pos h313]) ?_
               refine r_iincN X dX13_goes_338 rfl (by decide) rfl ?_
               refine r_goto (tgt := 296) X dX13_goes_341 (by decide) ?_
               exact ih (by omega))
            | (refine r_world (w' := (S, mLc (mArr0 I1 t l s) t (nI (l + 1)) (j + 1), V, J, N)) (by rw [mLc, mLc1, if_neg h313]) ?_
               refine r_iincN X dX13_goes_338 rfl (by decide) rfl ?_
               refine r_goto (tgt := 296) X dX13_goes_341 (by decide) ?_
               exact ih (by omega))
        · skip
          refine r_goto (tgt := 338) X dX13_goes_316 (by decide) ?_
          first
            | (refine r_world (w' := (S, mLc (mArr0 I1 t l s) t (nI (l + 1)) (j + 1), V, J, N)) (by rw [mLc, mLc1, if_pos h313]) ?_
               refine r_iincN X dX13_goes_338 rfl (by decide) rfl ?_
               refine r_goto (tgt := 296) X dX13_goes_341 (by decide) ?_
               exact ih (by omega))
            | (refine r_world (w' := (S, mLc (mArr0 I1 t l s) t (nI (l + 1)) (j + 1), V, J, N)) (by rw [mLc, mLc1, if_neg h313]) ?_
               refine r_iincN X dX13_goes_338 rfl (by decide) rfl ?_
               refine r_goto (tgt := 296) X dX13_goes_341 (by decide) ?_
               exact ih (by omega))
    refine r_aload_n X dX13_goes_266 rfl rfl ?_
    refine r_dup X dX13_goes_267 rfl ?_
    refine r_getI X dX13_goes_268 fX13_307 (by assumption) h6 ?_
    refine r_iconst (v := 1) X dX13_goes_271 (by decide) ?_
    refine r_iadd X dX13_goes_272 ?_
    refine r_topi (nI (l + 1)) (nI_1 l) ?_
    refine r_putI X dX13_goes_273 fX13_307 wX13_307 (by assumption) rfl rfl ?_
    refine r_aload_n X dX13_goes_276 rfl rfl ?_
    refine r_iconst (v := 0) X dX13_goes_277 (by decide) ?_
    refine r_putI X dX13_goes_278 fX13_304 wX13_304 (by assumption) rfl rfl ?_
    refine r_aload_n X dX13_goes_281 rfl rfl ?_
    refine r_getR X dX13_goes_282 fX13_335 (by assumption) (by assumption) ?_
    refine r_aload_n X dX13_goes_285 rfl rfl ?_
    refine r_getI X dX13_goes_286 fX13_307 (by assumption) ((up2_k (by decide)).trans (up2_same _ _ _ _)) ?_
    refine r_iload_n X dX13_goes_289 rfl rfl ?_
    refine r_iconst (v := 1) X dX13_goes_290 (by decide) ?_
    refine r_iadd X dX13_goes_291 ?_
    refine r_iastN X dX13_goes_292 (by assumption) (by omega) (by omega) ?_
    refine r_iconst (v := nI 0) X dX13_goes_293 (by decide) ?_
    refine r_istore X dX13_goes_294 (by decide) rfl ?_
    exact H 0 (by omega)
  have e160 : ∀ I1 : Mem, I1 t 0 = nI m → I1 t 6 = nI l → I1 g 4 = nI n → I1 t 13 = nI ow → I1 (g + 2) l = I (g + 2) l → mGoY I1 g t m l n s = Z → ∀ x4 x5, G E M 0 0 (qQ E M (rmL 2) (fun v w' => v = none ∧ w' = (S, Z, V, J, N))) 160 [some (.ref g), some (.ref t), some (.int (nI s)), some (.int c), some (.int x4), some (.int x5), none, none] [] (S, I1, V, J, N) := by
    intro I1 h0 h6 h4 h13 hhd he x4 x5
    rw [mGoY] at he
    have h0' : up2 I1 t 1 (I1 t 13 + 25 * mOf I1 t 1 m) t 0 = nI m := (up2_k (by decide)).trans h0
    obtain ⟨ca, hca, eca⟩ := mOf_nI I1 t 1 m
    have h1' : up2 I1 t 1 (I1 t 13 + 25 * mOf I1 t 1 m) t 1 = nI (ow + 25 * ca) := by
      rw [up2_same, h13, eca, show (25 : Int32) * nI ca = nI (25 * ca) from pk_mul 25 ca, nI_add]
    have h6' : up2 I1 t 1 (I1 t 13 + 25 * mOf I1 t 1 m) t 6 = nI l := (up2_k (by decide)).trans h6
    have h4' : up2 I1 t 1 (I1 t 13 + 25 * mOf I1 t 1 m) g 4 = nI n := (up2_a (by omega)).trans h4
    have hhd' : up2 I1 t 1 (I1 t 13 + 25 * mOf I1 t 1 m) (g + 2) l = I (g + 2) l := (up2_a (by omega)).trans hhd
    generalize hI2 : up2 I1 t 1 (I1 t 13 + 25 * mOf I1 t 1 m) = I2 at *
    obtain ⟨cb, hcb, ecb⟩ := mOf_nI I2 t 0 m
    have hdv : ¬ mOf I2 t 0 m = 0 → ¬ 20 * mOf I2 t 0 m + I2 t 1 = 0 := by
      rw [ecb, h1', show (20 : Int32) * nI cb = nI (20 * cb) from pk_mul 20 cb, nI_add]
      intro z q
      have q2 := (nI_eq (a := 20 * cb + (ow + 25 * ca)) (b := 0) (by omega) (by decide)).mp q
      exact z (by rw [show cb = 0 by omega]; rfl)
    have hhv : ¬ 1000 * I2 (g + 2) l = 0 := by rw [hhd']; exact hh
    refine r_aload_n X dX13_goes_160 rfl rfl ?_
    refine r_aload_n X dX13_goes_161 rfl rfl ?_
    refine r_getI X dX13_goes_162 fX13_369 (by assumption) rfl ?_
    refine r_bipush (v := 25) X dX13_goes_165 (by decide) ?_
    refine r_aload_n X dX13_goes_167 rfl rfl ?_
    refine r_iconst (v := 1) X dX13_goes_168 (by decide) ?_
    refine q_callV X dX13_goes_169 mX13_324 cwX12_of (c_mOf GE S I1 V J N t m _ hT h0 hm6) rfl (by assumption) rfl rfl rfl (Nat.le_of_ble_eq_true rfl) ⟨Nat.le_of_ble_eq_true rfl, Nat.le_of_ble_eq_true rfl⟩ ⟨(by first | omega | decide | (simp only [rmL, rmA]; omega)), (by first | omega | decide | (simp only [rmL, rmA]; omega))⟩ ?_
    rintro _ _ ⟨rfl, rfl⟩
    refine r_imul X dX13_goes_172 ?_
    refine r_iadd X dX13_goes_173 ?_
    refine r_putI X dX13_goes_174 fX13_327 wX13_327 (by assumption) rfl rfl ?_
    rw [hI2]
    refine r_aload_n X dX13_goes_177 rfl rfl ?_
    refine r_iconst (v := 0) X dX13_goes_178 (by decide) ?_
    refine q_callV X dX13_goes_179 mX13_324 cwX12_of (c_mOf GE S I2 V J N t m _ hT h0' hm6) rfl (by assumption) rfl rfl rfl (Nat.le_of_ble_eq_true rfl) ⟨Nat.le_of_ble_eq_true rfl, Nat.le_of_ble_eq_true rfl⟩ ⟨(by first | omega | decide | (simp only [rmL, rmA]; omega)), (by first | omega | decide | (simp only [rmL, rmA]; omega))⟩ ?_
    rintro _ _ ⟨rfl, rfl⟩
    refine r_istore X dX13_goes_182 (by decide) rfl ?_
    refine r_iload X dX13_goes_184 rfl ?_
    refine r_if_ne (tgt := 195) X dX13_goes_186 (by decide) (fun h186 => ?_) (fun h186 => ?_)
    · skip
      refine r_bipush (v := 30) X dX13_goes_195 (by decide) ?_
      refine r_aload_n X dX13_goes_197 rfl rfl ?_
      refine q_callV X dX13_goes_198 mX13_320 cwX12_mean (c_mMean GE S I2 V J N t m hT h0' hm6) rfl (by assumption) rfl rfl rfl (Nat.le_of_ble_eq_true rfl) ⟨Nat.le_of_ble_eq_true rfl, Nat.le_of_ble_eq_true rfl⟩ ⟨(by first | omega | decide | (simp only [rmL, rmA]; omega)), (by first | omega | decide | (simp only [rmL, rmA]; omega))⟩ ?_
      rintro _ _ ⟨rfl, rfl⟩
      refine r_imul X dX13_goes_201 ?_
      refine r_iload X dX13_goes_202 rfl ?_
      refine r_imul X dX13_goes_204 ?_
      refine r_bipush (v := 100) X dX13_goes_205 (by decide) ?_
      refine r_imul X dX13_goes_207 ?_
      refine r_sipush (v := 1000) X dX13_goes_208 (by decide) ?_
      refine r_aload_n X dX13_goes_211 rfl rfl ?_
      refine r_getR X dX13_goes_212 fX13_26 (by assumption) (by assumption) ?_
      refine r_aload_n X dX13_goes_215 rfl rfl ?_
      refine r_getI X dX13_goes_216 fX13_307 (by assumption) (by first | assumption | rfl) ?_
      refine r_ialdN X dX13_goes_219 (by assumption) (by omega) (by omega) rfl ?_
      refine r_imul X dX13_goes_220 ?_
      refine r_idiv X dX13_goes_221 hhv ?_
      refine r_bipush (v := 20) X dX13_goes_222 (by decide) ?_
      refine r_imul X dX13_goes_224 ?_
      refine r_bipush (v := 20) X dX13_goes_225 (by decide) ?_
      refine r_iload X dX13_goes_227 rfl ?_
      refine r_imul X dX13_goes_229 ?_
      refine r_aload_n X dX13_goes_230 rfl rfl ?_
      refine r_getI X dX13_goes_231 fX13_327 (by assumption) rfl ?_
      refine r_iadd X dX13_goes_234 ?_
      refine r_idiv X dX13_goes_235 (hdv h186) ?_
      refine r_istore X dX13_goes_236 (by decide) rfl ?_
      refine r_aload_n X dX13_goes_238 rfl rfl ?_
      refine r_dup X dX13_goes_239 rfl ?_
      refine r_getI X dX13_goes_240 fX13_304 (by assumption) (by first | assumption | rfl) ?_
      refine r_iload X dX13_goes_243 rfl ?_
      refine r_iadd X dX13_goes_245 ?_
      refine r_putI X dX13_goes_246 fX13_304 wX13_304 (by assumption) rfl rfl ?_
      refine r_aload_n X dX13_goes_249 rfl rfl ?_
      refine r_getI X dX13_goes_250 fX13_304 (by assumption) (up2_same _ _ _ _) ?_
      refine r_aload_n X dX13_goes_253 rfl rfl ?_
      refine r_getR X dX13_goes_254 fX13_22 (by assumption) (by assumption) ?_
      refine r_aload_n X dX13_goes_257 rfl rfl ?_
      refine r_getI X dX13_goes_258 fX13_307 (by assumption) ((up2_k (by decide)).trans h6') ?_
      refine r_ialdN X dX13_goes_261 (by assumption) (by omega) (by omega) rfl ?_
      refine r_icmp_ge (tgt := 266) X dX13_goes_262 (by decide) (fun h262 => ?_) (fun h262 => ?_)
      · skip
        refine e266 _ ((up2_k (by decide)).trans h0') ((up2_k (by decide)).trans h6') ((up2_a (by omega)).trans h4') ?_ _ _ _
        rw [← he, mGoZ, if_neg h186, mGoW, if_neg (by rw [up2_same]; exact Int32.not_lt.mpr h262)]
        rfl
      · skip
        refine r_return X dX13_goes_265 (by first | omega | decide | (simp only [rmL, rmA]; omega)) (by first | omega | decide | (simp only [rmL, rmA]; omega)) ?_
        refine ⟨rfl, ?_⟩
        rw [← he, mGoZ, if_neg h186, mGoW, if_pos (by rw [up2_same]; exact Int32.not_le.mp h262)]
        rfl
    · skip
      refine r_aload_n X dX13_goes_189 rfl rfl ?_
      refine r_iconst (v := 3) X dX13_goes_190 (by decide) ?_
      refine r_putI X dX13_goes_191 fX13_289 wX13_289 (by assumption) rfl rfl ?_
      refine r_return X dX13_goes_194 (by first | omega | decide | (simp only [rmL, rmA]; omega)) (by first | omega | decide | (simp only [rmL, rmA]; omega)) ?_
      exact ⟨rfl, by rw [← he, mGoZ, if_pos h186]⟩
  have e30 : ∀ I1 : Mem, I1 t 0 = nI m → I1 t 6 = nI l → I1 g 4 = nI n → I1 t 13 = nI ow → I1 (g + 2) l = I (g + 2) l → mGoX I1 g t m l n s c = Z → G E M 0 0 (qQ E M (rmL 2) (fun v w' => v = none ∧ w' = (S, Z, V, J, N))) 30 [some (.ref g), some (.ref t), some (.int (nI s)), some (.int c), none, none, none, none] [] (S, I1, V, J, N) := by
    intro I1 h0 h6 h4 h13 hhd he
    rw [mGoX] at he
    generalize hI2 : up2 (up2 I1 t 8 (I1 t 8 + 1)) t 9 0 = I2 at *
    have k0 : I2 t 0 = nI m := by rw [← hI2, up2_k (by decide), up2_k (by decide)]; exact h0
    have k6 : I2 t 6 = nI l := by rw [← hI2, up2_k (by decide), up2_k (by decide)]; exact h6
    have k4 : I2 g 4 = nI n := by rw [← hI2, up2_a (by omega), up2_a (by omega)]; exact h4
    have k13 : I2 t 13 = nI ow := by rw [← hI2, up2_k (by decide), up2_k (by decide)]; exact h13
    have khd : I2 (g + 2) l = I1 (g + 2) l := by rw [← hI2, up2_a (by omega), up2_a (by omega)]
    have k1 : I2 t 1 = I1 t 1 := by rw [← hI2, up2_k (by decide), up2_k (by decide)]
    generalize hx : 6 + I1 t 1 / 40 + I1 (g + 2) l / 25 + tHeat c = x at he
    have H : ∀ j, j ≤ m → G E M 0 0 (qQ E M (rmL 2) (fun v w' => v = none ∧ w' = (S, Z, V, J, N))) 90 [some (.ref g), some (.ref t), some (.int (nI s)), some (.int c), some (.int x), some (.int (nI j)), none, none] [] (S, mLose I2 t x j, V, J, N) := by
      refine loopN m (fun j hj ih => ?_)
      have z0 : mLose I2 t x j t 0 = nI m := (mLose_k (by omega) (by omega) j).trans k0
      refine r_iload X dX13_goes_90 rfl ?_
      refine r_aload_n X dX13_goes_92 rfl rfl ?_
      refine r_getI X dX13_goes_93 fX13_361 (by assumption) z0 ?_
      refine r_icmpN_ge (tgt := 160) X dX13_goes_96 (by decide) (by omega) (by omega) (fun h96 => ?_) (fun h96 => ?_)
      · skip
        obtain rfl : j = m := by omega
        exact e160 _ z0 ((mLose_k (by omega) (by omega) j).trans k6) ((mLose_k (by omega) (by omega) j).trans k4) ((mLose_k (by omega) (by omega) j).trans k13) ((mLose_k (by omega) (by omega) j).trans (khd.trans hhd)) he _ _
      · skip
        refine r_aload_n X dX13_goes_99 rfl rfl ?_
        refine r_getR X dX13_goes_100 fX13_352 (by assumption) (by assumption) ?_
        refine r_iload X dX13_goes_103 rfl ?_
        refine r_ialdN X dX13_goes_105 (by assumption) (by omega) (by omega) (by first | assumption | rfl) ?_
        refine r_if_eq (tgt := 112) X dX13_goes_106 (by decide) (fun h106 => ?_) (fun h106 => ?_)
        · skip
          refine r_aload_n X dX13_goes_112 rfl rfl ?_
          refine r_getR X dX13_goes_113 fX13_314 (by assumption) (by assumption) ?_
          refine r_iload X dX13_goes_116 rfl ?_
          refine r_iconst (v := 0) X dX13_goes_118 (by decide) ?_
          refine r_aload_n X dX13_goes_119 rfl rfl ?_
          refine r_getR X dX13_goes_120 fX13_314 (by assumption) (by assumption) ?_
          refine r_iload X dX13_goes_123 rfl ?_
          refine r_ialdN X dX13_goes_125 (by assumption) (by omega) (by omega) (by first | assumption | rfl) ?_
          refine r_iload X dX13_goes_126 rfl ?_
          refine r_isub X dX13_goes_128 ?_
          refine r_mmax X dX13_goes_129 mmX13_363 (Nat.le_of_ble_eq_true rfl) (Nat.le_of_ble_eq_true rfl) (by first | omega | decide | (simp only [rmL, rmA]; omega)) (by first | omega | decide | (simp only [rmL, rmA]; omega)) ?_
          refine r_iastN X dX13_goes_132 (by assumption) (by omega) (by omega) ?_
          refine r_aload_n X dX13_goes_133 rfl rfl ?_
          refine r_getR X dX13_goes_134 fX13_314 (by assumption) (by assumption) ?_
          refine r_iload X dX13_goes_137 rfl ?_
          refine r_ialdN X dX13_goes_139 (by assumption) (by omega) (by omega) (up2_same _ _ _ _) ?_
          refine r_if_le (tgt := 146) X dX13_goes_140 (by decide) (fun h140 => ?_) (fun h140 => ?_)
          · skip
            refine r_aload_n X dX13_goes_146 rfl rfl ?_
            refine r_getR X dX13_goes_147 fX13_352 (by assumption) (by assumption) ?_
            refine r_iload X dX13_goes_150 rfl ?_
            refine r_iconst (v := 1) X dX13_goes_152 (by decide) ?_
            refine r_iastN X dX13_goes_153 (by assumption) (by omega) (by omega) ?_
            first
              | (refine r_world (w' := (S, mLose I2 t x (j + 1), V, J, N)) (by rw [mLose, mLose1, if_pos h106, if_pos (iMax_0 h140)]) ?_
                 refine r_iincN X dX13_goes_154 rfl (by decide) rfl ?_
                 refine r_goto (tgt := 90) X dX13_goes_157 (by decide) ?_
                 exact ih (by omega))
              | (refine r_world (w' := (S, mLose I2 t x (j + 1), V, J, N)) (by rw [mLose, mLose1, if_pos h106, if_neg (iMax_p h140)]) ?_
                 refine r_iincN X dX13_goes_154 rfl (by decide) rfl ?_
                 refine r_goto (tgt := 90) X dX13_goes_157 (by decide) ?_
                 exact ih (by omega))
              | (refine r_world (w' := (S, mLose I2 t x (j + 1), V, J, N)) (by rw [mLose, mLose1, if_neg h106]) ?_
                 refine r_iincN X dX13_goes_154 rfl (by decide) rfl ?_
                 refine r_goto (tgt := 90) X dX13_goes_157 (by decide) ?_
                 exact ih (by omega))
          · skip
            refine r_goto (tgt := 154) X dX13_goes_143 (by decide) ?_
            first
              | (refine r_world (w' := (S, mLose I2 t x (j + 1), V, J, N)) (by rw [mLose, mLose1, if_pos h106, if_pos (iMax_0 h140)]) ?_
                 refine r_iincN X dX13_goes_154 rfl (by decide) rfl ?_
                 refine r_goto (tgt := 90) X dX13_goes_157 (by decide) ?_
                 exact ih (by omega))
              | (refine r_world (w' := (S, mLose I2 t x (j + 1), V, J, N)) (by rw [mLose, mLose1, if_pos h106, if_neg (iMax_p h140)]) ?_
                 refine r_iincN X dX13_goes_154 rfl (by decide) rfl ?_
                 refine r_goto (tgt := 90) X dX13_goes_157 (by decide) ?_
                 exact ih (by omega))
              | (refine r_world (w' := (S, mLose I2 t x (j + 1), V, J, N)) (by rw [mLose, mLose1, if_neg h106]) ?_
                 refine r_iincN X dX13_goes_154 rfl (by decide) rfl ?_
                 refine r_goto (tgt := 90) X dX13_goes_157 (by decide) ?_
                 exact ih (by omega))
        · skip
          refine r_goto (tgt := 154) X dX13_goes_109 (by decide) ?_
          first
            | (refine r_world (w' := (S, mLose I2 t x (j + 1), V, J, N)) (by rw [mLose, mLose1, if_pos h106, if_pos (iMax_0 h140)]) ?_
               refine r_iincN X dX13_goes_154 rfl (by decide) rfl ?_
               refine r_goto (tgt := 90) X dX13_goes_157 (by decide) ?_
               exact ih (by omega))
            | (refine r_world (w' := (S, mLose I2 t x (j + 1), V, J, N)) (by rw [mLose, mLose1, if_pos h106, if_neg (iMax_p h140)]) ?_
               refine r_iincN X dX13_goes_154 rfl (by decide) rfl ?_
               refine r_goto (tgt := 90) X dX13_goes_157 (by decide) ?_
               exact ih (by omega))
            | (refine r_world (w' := (S, mLose I2 t x (j + 1), V, J, N)) (by rw [mLose, mLose1, if_neg h106]) ?_
               refine r_iincN X dX13_goes_154 rfl (by decide) rfl ?_
               refine r_goto (tgt := 90) X dX13_goes_157 (by decide) ?_
               exact ih (by omega))
    have e84 : ∀ y, y = tHeat c → G E M 0 0 (qQ E M (rmL 2) (fun v w' => v = none ∧ w' = (S, Z, V, J, N))) 84 [some (.ref g), some (.ref t), some (.int (nI s)), some (.int c), none, none, none, none] [.int y, .int (6 + I1 t 1 / 40 + I1 (g + 2) l / 25)] (S, I2, V, J, N) := by
      intro y hy
      rw [hy]
      refine r_iadd X dX13_goes_84 ?_
      refine r_topi x hx ?_
      refine r_istore X dX13_goes_85 (by decide) rfl ?_
      refine r_iconst (v := nI 0) X dX13_goes_87 (by decide) ?_
      refine r_istore X dX13_goes_88 (by decide) rfl ?_
      exact H 0 (by omega)
    refine r_aload_n X dX13_goes_30 rfl rfl ?_
    refine r_dup X dX13_goes_31 rfl ?_
    refine r_getI X dX13_goes_32 fX13_310 (by assumption) (by first | assumption | rfl) ?_
    refine r_iconst (v := 1) X dX13_goes_35 (by decide) ?_
    refine r_iadd X dX13_goes_36 ?_
    refine r_putI X dX13_goes_37 fX13_310 wX13_310 (by assumption) rfl rfl ?_
    refine r_aload_n X dX13_goes_40 rfl rfl ?_
    refine r_iconst (v := 0) X dX13_goes_41 (by decide) ?_
    refine r_putI X dX13_goes_42 fX13_312 wX13_312 (by assumption) rfl rfl ?_
    rw [hI2]
    refine r_bipush (v := 6) X dX13_goes_45 (by decide) ?_
    refine r_aload_n X dX13_goes_47 rfl rfl ?_
    refine r_getI X dX13_goes_48 fX13_327 (by assumption) k1 ?_
    refine r_bipush (v := 40) X dX13_goes_51 (by decide) ?_
    refine r_idiv X dX13_goes_53 (by decide) ?_
    refine r_iadd X dX13_goes_54 ?_
    refine r_aload_n X dX13_goes_55 rfl rfl ?_
    refine r_getR X dX13_goes_56 fX13_26 (by assumption) (by assumption) ?_
    refine r_aload_n X dX13_goes_59 rfl rfl ?_
    refine r_getI X dX13_goes_60 fX13_307 (by assumption) k6 ?_
    refine r_ialdN X dX13_goes_63 (by assumption) (by omega) (by omega) khd ?_
    refine r_bipush (v := 25) X dX13_goes_64 (by decide) ?_
    refine r_idiv X dX13_goes_66 (by decide) ?_
    refine r_iadd X dX13_goes_67 ?_
    refine r_iload_n X dX13_goes_68 rfl rfl ?_
    refine r_bipush (v := -10) X dX13_goes_69 (by decide) ?_
    refine r_icmp_le (tgt := 83) X dX13_goes_71 (by decide) (fun h71 => ?_) (fun h71 => ?_)
    · skip
      refine r_iconst (v := 0) X dX13_goes_83 (by decide) ?_
      first
        | exact e84 _ (by rw [tHeat, if_pos (Int32.not_le.mp h71)])
        | exact e84 _ (by rw [tHeat, if_neg (Int32.not_lt.mpr h71)])
    · skip
      refine r_iload_n X dX13_goes_74 rfl rfl ?_
      refine r_bipush (v := 10) X dX13_goes_75 (by decide) ?_
      refine r_iadd X dX13_goes_77 ?_
      refine r_iconst (v := 3) X dX13_goes_78 (by decide) ?_
      refine r_idiv X dX13_goes_79 (by decide) ?_
      refine r_goto (tgt := 84) X dX13_goes_80 (by decide) ?_
      first
        | exact e84 _ (by rw [tHeat, if_pos (Int32.not_le.mp h71)])
        | exact e84 _ (by rw [tHeat, if_neg (Int32.not_lt.mpr h71)])
  refine r_aload_n X dX13_goes_0 rfl rfl ?_
  refine r_getI X dX13_goes_1 fX13_304 (by assumption) (by first | assumption | rfl) ?_
  refine r_if_ne (tgt := 30) X dX13_goes_4 (by decide) (fun h4 => ?_) (fun h4 => ?_)
  · skip
    first
      | exact e30 _ ((up2_a (by omega)).trans hm) ((up2_a (by omega)).trans hl) ((up2_a (by omega)).trans hn) ((up2_a (by omega)).trans how) (up2_a (by omega)) (by rw [← hZ, mGo, if_pos ⟨by assumption, by assumption⟩])
      | exact e30 _ hm hl hn how rfl (by rw [← hZ, mGo, if_neg (by intro q; first | exact absurd q.1 (by assumption) | exact absurd q.2 (by assumption))])
  · skip
    refine r_aload_n X dX13_goes_7 rfl rfl ?_
    refine r_getR X dX13_goes_8 fX13_358 (by assumption) (by assumption) ?_
    refine r_aload_n X dX13_goes_11 rfl rfl ?_
    refine r_getI X dX13_goes_12 fX13_307 (by assumption) (by first | assumption | rfl) ?_
    refine r_ialdN X dX13_goes_15 (by assumption) (by omega) (by omega) (by first | assumption | rfl) ?_
    refine r_iconst (v := -1) X dX13_goes_16 (by decide) ?_
    refine r_icmp_ne (tgt := 30) X dX13_goes_17 (by decide) (fun h17 => ?_) (fun h17 => ?_)
    · skip
      first
        | exact e30 _ ((up2_a (by omega)).trans hm) ((up2_a (by omega)).trans hl) ((up2_a (by omega)).trans hn) ((up2_a (by omega)).trans how) (up2_a (by omega)) (by rw [← hZ, mGo, if_pos ⟨by assumption, by assumption⟩])
        | exact e30 _ hm hl hn how rfl (by rw [← hZ, mGo, if_neg (by intro q; first | exact absurd q.1 (by assumption) | exact absurd q.2 (by assumption))])
    · skip
      refine r_aload_n X dX13_goes_20 rfl rfl ?_
      refine r_getR X dX13_goes_21 fX13_358 (by assumption) (by assumption) ?_
      refine r_aload_n X dX13_goes_24 rfl rfl ?_
      refine r_getI X dX13_goes_25 fX13_307 (by assumption) (by first | assumption | rfl) ?_
      refine r_iload_n X dX13_goes_28 rfl rfl ?_
      refine r_iastN X dX13_goes_29 (by assumption) (by omega) (by omega) ?_
      first
        | exact e30 _ ((up2_a (by omega)).trans hm) ((up2_a (by omega)).trans hl) ((up2_a (by omega)).trans hn) ((up2_a (by omega)).trans how) (up2_a (by omega)) (by rw [← hZ, mGo, if_pos ⟨by assumption, by assumption⟩])
        | exact e30 _ hm hl hn how rfl (by rw [← hZ, mGo, if_neg (by intro q; first | exact absurd q.1 (by assumption) | exact absurd q.2 (by assumption))])
