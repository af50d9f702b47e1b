/-! ===== the reference's Team: become ===== -/
/-- the first j elements of b come to a -/
def cp1 (I : Mem) (a b j : Nat) : Mem := fun x k => if x = a ∧ k < j then I b k else I x k
theorem cp1_0 (I : Mem) (a b : Nat) : cp1 I a b 0 = I := by
  funext x k
  unfold cp1
  rw [if_neg (by omega)]
theorem cp1_s (I : Mem) (a b j : Nat) (h : b ≠ a) : up2 (cp1 I a b j) a j (cp1 I a b j b j) = cp1 I a b (j + 1) := by
  funext x k
  simp only [up2, cp1]
  by_cases hx : x = a
  · by_cases hk : k = j
    · subst hx hk
      simp [h]
    · by_cases h2 : k < j
      · simp [hx, hk, h2, show k < j + 1 by omega]
      · simp [hx, hk, h2, show ¬ k < j + 1 by omega]
  · simp [hx]
theorem cp1_a {I : Mem} {a b j x k : Nat} (h : x ≠ a) : cp1 I a b j x k = I x k := by simp [cp1, h]
theorem cp1_in {I : Mem} {a b j k : Nat} (h : k < j) : cp1 I a b j a k = I b k := by simp [cp1, h]
theorem cp1_o {I : Mem} {a b j k : Nat} (h : ¬ k < j) : cp1 I a b j a k = I a k := by simp [cp1, h]
theorem up2_cp1 (I : Mem) (a b j a' k' : Nat) (y : Int32) (h : a' ≠ a) (h2 : a' ≠ b) : up2 (cp1 I a b j) a' k' y = cp1 (up2 I a' k' y) a b j := by
  funext x k
  simp only [up2, cp1]
  by_cases hx : x = a
  · subst hx
    simp [Ne.symm h, Ne.symm h2]
  · simp [hx]
def cp2 (I : Mem) (a b c d j : Nat) : Mem := cp1 (cp1 I a b j) c d j
theorem cp2_0 (I : Mem) (a b c d : Nat) : cp2 I a b c d 0 = I := by rw [cp2, cp1_0, cp1_0]
theorem cp2_s (I : Mem) (a b c d j : Nat) (h1 : b ≠ a) (h2 : d ≠ c) (h3 : a ≠ c) (h4 : b ≠ c) (h5 : a ≠ d) : up2 (up2 (cp2 I a b c d j) a j (cp2 I a b c d j b j)) c j (up2 (cp2 I a b c d j) a j (cp2 I a b c d j b j) d j) = cp2 I a b c d (j + 1) := by
  have e : up2 (cp2 I a b c d j) a j (cp2 I a b c d j b j) = cp1 (cp1 I a b (j + 1)) c d j := by
    rw [cp2, cp1_a h4, up2_cp1 _ _ _ _ _ _ _ h3 h5, cp1_s _ _ _ _ h1]
  rw [e, cp1_s _ _ _ _ h2]
  rfl
def cp3 (I : Mem) (a b c d e f j : Nat) : Mem := cp1 (cp2 I a b c d j) e f j
theorem cp3_0 (I : Mem) (a b c d e f : Nat) : cp3 I a b c d e f 0 = I := by rw [cp3, cp2_0, cp1_0]
theorem cp3_s (I : Mem) (a b c d e f j : Nat) (h1 : b ≠ a) (h2 : d ≠ c) (h3 : a ≠ c) (h4 : b ≠ c) (h5 : a ≠ d) (g1 : f ≠ e) (g2 : a ≠ e) (g3 : b ≠ e) (g4 : c ≠ e) (g5 : d ≠ e) (g6 : a ≠ f) (g7 : c ≠ f) : up2 (up2 (up2 (cp3 I a b c d e f j) a j (cp3 I a b c d e f j b j)) c j (up2 (cp3 I a b c d e f j) a j (cp3 I a b c d e f j b j) d j)) e j (up2 (up2 (cp3 I a b c d e f j) a j (cp3 I a b c d e f j b j)) c j (up2 (cp3 I a b c d e f j) a j (cp3 I a b c d e f j b j) d j) f j) = cp3 I a b c d e f (j + 1) := by
  have e : up2 (up2 (cp3 I a b c d e f j) a j (cp3 I a b c d e f j b j)) c j (up2 (cp3 I a b c d e f j) a j (cp3 I a b c d e f j b j) d j) = cp1 (cp2 I a b c d (j + 1)) e f j := by
    rw [cp3, cp1_a g3, up2_cp1 _ _ _ _ _ _ _ g2 g6, cp1_a g5, up2_cp1 _ _ _ _ _ _ _ g4 g7, cp2_s _ _ _ _ _ _ h1 h2 h3 h4 h5]
  rw [e, cp1_s _ _ _ _ g1]
  rfl
theorem mClr_a {I : Mem} {t b k : Nat} (h : b < t + 4 ∨ t + 5 < b) : ∀ j, mClr I t j b k = I b k
  | 0 => rfl
  | j + 1 => by rw [mClr, up2_a (by omega), up2_a (by omega)]; exact mClr_a h j
theorem dBeg_a {I : Mem} {d b k : Nat} (h : b ≤ d ∨ d + 3 < b) : ∀ j, dBeg I d j b k = I b k
  | 0 => rfl
  | j + 1 => by rw [dBeg, up2_a (by omega), up2_a (by omega), up2_a (by omega)]; exact dBeg_a h j
theorem mBegin_a {I : Mem} {t : Nat} {m l f s p : Int32} {b k : Nat} (h : b < t ∨ t + 9 < b) : mBegin I t m l f s p b k = I b k := by
  rw [mBegin, mClr_a (by omega), dBeg_a (by omega), mPuts]
  rw [up2_a (by omega), up2_a (by omega), up2_a (by omega), up2_a (by omega), up2_a (by omega), up2_a (by omega), up2_a (by omega), up2_a (by omega), up2_a (by omega), up2_a (by omega), up2_a (by omega), up2_a (by omega), up2_a (by omega), up2_a (by omega), up2_a (by omega)]
def mBec0 (I : Mem) (t u : Nat) : Mem :=
  up2 (up2 (up2 (up2 (up2 (up2 (up2 (up2 (up2 (up2 (mBegin I t (I u 0) (I u 13) (I u 14) (I u 3) (I u 4)) t 1 (I u 1)) t 2 (I u 2)) t 5 (I u 5)) t 6 (I u 6)) t 7 (I u 7)) t 8 (I u 8)) t 9 (I u 9)) t 10 (I u 10)) t 11 (I u 11)) t 12 (I u 12)
def mBec1 (I : Mem) (t u : Nat) : Mem := cp3 (mBec0 I t u) (t + 1) (u + 1) (t + 2) (u + 2) (t + 3) (u + 3) 16
def mBec2 (I : Mem) (t u : Nat) : Mem := cp2 (mBec1 I t u) (t + 4) (u + 4) (t + 5) (u + 5) 13
def mBec3 (I : Mem) (t u sg : Nat) : Mem := cp2 (mBec2 I t u) (t + 6) (u + 6) (t + 7) (u + 7) sg
def mBec (I : Mem) (t u sg gp : Nat) : Mem := cp2 (mBec3 I t u sg) (t + 8) (u + 8) (t + 9) (u + 9) gp
set_option maxHeartbeats 2000000 in
set_option maxRecDepth 20000 in
/-- SledHouseModel$Team.become -/
theorem c_mBecome {E : Ev} (GE : Glob E) (S : Nat → Option (Nat × Nat)) (I : Nat → Nat → Int32) (V : Nat → Nat → Option Nat) (J : Nat → Nat → Int64) (N : Nat) (t u sg gp : Nat) (hT : MtSh S V t) (hU : MtSh S V u) (hd : u + 9 < t ∨ t + 9 < u) (hsg : I u 11 = nI sg) (hs2 : sg ≤ 2000) (hgp : I u 12 = nI gp) (hg4 : gp ≤ 4) : Ct E yX12_become cX12_become 3 none (rmL 1) [.ref t, .ref u] (S, I, V, J, N) (fun v w' => v = none ∧ w' = (S, mBec I t u sg gp, V, J, N)) := by
  refine Ct.start GE (by decide) rfl (Nat.le_of_ble_eq_true rfl) (fun M X => ?_)
  have X : Cx E M RX12 cX12_become 3 (rmL 1) none "become" := X
  refine r_loc (L' := [some (.ref t), some (.ref u), none]) rfl ?_
  obtain ⟨hs0, v15, v16, v17, v18, v19, v20, v21, v22, v23, s1, s2, s3, s4, s5, s6, s7, s8, s9⟩ := id hT
  obtain ⟨qs0, q15, q16, q17, q18, q19, q20, q21, q22, q23, r1, r2, r3, r4, r5, r6, r7, r8, r9⟩ := id hU
  have e0 : ∀ k, mBegin I t (I u 0) (I u 13) (I u 14) (I u 3) (I u 4) u k = I u k := fun k => mBegin_a (by omega)
  have z11 : mBec0 I t u t 11 = nI sg := (up2_k (by decide)).trans ((up2_same _ _ _ _).trans hsg)
  have z12 : mBec0 I t u t 12 = nI gp := (up2_same _ _ _ _).trans hgp
  have H4 : ∀ j, j ≤ gp → G E M 0 0 (qQ E M (rmL 1) (fun v w' => v = none ∧ w' = (S, mBec I t u sg gp, V, J, N))) 234 [some (.ref t), some (.ref u), some (.int (nI j))] [] (S, cp2 (mBec3 I t u sg) (t + 8) (u + 8) (t + 9) (u + 9) j, V, J, N) := by
    refine loopN gp (fun j hj ih => ?_)
    have z : cp2 (mBec3 I t u sg) (t + 8) (u + 8) (t + 9) (u + 9) j t 12 = nI gp := by
      rw [cp2, cp1_a (by omega), cp1_a (by omega), mBec3, cp2, cp1_a (by omega), cp1_a (by omega), mBec2, cp2, cp1_a (by omega), cp1_a (by omega), mBec1, cp3, cp1_a (by omega), cp2, cp1_a (by omega), cp1_a (by omega)]
      exact z12
    refine r_iload_n X dX12_become_234 rfl rfl ?_
    refine r_aload_n X dX12_become_235 rfl rfl ?_
    refine r_getI X dX12_become_236 fX12_82 (by assumption) z ?_
    refine r_icmpN_ge (tgt := 272) X dX12_become_239 (by decide) (by omega) (by omega) (fun h239 => ?_) (fun h239 => ?_)
    · skip
      refine r_return X dX12_become_272 (by first | omega | decide | (simp only [rmL, rmA]; omega)) (by first | omega | decide | (simp only [rmL, rmA]; omega)) ?_
      obtain rfl : j = gp := by omega
      exact ⟨rfl, rfl⟩
    · skip
      refine r_aload_n X dX12_become_242 rfl rfl ?_
      refine r_getR X dX12_become_243 fX12_33 (by assumption) (by assumption) ?_
      refine r_iload_n X dX12_become_246 rfl rfl ?_
      refine r_aload_n X dX12_become_247 rfl rfl ?_
      refine r_getR X dX12_become_248 fX12_33 (by assumption) (by assumption) ?_
      refine r_iload_n X dX12_become_251 rfl rfl ?_
      refine r_ialdN X dX12_become_252 (by assumption) (by omega) (by omega) (by first | assumption | rfl) ?_
      refine r_iastN X dX12_become_253 (by assumption) (by omega) (by omega) ?_
      refine r_aload_n X dX12_become_254 rfl rfl ?_
      refine r_getR X dX12_become_255 fX12_36 (by assumption) (by assumption) ?_
      refine r_iload_n X dX12_become_258 rfl rfl ?_
      refine r_aload_n X dX12_become_259 rfl rfl ?_
      refine r_getR X dX12_become_260 fX12_36 (by assumption) (by assumption) ?_
      refine r_iload_n X dX12_become_263 rfl rfl ?_
      refine r_ialdN X dX12_become_264 (by assumption) (by omega) (by omega) (by first | assumption | rfl) ?_
      refine r_iastN X dX12_become_265 (by assumption) (by omega) (by omega) ?_
      first | refine r_iincN X dX12_become_266 rfl (by decide) rfl ?_ | refine r_iinc X dX12_become_266 rfl rfl (by decide) rfl ?_
      refine r_goto (tgt := 234) X dX12_become_269 (by decide) ?_
      exact r_world (by rw [cp2_s _ _ _ _ _ _ (by omega) (by omega) (by omega) (by omega) (by omega)]) (ih (by omega))
  have H3 : ∀ j, j ≤ sg → G E M 0 0 (qQ E M (rmL 1) (fun v w' => v = none ∧ w' = (S, mBec I t u sg gp, V, J, N))) 194 [some (.ref t), some (.ref u), some (.int (nI j))] [] (S, cp2 (mBec2 I t u) (t + 6) (u + 6) (t + 7) (u + 7) j, V, J, N) := by
    refine loopN sg (fun j hj ih => ?_)
    have z : cp2 (mBec2 I t u) (t + 6) (u + 6) (t + 7) (u + 7) j t 11 = nI sg := by
      rw [cp2, cp1_a (by omega), cp1_a (by omega), mBec2, cp2, cp1_a (by omega), cp1_a (by omega), mBec1, cp3, cp1_a (by omega), cp2, cp1_a (by omega), cp1_a (by omega)]
      exact z11
    refine r_iload_n X dX12_become_194 rfl rfl ?_
    refine r_aload_n X dX12_become_195 rfl rfl ?_
    refine r_getI X dX12_become_196 fX12_79 (by assumption) z ?_
    refine r_icmpN_ge (tgt := 232) X dX12_become_199 (by decide) (by omega) (by omega) (fun h199 => ?_) (fun h199 => ?_)
    · skip
      refine r_iconst (v := nI 0) X dX12_become_232 (by decide) ?_
      refine r_istore_n X dX12_become_233 rfl (by decide) rfl ?_
      obtain rfl : j = sg := by omega
      exact r_world (by rw [cp2_0, mBec3]) (H4 0 (by omega))
    · skip
      refine r_aload_n X dX12_become_202 rfl rfl ?_
      refine r_getR X dX12_become_203 fX12_27 (by assumption) (by assumption) ?_
      refine r_iload_n X dX12_become_206 rfl rfl ?_
      refine r_aload_n X dX12_become_207 rfl rfl ?_
      refine r_getR X dX12_become_208 fX12_27 (by assumption) (by assumption) ?_
      refine r_iload_n X dX12_become_211 rfl rfl ?_
      refine r_ialdN X dX12_become_212 (by assumption) (by omega) (by omega) (by first | assumption | rfl) ?_
      refine r_iastN X dX12_become_213 (by assumption) (by omega) (by omega) ?_
      refine r_aload_n X dX12_become_214 rfl rfl ?_
      refine r_getR X dX12_become_215 fX12_30 (by assumption) (by assumption) ?_
      refine r_iload_n X dX12_become_218 rfl rfl ?_
      refine r_aload_n X dX12_become_219 rfl rfl ?_
      refine r_getR X dX12_become_220 fX12_30 (by assumption) (by assumption) ?_
      refine r_iload_n X dX12_become_223 rfl rfl ?_
      refine r_ialdN X dX12_become_224 (by assumption) (by omega) (by omega) (by first | assumption | rfl) ?_
      refine r_iastN X dX12_become_225 (by assumption) (by omega) (by omega) ?_
      first | refine r_iincN X dX12_become_226 rfl (by decide) rfl ?_ | refine r_iinc X dX12_become_226 rfl rfl (by decide) rfl ?_
      refine r_goto (tgt := 194) X dX12_become_229 (by decide) ?_
      exact r_world (by rw [cp2_s _ _ _ _ _ _ (by omega) (by omega) (by omega) (by omega) (by omega)]) (ih (by omega))
  have H2 : ∀ j, j ≤ 13 → G E M 0 0 (qQ E M (rmL 1) (fun v w' => v = none ∧ w' = (S, mBec I t u sg gp, V, J, N))) 156 [some (.ref t), some (.ref u), some (.int (nI j))] [] (S, cp2 (mBec1 I t u) (t + 4) (u + 4) (t + 5) (u + 5) j, V, J, N) := by
    refine loopN 13 (fun j hj ih => ?_)
    refine r_iload_n X dX12_become_156 rfl rfl ?_
    refine r_bipush (v := nI 12) X dX12_become_157 (by decide) ?_
    refine r_icmpN_gt (tgt := 192) X dX12_become_159 (by decide) (by omega) (by omega) (fun h159 => ?_) (fun h159 => ?_)
    · skip
      refine r_iconst (v := nI 0) X dX12_become_192 (by decide) ?_
      refine r_istore_n X dX12_become_193 rfl (by decide) rfl ?_
      obtain rfl : j = 13 := by omega
      exact r_world (by rw [cp2_0, mBec2]) (H3 0 (by omega))
    · skip
      refine r_aload_n X dX12_become_162 rfl rfl ?_
      refine r_getR X dX12_become_163 fX12_21 (by assumption) (by assumption) ?_
      refine r_iload_n X dX12_become_166 rfl rfl ?_
      refine r_aload_n X dX12_become_167 rfl rfl ?_
      refine r_getR X dX12_become_168 fX12_21 (by assumption) (by assumption) ?_
      refine r_iload_n X dX12_become_171 rfl rfl ?_
      refine r_ialdN X dX12_become_172 (by assumption) (by omega) (by omega) (by first | assumption | rfl) ?_
      refine r_iastN X dX12_become_173 (by assumption) (by omega) (by omega) ?_
      refine r_aload_n X dX12_become_174 rfl rfl ?_
      refine r_getR X dX12_become_175 fX12_24 (by assumption) (by assumption) ?_
      refine r_iload_n X dX12_become_178 rfl rfl ?_
      refine r_aload_n X dX12_become_179 rfl rfl ?_
      refine r_getR X dX12_become_180 fX12_24 (by assumption) (by assumption) ?_
      refine r_iload_n X dX12_become_183 rfl rfl ?_
      refine r_ialdN X dX12_become_184 (by assumption) (by omega) (by omega) (by first | assumption | rfl) ?_
      refine r_iastN X dX12_become_185 (by assumption) (by omega) (by omega) ?_
      first | refine r_iincN X dX12_become_186 rfl (by decide) rfl ?_ | refine r_iinc X dX12_become_186 rfl rfl (by decide) rfl ?_
      refine r_goto (tgt := 156) X dX12_become_189 (by decide) ?_
      exact r_world (by rw [cp2_s _ _ _ _ _ _ (by omega) (by omega) (by omega) (by omega) (by omega)]) (ih (by omega))
  have H1 : ∀ j, j ≤ 16 → G E M 0 0 (qQ E M (rmL 1) (fun v w' => v = none ∧ w' = (S, mBec I t u sg gp, V, J, N))) 106 [some (.ref t), some (.ref u), some (.int (nI j))] [] (S, cp3 (mBec0 I t u) (t + 1) (u + 1) (t + 2) (u + 2) (t + 3) (u + 3) j, V, J, N) := by
    refine loopN 16 (fun j hj ih => ?_)
    refine r_iload_n X dX12_become_106 rfl rfl ?_
    refine r_bipush (v := nI 16) X dX12_become_107 (by decide) ?_
    refine r_icmpN_ge (tgt := 154) X dX12_become_109 (by decide) (by omega) (by omega) (fun h109 => ?_) (fun h109 => ?_)
    · skip
      refine r_iconst (v := nI 0) X dX12_become_154 (by decide) ?_
      refine r_istore_n X dX12_become_155 rfl (by decide) rfl ?_
      obtain rfl : j = 16 := by omega
      exact r_world (by rw [cp2_0, mBec1]) (H2 0 (by omega))
    · skip
      refine r_aload_n X dX12_become_112 rfl rfl ?_
      refine r_getR X dX12_become_113 fX12_9 (by assumption) (by assumption) ?_
      refine r_iload_n X dX12_become_116 rfl rfl ?_
      refine r_aload_n X dX12_become_117 rfl rfl ?_
      refine r_getR X dX12_become_118 fX12_9 (by assumption) (by assumption) ?_
      refine r_iload_n X dX12_become_121 rfl rfl ?_
      refine r_ialdN X dX12_become_122 (by assumption) (by omega) (by omega) (by first | assumption | rfl) ?_
      refine r_iastN X dX12_become_123 (by assumption) (by omega) (by omega) ?_
      refine r_aload_n X dX12_become_124 rfl rfl ?_
      refine r_getR X dX12_become_125 fX12_15 (by assumption) (by assumption) ?_
      refine r_iload_n X dX12_become_128 rfl rfl ?_
      refine r_aload_n X dX12_become_129 rfl rfl ?_
      refine r_getR X dX12_become_130 fX12_15 (by assumption) (by assumption) ?_
      refine r_iload_n X dX12_become_133 rfl rfl ?_
      refine r_ialdN X dX12_become_134 (by assumption) (by omega) (by omega) (by first | assumption | rfl) ?_
      refine r_iastN X dX12_become_135 (by assumption) (by omega) (by omega) ?_
      refine r_aload_n X dX12_become_136 rfl rfl ?_
      refine r_getR X dX12_become_137 fX12_18 (by assumption) (by assumption) ?_
      refine r_iload_n X dX12_become_140 rfl rfl ?_
      refine r_aload_n X dX12_become_141 rfl rfl ?_
      refine r_getR X dX12_become_142 fX12_18 (by assumption) (by assumption) ?_
      refine r_iload_n X dX12_become_145 rfl rfl ?_
      refine r_ialdN X dX12_become_146 (by assumption) (by omega) (by omega) (by first | assumption | rfl) ?_
      refine r_iastN X dX12_become_147 (by assumption) (by omega) (by omega) ?_
      first | refine r_iincN X dX12_become_148 rfl (by decide) rfl ?_ | refine r_iinc X dX12_become_148 rfl rfl (by decide) rfl ?_
      refine r_goto (tgt := 106) X dX12_become_151 (by decide) ?_
      exact r_world (by rw [cp3_s _ _ _ _ _ _ _ _ (by omega) (by omega) (by omega) (by omega) (by omega) (by omega) (by omega) (by omega) (by omega) (by omega) (by omega) (by omega)]) (ih (by omega))
  refine r_aload_n X dX12_become_0 rfl rfl ?_
  refine r_aload_n X dX12_become_1 rfl rfl ?_
  refine r_getI X dX12_become_2 fX12_39 (by assumption) (by first | assumption | rfl) ?_
  refine r_aload_n X dX12_become_5 rfl rfl ?_
  refine r_getI X dX12_become_6 fX12_43 (by assumption) (by first | assumption | rfl) ?_
  refine r_aload_n X dX12_become_9 rfl rfl ?_
  refine r_getI X dX12_become_10 fX12_46 (by assumption) (by first | assumption | rfl) ?_
  refine r_aload_n X dX12_become_13 rfl rfl ?_
  refine r_getI X dX12_become_14 fX12_55 (by assumption) (by first | assumption | rfl) ?_
  refine r_aload_n X dX12_become_17 rfl rfl ?_
  refine r_getI X dX12_become_18 fX12_58 (by assumption) (by first | assumption | rfl) ?_
  refine q_callV X dX12_become_21 mX12_85 cwX12_begin (c_mBegin GE S I V J N t _ _ _ _ _ hT) rfl (hT.1) rfl rfl rfl (Nat.le_of_ble_eq_true rfl) ⟨Nat.le_of_ble_eq_true rfl, Nat.le_of_ble_eq_true rfl⟩ ⟨(by first | omega | decide | (simp only [rmL, rmA]; omega)), (by first | omega | decide | (simp only [rmL, rmA]; omega))⟩ ?_
  rintro _ _ ⟨rfl, rfl⟩
  refine r_aload_n X dX12_become_24 rfl rfl ?_
  refine r_aload_n X dX12_become_25 rfl rfl ?_
  refine r_getI X dX12_become_26 fX12_49 (by assumption) (e0 1) ?_
  refine r_putI X dX12_become_29 fX12_49 wX12_49 (by assumption) rfl rfl ?_
  refine r_aload_n X dX12_become_32 rfl rfl ?_
  refine r_aload_n X dX12_become_33 rfl rfl ?_
  refine r_getI X dX12_become_34 fX12_52 (by assumption) ((up2_a (by omega)).trans (e0 2)) ?_
  refine r_putI X dX12_become_37 fX12_52 wX12_52 (by assumption) rfl rfl ?_
  refine r_aload_n X dX12_become_40 rfl rfl ?_
  refine r_aload_n X dX12_become_41 rfl rfl ?_
  refine r_getI X dX12_become_42 fX12_61 (by assumption) ((up2_a (by omega)).trans ((up2_a (by omega)).trans (e0 5))) ?_
  refine r_putI X dX12_become_45 fX12_61 wX12_61 (by assumption) rfl rfl ?_
  refine r_aload_n X dX12_become_48 rfl rfl ?_
  refine r_aload_n X dX12_become_49 rfl rfl ?_
  refine r_getI X dX12_become_50 fX12_64 (by assumption) ((up2_a (by omega)).trans ((up2_a (by omega)).trans ((up2_a (by omega)).trans (e0 6)))) ?_
  refine r_putI X dX12_become_53 fX12_64 wX12_64 (by assumption) rfl rfl ?_
  refine r_aload_n X dX12_become_56 rfl rfl ?_
  refine r_aload_n X dX12_become_57 rfl rfl ?_
  refine r_getI X dX12_become_58 fX12_67 (by assumption) ((up2_a (by omega)).trans ((up2_a (by omega)).trans ((up2_a (by omega)).trans ((up2_a (by omega)).trans (e0 7))))) ?_
  refine r_putI X dX12_become_61 fX12_67 wX12_67 (by assumption) rfl rfl ?_
  refine r_aload_n X dX12_become_64 rfl rfl ?_
  refine r_aload_n X dX12_become_65 rfl rfl ?_
  refine r_getI X dX12_become_66 fX12_70 (by assumption) ((up2_a (by omega)).trans ((up2_a (by omega)).trans ((up2_a (by omega)).trans ((up2_a (by omega)).trans ((up2_a (by omega)).trans (e0 8)))))) ?_
  refine r_putI X dX12_become_69 fX12_70 wX12_70 (by assumption) rfl rfl ?_
  refine r_aload_n X dX12_become_72 rfl rfl ?_
  refine r_aload_n X dX12_become_73 rfl rfl ?_
  refine r_getI X dX12_become_74 fX12_73 (by assumption) ((up2_a (by omega)).trans ((up2_a (by omega)).trans ((up2_a (by omega)).trans ((up2_a (by omega)).trans ((up2_a (by omega)).trans ((up2_a (by omega)).trans (e0 9))))))) ?_
  refine r_putI X dX12_become_77 fX12_73 wX12_73 (by assumption) rfl rfl ?_
  refine r_aload_n X dX12_become_80 rfl rfl ?_
  refine r_aload_n X dX12_become_81 rfl rfl ?_
  refine r_getI X dX12_become_82 fX12_76 (by assumption) ((up2_a (by omega)).trans ((up2_a (by omega)).trans ((up2_a (by omega)).trans ((up2_a (by omega)).trans ((up2_a (by omega)).trans ((up2_a (by omega)).trans ((up2_a (by omega)).trans (e0 10)))))))) ?_
  refine r_putI X dX12_become_85 fX12_76 wX12_76 (by assumption) rfl rfl ?_
  refine r_aload_n X dX12_become_88 rfl rfl ?_
  refine r_aload_n X dX12_become_89 rfl rfl ?_
  refine r_getI X dX12_become_90 fX12_79 (by assumption) ((up2_a (by omega)).trans ((up2_a (by omega)).trans ((up2_a (by omega)).trans ((up2_a (by omega)).trans ((up2_a (by omega)).trans ((up2_a (by omega)).trans ((up2_a (by omega)).trans ((up2_a (by omega)).trans (e0 11))))))))) ?_
  refine r_putI X dX12_become_93 fX12_79 wX12_79 (by assumption) rfl rfl ?_
  refine r_aload_n X dX12_become_96 rfl rfl ?_
  refine r_aload_n X dX12_become_97 rfl rfl ?_
  refine r_getI X dX12_become_98 fX12_82 (by assumption) ((up2_a (by omega)).trans ((up2_a (by omega)).trans ((up2_a (by omega)).trans ((up2_a (by omega)).trans ((up2_a (by omega)).trans ((up2_a (by omega)).trans ((up2_a (by omega)).trans ((up2_a (by omega)).trans ((up2_a (by omega)).trans (e0 12)))))))))) ?_
  refine r_putI X dX12_become_101 fX12_82 wX12_82 (by assumption) rfl rfl ?_
  refine r_iconst (v := nI 0) X dX12_become_104 (by decide) ?_
  refine r_istore_n X dX12_become_105 rfl (by decide) rfl ?_
  exact r_world (by rw [cp3_0, mBec0]) (H1 0 (by omega))
