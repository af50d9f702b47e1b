/-! ===== the reference: leads ===== -/
theorem dWeak_c {I I' : Mem} {t : Nat} (h1 : ∀ k, I' (t + 1) k = I (t + 1) k) (h2 : ∀ k, I' (t + 2) k = I (t + 2) k) : ∀ j, dWeak I' t j = dWeak I t j
  | 0 => rfl
  | j + 1 => by
    unfold dWeak
    rw [dWeak_c h1 h2 j, h2 j]
    simp only [h1]
def mPauZ (I : Mem) (t m : Nat) (c : Int32) : Mem := up2 (up2 (dGain I t (tRestGain c) m) t 9 (dGain I t (tRestGain c) m t 9 + 1)) t 8 0
def mPau (I : Mem) (t m w : Nat) (act c : Int32) : Mem :=
  if act = 2 ∧ 0 < I t 2 then mPauZ (dGain (up2 I t 2 (I t 2 - 1)) t 120 m) t m c
  else if act = 3 ∧ I t 7 = 0 ∧ 1 < mOf I t 0 m then mPauZ (up2 (up2 I (t + 2) w 2) (t + 3) w (I t 6)) t m c
  else mPauZ I t m c
def MplOK (I : Mem) (g p : Nat) : Prop := I (g + 21) p = nI (mNr I g p) ∧ mNr I g p ≤ 12 ∧ ∀ q, q < mNr I g p → I (g + 23) (12 * p + q) = nI (mTc I g (12 * p + q)) ∧ mTc I g (12 * p + q) ≤ 4
def mRule (I : Mem) (g t m w l s p : Nat) : Option Nat := fst1 (fun q => mHol I g t m w l s (12 * p + q) (mTc I g (12 * p + q))) (mNr I g p)
def mAct (I : Mem) (g p : Nat) (o : Option Nat) : Int32 := match o with
  | none => 0
  | some q => I (g + 22) (12 * p + q)
def mActs (I : Mem) (g t m w l n s p : Nat) (o : Option Nat) : Mem :=
  if mAct I g p o = 0 then mGo (up2 I t 10 (rI o)) g t m l n s (I (g + 3) (s / 6)) else mPau (up2 I t 10 (rI o)) t m w (mAct I g p o) (I (g + 3) (s / 6))
def mOn (I : Mem) (t s : Nat) : Mem := if I t 5 = 0 ∧ I t 3 = nI s then up2 (up2 I t 5 1) (t + 4) 0 (nI s) else I
def mLeadZ (I : Mem) (g t m w l n s p : Nat) : Mem := if I t 5 = 1 then mActs I g t m w l n s p (mRule I g t m w l s p) else I
def mLead (I : Mem) (g t m w l n s p : Nat) : Mem := mLeadZ (mOn I t s) g t m w l n s p
theorem dGain_t {I : Mem} {t : Nat} {x : Int32} {b k : Nat} (h : b ≠ t + 1) (j : Nat) : dGain I t x j b k = I b k := dGain_k I t x h j
set_option maxHeartbeats 2000000 in
set_option maxRecDepth 20000 in
/-- SledHouseModel.leads -/
theorem c_mLead {E : Ev} (GE : Glob E) (S : Nat → Option (Nat × Nat)) (I : Nat → Nat → Int32) (V : Nat → Nat → Option Nat) (J : Nat → Nat → Int64) (N : Nat) (g t m w l n s p ow : Nat) (hM : MdSh S V g) (hR : MrSh S V g) (hT : MtSh S V t) (hgt : g + 3 < t) (hgt2 : t + 9 < g + 19 ∨ g + 27 < t) (hm : I t 0 = nI m) (hm6 : m ≤ 16) (hl : I t 6 = nI l) (hn : I g 4 = nI n) (hn12 : n ≤ 12) (hs : s < 2000) (how : I t 13 = nI ow) (how3 : ow ≤ 300) (hp : I t 4 = nI p) (hp9 : p < 9) (hP : MplOK I g p) (hon : I t 5 = 0 ∨ I t 5 = 1 → l < 12 ∧ ¬ 1000 * I (g + 2) l = 0 ∧ dWeak I t m = some w) : Ct E yX13_leads cX13_leads 8 none (rmL 4) [.ref g, .ref t, .int (nI s)] (S, I, V, J, N) (fun v w' => v = none ∧ w' = (S, mLead I g t m w l n s p, V, J, N)) := by
  refine Ct.start GE (by decide) rfl (Nat.le_of_ble_eq_true rfl) (fun M X => ?_)
  have X : Cx E M RX13 cX13_leads 8 (rmL 4) none "leads" := X
  refine r_loc (L' := [some (.ref g), some (.ref t), some (.int (nI s)), none, none, none, none, none]) rfl ?_
  obtain ⟨hs0, v8, v9, v10, v11, v16, v17, v18, v19, v20, s1, s2, s3, s4, s5, s6, s7, s8, hOt, hTe, hKt⟩ := id hM
  obtain ⟨v21, v22, v32, v33, v34, v35, v36, v37, v39, s19, s20, s21, s22, s23, s24, s25, s26, s27⟩ := id hR
  obtain ⟨ts0, u15, u16, u17, u18, u19, u20, u21, u22, u23, w1, w2, w3, w4, w5, w6, w7, w8, w9⟩ := id hT
  generalize hZ : mLead I g t m w l n s p = Z
  have e239 : ∀ (I1 : Mem) (c : Int32), I1 t 0 = nI m → mPauZ I1 t m c = Z → ∀ x3 x4 x5 x7, G E M 0 0 (qQ E M (rmL 4) (fun v w' => v = none ∧ w' = (S, Z, V, J, N))) 239 [some (.ref g), some (.ref t), some (.int (nI s)), x3, x4, x5, some (.int c), x7] [] (S, I1, V, J, N) := by
    intro I1 c h0 he x3 x4 x5 x7
    have e266 : ∀ y, y = tRestGain c → G E M 0 0 (qQ E M (rmL 4) (fun v w' => v = none ∧ w' = (S, Z, V, J, N))) 266 [some (.ref g), some (.ref t), some (.int (nI s)), x3, x4, x5, some (.int c), x7] [.int y, .ref t] (S, I1, V, J, N) := by
      intro y hy
      rw [hy]
      refine q_callV X dX13_leads_266 mX13_349 cwX12_gain (c_mGain GE S I1 V J N t m _ hT h0 hm6) rfl (by assumption) rfl rfl rfl (Nat.le_of_ble_eq_true rfl) ⟨Nat.le_of_ble_eq_true rfl, Nat.le_of_ble_eq_true rfl⟩ ⟨(by first | omega | decide | (simp only [rmL, rmA]; omega)), (by first | omega | decide | (simp only [rmL, rmA]; omega))⟩ ?_
      rintro _ _ ⟨rfl, rfl⟩
      refine r_aload_n X dX13_leads_269 rfl rfl ?_
      refine r_dup X dX13_leads_270 rfl ?_
      refine r_getI X dX13_leads_271 fX13_312 (by assumption) (by first | assumption | rfl) ?_
      refine r_iconst (v := 1) X dX13_leads_274 (by decide) ?_
      refine r_iadd X dX13_leads_275 ?_
      refine r_putI X dX13_leads_276 fX13_312 wX13_312 (by assumption) rfl rfl ?_
      refine r_aload_n X dX13_leads_279 rfl rfl ?_
      refine r_iconst (v := 0) X dX13_leads_280 (by decide) ?_
      refine r_putI X dX13_leads_281 fX13_310 wX13_310 (by assumption) rfl rfl ?_
      refine r_return X dX13_leads_284 (by first | omega | decide | (simp only [rmL, rmA]; omega)) (by first | omega | decide | (simp only [rmL, rmA]; omega)) ?_
      exact ⟨rfl, by rw [← he, mPauZ]⟩
    refine r_aload_n X dX13_leads_239 rfl rfl ?_
    refine r_iload X dX13_leads_240 rfl ?_
    refine r_bipush (v := -30) X dX13_leads_242 (by decide) ?_
    refine r_icmp_ge (tgt := 252) X dX13_leads_244 (by decide) (fun h244 => ?_) (fun h244 => ?_)
    · skip
      refine r_iload X dX13_leads_252 rfl ?_
      refine r_bipush (v := -5) X dX13_leads_254 (by decide) ?_
      refine r_icmp_le (tgt := 264) X dX13_leads_256 (by decide) (fun h256 => ?_) (fun h256 => ?_)
      · skip
        refine r_bipush (v := 15) X dX13_leads_264 (by decide) ?_
        first
          | exact e266 _ (by rw [tRestGain, if_pos (Int32.not_le.mp h244)])
          | exact e266 _ (by rw [tRestGain, if_neg (Int32.not_lt.mpr h244), if_pos (Int32.not_le.mp h256)])
          | exact e266 _ (by rw [tRestGain, if_neg (Int32.not_lt.mpr h244), if_neg (Int32.not_lt.mpr h256)])
      · skip
        refine r_bipush (v := 12) X dX13_leads_259 (by decide) ?_
        refine r_goto (tgt := 266) X dX13_leads_261 (by decide) ?_
        first
          | exact e266 _ (by rw [tRestGain, if_pos (Int32.not_le.mp h244)])
          | exact e266 _ (by rw [tRestGain, if_neg (Int32.not_lt.mpr h244), if_pos (Int32.not_le.mp h256)])
          | exact e266 _ (by rw [tRestGain, if_neg (Int32.not_lt.mpr h244), if_neg (Int32.not_lt.mpr h256)])
    · skip
      refine r_bipush (v := 10) X dX13_leads_247 (by decide) ?_
      refine r_goto (tgt := 266) X dX13_leads_249 (by decide) ?_
      first
        | exact e266 _ (by rw [tRestGain, if_pos (Int32.not_le.mp h244)])
        | exact e266 _ (by rw [tRestGain, if_neg (Int32.not_lt.mpr h244), if_pos (Int32.not_le.mp h256)])
        | exact e266 _ (by rw [tRestGain, if_neg (Int32.not_lt.mpr h244), if_neg (Int32.not_lt.mpr h256)])
  have e160 : ∀ (I1 : Mem) (a c : Int32), I1 t 0 = nI m → dWeak I1 t m = some w → mPau I1 t m w a c = Z → ∀ x3 x4, G E M 0 0 (qQ E M (rmL 4) (fun v w' => v = none ∧ w' = (S, Z, V, J, N))) 160 [some (.ref g), some (.ref t), some (.int (nI s)), some (.int x3), some (.int x4), some (.int a), some (.int c), none] [] (S, I1, V, J, N) := by
    intro I1 a c h0 hw he x3 x4
    have hwl := dWeak_lt I1 t m w hw
    refine r_iload X dX13_leads_160 rfl ?_
    refine r_iconst (v := 2) X dX13_leads_162 (by decide) ?_
    refine r_icmp_ne (tgt := 192) X dX13_leads_163 (by decide) (fun h163 => ?_) (fun h163 => ?_)
    · skip
      refine r_iload X dX13_leads_192 rfl ?_
      refine r_iconst (v := 3) X dX13_leads_194 (by decide) ?_
      refine r_icmp_ne (tgt := 239) X dX13_leads_195 (by decide) (fun h195 => ?_) (fun h195 => ?_)
      · skip
        first
          | (refine e239 _ _ ?_ ?_ _ _ _ _
             · exact (dGain_t (by omega) m).trans ((up2_k (by decide)).trans h0)
             · rw [← he, mPau, if_pos ⟨h163, Int32.not_le.mp h170⟩])
          | (refine e239 _ _ ?_ ?_ _ _ _ _
             · exact (up2_a (by omega)).trans ((up2_a (by omega)).trans h0)
             · rw [← he, mPau, if_neg (by intro z; first | exact h163 z.1 | exact absurd z.2 (Int32.not_lt.mpr h170)), if_pos ⟨h195, h202, Int32.not_le.mp h211⟩])
          | (refine e239 _ _ h0 ?_ _ _ _ _
             rw [← he, mPau, if_neg (by intro z; first | exact h163 z.1 | exact absurd z.2 (Int32.not_lt.mpr h170)), if_neg (by intro z; first | exact h195 z.1 | exact h202 z.2.1 | exact absurd z.2.2 (Int32.not_lt.mpr h211))])
      · skip
        refine r_aload_n X dX13_leads_198 rfl rfl ?_
        refine r_getI X dX13_leads_199 fX13_304 (by assumption) (by first | assumption | rfl) ?_
        refine r_if_ne (tgt := 239) X dX13_leads_202 (by decide) (fun h202 => ?_) (fun h202 => ?_)
        · skip
          first
            | (refine e239 _ _ ?_ ?_ _ _ _ _
               · exact (dGain_t (by omega) m).trans ((up2_k (by decide)).trans h0)
               · rw [← he, mPau, if_pos ⟨h163, Int32.not_le.mp h170⟩])
            | (refine e239 _ _ ?_ ?_ _ _ _ _
               · exact (up2_a (by omega)).trans ((up2_a (by omega)).trans h0)
               · rw [← he, mPau, if_neg (by intro z; first | exact h163 z.1 | exact absurd z.2 (Int32.not_lt.mpr h170)), if_pos ⟨h195, h202, Int32.not_le.mp h211⟩])
            | (refine e239 _ _ h0 ?_ _ _ _ _
               rw [← he, mPau, if_neg (by intro z; first | exact h163 z.1 | exact absurd z.2 (Int32.not_lt.mpr h170)), if_neg (by intro z; first | exact h195 z.1 | exact h202 z.2.1 | exact absurd z.2.2 (Int32.not_lt.mpr h211))])
        · skip
          refine r_aload_n X dX13_leads_205 rfl rfl ?_
          refine r_iconst (v := 0) X dX13_leads_206 (by decide) ?_
          refine q_callV X dX13_leads_207 mX13_324 cwX12_of (c_mOf GE S I1 V J N t m _ hT h0 hm6) rfl (by assumption) rfl rfl rfl (Nat.le_of_ble_eq_true rfl) ⟨Nat.le_of_ble_eq_true rfl, Nat.le_of_ble_eq_true rfl⟩ ⟨(by first | omega | decide | (simp only [rmL, rmA]; omega)), (by first | omega | decide | (simp only [rmL, rmA]; omega))⟩ ?_
          rintro _ _ ⟨rfl, rfl⟩
          refine r_iconst (v := 1) X dX13_leads_210 (by decide) ?_
          refine r_icmp_le (tgt := 239) X dX13_leads_211 (by decide) (fun h211 => ?_) (fun h211 => ?_)
          · skip
            first
              | (refine e239 _ _ ?_ ?_ _ _ _ _
                 · exact (dGain_t (by omega) m).trans ((up2_k (by decide)).trans h0)
                 · rw [← he, mPau, if_pos ⟨h163, Int32.not_le.mp h170⟩])
              | (refine e239 _ _ ?_ ?_ _ _ _ _
                 · exact (up2_a (by omega)).trans ((up2_a (by omega)).trans h0)
                 · rw [← he, mPau, if_neg (by intro z; first | exact h163 z.1 | exact absurd z.2 (Int32.not_lt.mpr h170)), if_pos ⟨h195, h202, Int32.not_le.mp h211⟩])
              | (refine e239 _ _ h0 ?_ _ _ _ _
                 rw [← he, mPau, if_neg (by intro z; first | exact h163 z.1 | exact absurd z.2 (Int32.not_lt.mpr h170)), if_neg (by intro z; first | exact h195 z.1 | exact h202 z.2.1 | exact absurd z.2.2 (Int32.not_lt.mpr h211))])
          · skip
            refine r_aload_n X dX13_leads_214 rfl rfl ?_
            refine q_callV X dX13_leads_215 mX13_317 cwX12_weakest (c_mWeak GE S I1 V J N t m hT h0 hm6) rfl (by assumption) rfl rfl rfl (Nat.le_of_ble_eq_true rfl) ⟨Nat.le_of_ble_eq_true rfl, Nat.le_of_ble_eq_true rfl⟩ ⟨(by first | omega | decide | (simp only [rmL, rmA]; omega)), (by first | omega | decide | (simp only [rmL, rmA]; omega))⟩ ?_
            rintro _ _ ⟨rfl, rfl⟩
            refine r_topi (nI w) (by rw [hw]; rfl) ?_
            refine r_istore X dX13_leads_218 (by decide) rfl ?_
            refine r_aload_n X dX13_leads_220 rfl rfl ?_
            refine r_getR X dX13_leads_221 fX13_352 (by assumption) (by assumption) ?_
            refine r_iload X dX13_leads_224 rfl ?_
            refine r_iconst (v := 2) X dX13_leads_226 (by decide) ?_
            refine r_iastN X dX13_leads_227 (by assumption) (by omega) (by omega) ?_
            refine r_aload_n X dX13_leads_228 rfl rfl ?_
            refine r_getR X dX13_leads_229 fX13_355 (by assumption) (by assumption) ?_
            refine r_iload X dX13_leads_232 rfl ?_
            refine r_aload_n X dX13_leads_234 rfl rfl ?_
            refine r_getI X dX13_leads_235 fX13_307 (by assumption) (up2_a (by omega)) ?_
            refine r_iastN X dX13_leads_238 (by assumption) (by omega) (by omega) ?_
            first
              | (refine e239 _ _ ?_ ?_ _ _ _ _
                 · exact (dGain_t (by omega) m).trans ((up2_k (by decide)).trans h0)
                 · rw [← he, mPau, if_pos ⟨h163, Int32.not_le.mp h170⟩])
              | (refine e239 _ _ ?_ ?_ _ _ _ _
                 · exact (up2_a (by omega)).trans ((up2_a (by omega)).trans h0)
                 · rw [← he, mPau, if_neg (by intro z; first | exact h163 z.1 | exact absurd z.2 (Int32.not_lt.mpr h170)), if_pos ⟨h195, h202, Int32.not_le.mp h211⟩])
              | (refine e239 _ _ h0 ?_ _ _ _ _
                 rw [← he, mPau, if_neg (by intro z; first | exact h163 z.1 | exact absurd z.2 (Int32.not_lt.mpr h170)), if_neg (by intro z; first | exact h195 z.1 | exact h202 z.2.1 | exact absurd z.2.2 (Int32.not_lt.mpr h211))])
    · skip
      refine r_aload_n X dX13_leads_166 rfl rfl ?_
      refine r_getI X dX13_leads_167 fX13_322 (by assumption) (by first | assumption | rfl) ?_
      refine r_if_le (tgt := 192) X dX13_leads_170 (by decide) (fun h170 => ?_) (fun h170 => ?_)
      · skip
        refine r_iload X dX13_leads_192 rfl ?_
        refine r_iconst (v := 3) X dX13_leads_194 (by decide) ?_
        refine r_icmp_ne (tgt := 239) X dX13_leads_195 (by decide) (fun h195 => ?_) (fun h195 => ?_)
        · skip
          first
            | (refine e239 _ _ ?_ ?_ _ _ _ _
               · exact (dGain_t (by omega) m).trans ((up2_k (by decide)).trans h0)
               · rw [← he, mPau, if_pos ⟨h163, Int32.not_le.mp h170⟩])
            | (refine e239 _ _ ?_ ?_ _ _ _ _
               · exact (up2_a (by omega)).trans ((up2_a (by omega)).trans h0)
               · rw [← he, mPau, if_neg (by intro z; first | exact h163 z.1 | exact absurd z.2 (Int32.not_lt.mpr h170)), if_pos ⟨h195, h202, Int32.not_le.mp h211⟩])
            | (refine e239 _ _ h0 ?_ _ _ _ _
               rw [← he, mPau, if_neg (by intro z; first | exact h163 z.1 | exact absurd z.2 (Int32.not_lt.mpr h170)), if_neg (by intro z; first | exact h195 z.1 | exact h202 z.2.1 | exact absurd z.2.2 (Int32.not_lt.mpr h211))])
        · skip
          refine r_aload_n X dX13_leads_198 rfl rfl ?_
          refine r_getI X dX13_leads_199 fX13_304 (by assumption) (by first | assumption | rfl) ?_
          refine r_if_ne (tgt := 239) X dX13_leads_202 (by decide) (fun h202 => ?_) (fun h202 => ?_)
          · skip
            first
              | (refine e239 _ _ ?_ ?_ _ _ _ _
                 · exact (dGain_t (by omega) m).trans ((up2_k (by decide)).trans h0)
                 · rw [← he, mPau, if_pos ⟨h163, Int32.not_le.mp h170⟩])
              | (refine e239 _ _ ?_ ?_ _ _ _ _
                 · exact (up2_a (by omega)).trans ((up2_a (by omega)).trans h0)
                 · rw [← he, mPau, if_neg (by intro z; first | exact h163 z.1 | exact absurd z.2 (Int32.not_lt.mpr h170)), if_pos ⟨h195, h202, Int32.not_le.mp h211⟩])
              | (refine e239 _ _ h0 ?_ _ _ _ _
                 rw [← he, mPau, if_neg (by intro z; first | exact h163 z.1 | exact absurd z.2 (Int32.not_lt.mpr h170)), if_neg (by intro z; first | exact h195 z.1 | exact h202 z.2.1 | exact absurd z.2.2 (Int32.not_lt.mpr h211))])
          · skip
            refine r_aload_n X dX13_leads_205 rfl rfl ?_
            refine r_iconst (v := 0) X dX13_leads_206 (by decide) ?_
            refine q_callV X dX13_leads_207 mX13_324 cwX12_of (c_mOf GE S I1 V J N t m _ hT h0 hm6) rfl (by assumption) rfl rfl rfl (Nat.le_of_ble_eq_true rfl) ⟨Nat.le_of_ble_eq_true rfl, Nat.le_of_ble_eq_true rfl⟩ ⟨(by first | omega | decide | (simp only [rmL, rmA]; omega)), (by first | omega | decide | (simp only [rmL, rmA]; omega))⟩ ?_
            rintro _ _ ⟨rfl, rfl⟩
            refine r_iconst (v := 1) X dX13_leads_210 (by decide) ?_
            refine r_icmp_le (tgt := 239) X dX13_leads_211 (by decide) (fun h211 => ?_) (fun h211 => ?_)
            · skip
              first
                | (refine e239 _ _ ?_ ?_ _ _ _ _
                   · exact (dGain_t (by omega) m).trans ((up2_k (by decide)).trans h0)
                   · rw [← he, mPau, if_pos ⟨h163, Int32.not_le.mp h170⟩])
                | (refine e239 _ _ ?_ ?_ _ _ _ _
                   · exact (up2_a (by omega)).trans ((up2_a (by omega)).trans h0)
                   · rw [← he, mPau, if_neg (by intro z; first | exact h163 z.1 | exact absurd z.2 (Int32.not_lt.mpr h170)), if_pos ⟨h195, h202, Int32.not_le.mp h211⟩])
                | (refine e239 _ _ h0 ?_ _ _ _ _
                   rw [← he, mPau, if_neg (by intro z; first | exact h163 z.1 | exact absurd z.2 (Int32.not_lt.mpr h170)), if_neg (by intro z; first | exact h195 z.1 | exact h202 z.2.1 | exact absurd z.2.2 (Int32.not_lt.mpr h211))])
            · skip
              refine r_aload_n X dX13_leads_214 rfl rfl ?_
              refine q_callV X dX13_leads_215 mX13_317 cwX12_weakest (c_mWeak GE S I1 V J N t m hT h0 hm6) rfl (by assumption) rfl rfl rfl (Nat.le_of_ble_eq_true rfl) ⟨Nat.le_of_ble_eq_true rfl, Nat.le_of_ble_eq_true rfl⟩ ⟨(by first | omega | decide | (simp only [rmL, rmA]; omega)), (by first | omega | decide | (simp only [rmL, rmA]; omega))⟩ ?_
              rintro _ _ ⟨rfl, rfl⟩
              refine r_topi (nI w) (by rw [hw]; rfl) ?_
              refine r_istore X dX13_leads_218 (by decide) rfl ?_
              refine r_aload_n X dX13_leads_220 rfl rfl ?_
              refine r_getR X dX13_leads_221 fX13_352 (by assumption) (by assumption) ?_
              refine r_iload X dX13_leads_224 rfl ?_
              refine r_iconst (v := 2) X dX13_leads_226 (by decide) ?_
              refine r_iastN X dX13_leads_227 (by assumption) (by omega) (by omega) ?_
              refine r_aload_n X dX13_leads_228 rfl rfl ?_
              refine r_getR X dX13_leads_229 fX13_355 (by assumption) (by assumption) ?_
              refine r_iload X dX13_leads_232 rfl ?_
              refine r_aload_n X dX13_leads_234 rfl rfl ?_
              refine r_getI X dX13_leads_235 fX13_307 (by assumption) (up2_a (by omega)) ?_
              refine r_iastN X dX13_leads_238 (by assumption) (by omega) (by omega) ?_
              first
                | (refine e239 _ _ ?_ ?_ _ _ _ _
                   · exact (dGain_t (by omega) m).trans ((up2_k (by decide)).trans h0)
                   · rw [← he, mPau, if_pos ⟨h163, Int32.not_le.mp h170⟩])
                | (refine e239 _ _ ?_ ?_ _ _ _ _
                   · exact (up2_a (by omega)).trans ((up2_a (by omega)).trans h0)
                   · rw [← he, mPau, if_neg (by intro z; first | exact h163 z.1 | exact absurd z.2 (Int32.not_lt.mpr h170)), if_pos ⟨h195, h202, Int32.not_le.mp h211⟩])
                | (refine e239 _ _ h0 ?_ _ _ _ _
                   rw [← he, mPau, if_neg (by intro z; first | exact h163 z.1 | exact absurd z.2 (Int32.not_lt.mpr h170)), if_neg (by intro z; first | exact h195 z.1 | exact h202 z.2.1 | exact absurd z.2.2 (Int32.not_lt.mpr h211))])
      · skip
        refine r_aload_n X dX13_leads_173 rfl rfl ?_
        refine r_dup X dX13_leads_174 rfl ?_
        refine r_getI X dX13_leads_175 fX13_322 (by assumption) (by first | assumption | rfl) ?_
        refine r_iconst (v := 1) X dX13_leads_178 (by decide) ?_
        refine r_isub X dX13_leads_179 ?_
        refine r_putI X dX13_leads_180 fX13_322 wX13_322 (by assumption) rfl rfl ?_
        refine r_aload_n X dX13_leads_183 rfl rfl ?_
        refine r_bipush (v := 120) X dX13_leads_184 (by decide) ?_
        refine q_callV X dX13_leads_186 mX13_349 cwX12_gain (c_mGain GE S _ V J N t m _ hT ((up2_k (by decide)).trans h0) hm6) rfl (by assumption) rfl rfl rfl (Nat.le_of_ble_eq_true rfl) ⟨Nat.le_of_ble_eq_true rfl, Nat.le_of_ble_eq_true rfl⟩ ⟨(by first | omega | decide | (simp only [rmL, rmA]; omega)), (by first | omega | decide | (simp only [rmL, rmA]; omega))⟩ ?_
        rintro _ _ ⟨rfl, rfl⟩
        refine r_goto (tgt := 239) X dX13_leads_189 (by decide) ?_
        first
          | (refine e239 _ _ ?_ ?_ _ _ _ _
             · exact (dGain_t (by omega) m).trans ((up2_k (by decide)).trans h0)
             · rw [← he, mPau, if_pos ⟨h163, Int32.not_le.mp h170⟩])
          | (refine e239 _ _ ?_ ?_ _ _ _ _
             · exact (up2_a (by omega)).trans ((up2_a (by omega)).trans h0)
             · rw [← he, mPau, if_neg (by intro z; first | exact h163 z.1 | exact absurd z.2 (Int32.not_lt.mpr h170)), if_pos ⟨h195, h202, Int32.not_le.mp h211⟩])
          | (refine e239 _ _ h0 ?_ _ _ _ _
             rw [← he, mPau, if_neg (by intro z; first | exact h163 z.1 | exact absurd z.2 (Int32.not_lt.mpr h170)), if_neg (by intro z; first | exact h195 z.1 | exact h202 z.2.1 | exact absurd z.2.2 (Int32.not_lt.mpr h211))])
  have e133 : ∀ (I1 : Mem) (a x3 x4 : Int32), I1 t 0 = nI m → I1 t 6 = nI l → I1 g 4 = nI n → I1 t 13 = nI ow → ¬ 1000 * I1 (g + 2) l = 0 → l < 12 → dWeak I1 t m = some w → (if a = 0 then mGo I1 g t m l n s (I1 (g + 3) (s / 6)) else mPau I1 t m w a (I1 (g + 3) (s / 6))) = Z → G E M 0 0 (qQ E M (rmL 4) (fun v w' => v = none ∧ w' = (S, Z, V, J, N))) 133 [some (.ref g), some (.ref t), some (.int (nI s)), some (.int x3), some (.int x4), none, none, none] [.int a] (S, I1, V, J, N) := by
    intro I1 a x3 x4 h0 h6 h4 h13 hh hl12 hw he
    refine r_istore X dX13_leads_133 (by decide) rfl ?_
    refine r_aload_n X dX13_leads_135 rfl rfl ?_
    refine r_getR X dX13_leads_136 fX13_29 (by assumption) (by assumption) ?_
    refine r_iload_n X dX13_leads_139 rfl rfl ?_
    refine r_bipush (v := 6) X dX13_leads_140 (by decide) ?_
    refine r_idiv X dX13_leads_142 (by decide) ?_
    refine r_topi (nI (s / 6)) (pk_div (by omega) (by decide) (by decide)) ?_
    refine r_ialdN X dX13_leads_143 (by assumption) (by omega) (by omega) (by first | assumption | rfl) ?_
    refine r_istore X dX13_leads_144 (by decide) rfl ?_
    refine r_iload X dX13_leads_146 rfl ?_
    refine r_if_ne (tgt := 160) X dX13_leads_148 (by decide) (fun h148 => ?_) (fun h148 => ?_)
    · skip
      exact e160 _ _ _ h0 hw (by rw [← he, if_neg h148]) _ _
    · skip
      refine r_aload_n X dX13_leads_151 rfl rfl ?_
      refine r_aload_n X dX13_leads_152 rfl rfl ?_
      refine r_iload_n X dX13_leads_153 rfl rfl ?_
      refine r_iload X dX13_leads_154 rfl ?_
      refine q_callV X dX13_leads_156 mX13_345 cwX13_goes (c_mGo GE S I1 V J N g t m l n s ow _ hM hT hgt h0 hm6 h6 hl12 h4 hn12 hs hh h13 how3) rfl (by assumption) rfl rfl rfl (Nat.le_of_ble_eq_true rfl) ⟨Nat.le_of_ble_eq_true rfl, Nat.le_of_ble_eq_true rfl⟩ ⟨(by first | omega | decide | (simp only [rmL, rmA]; omega)), (by first | omega | decide | (simp only [rmL, rmA]; omega))⟩ ?_
      rintro _ _ ⟨rfl, rfl⟩
      refine r_return X dX13_leads_159 (by first | omega | decide | (simp only [rmL, rmA]; omega)) (by first | omega | decide | (simp only [rmL, rmA]; omega)) ?_
      exact ⟨rfl, by rw [← he, if_pos h148]⟩
  have e75 : ∀ (I1 : Mem) (j : Nat) (o : Option Nat), I1 t 0 = nI m → I1 t 6 = nI l → I1 g 4 = nI n → I1 t 13 = nI ow → I1 t 4 = nI p → MplOK I1 g p → ¬ 1000 * I1 (g + 2) l = 0 → l < 12 → dWeak I1 t m = some w → mActs I1 g t m w l n s p o = Z → (o = some j ∧ j < mNr I1 g p ∨ o = none ∧ j = mNr I1 g p) → G E M 0 0 (qQ E M (rmL 4) (fun v w' => v = none ∧ w' = (S, Z, V, J, N))) 75 [some (.ref g), some (.ref t), some (.int (nI s)), some (.int (nI j)), none, none, none, none] [] (S, I1, V, J, N) := by
    intro I1 j o h0 h6 h4 h13 hp1 hP1 hh hl12 hw he ho
    obtain ⟨hr1, hr2, hr3⟩ := hP1
    have hw2 : ∀ x, dWeak (up2 I1 t 10 x) t m = some w := fun x => (dWeak_c (fun k => up2_a (by omega)) (fun k => up2_a (by omega)) m).trans hw
    rw [mActs] at he
    rcases ho with ⟨rfl, hj⟩ | ⟨rfl, hj⟩
    · skip
      refine r_iload_n X dX13_leads_75 rfl rfl ?_
      refine r_aload_n X dX13_leads_76 rfl rfl ?_
      refine r_getR X dX13_leads_77 fX13_69 (by assumption) (by assumption) ?_
      refine r_aload_n X dX13_leads_80 rfl rfl ?_
      refine r_getI X dX13_leads_81 fX13_292 (by assumption) (by first | assumption | rfl) ?_
      refine r_ialdN X dX13_leads_84 (by assumption) (by omega) (by omega) hr1 ?_
      refine r_icmpN_ge (tgt := 92) X dX13_leads_85 (by decide) (by omega) (by omega) (fun h85 => ?_) (fun h85 => ?_)
      · skip
        omega
      · skip
        refine r_iconst (v := 1) X dX13_leads_88 (by decide) ?_
        refine r_goto (tgt := 93) X dX13_leads_89 (by decide) ?_
        refine r_istore X dX13_leads_93 (by decide) rfl ?_
        refine r_aload_n X dX13_leads_95 rfl rfl ?_
        refine r_iload X dX13_leads_96 rfl ?_
        refine r_if_eq (tgt := 105) X dX13_leads_98 (by decide) (fun h98 => ?_) (fun h98 => ?_)
        · skip
          exact absurd h98 (by decide)
        · skip
          refine r_iload_n X dX13_leads_101 rfl rfl ?_
          refine r_goto (tgt := 107) X dX13_leads_102 (by decide) ?_
          refine r_putI X dX13_leads_107 fX13_342 wX13_342 (by assumption) rfl rfl ?_
          refine r_iload X dX13_leads_110 rfl ?_
          refine r_if_eq (tgt := 132) X dX13_leads_112 (by decide) (fun h112 => ?_) (fun h112 => ?_)
          · skip
            exact absurd h112 (by decide)
          · skip
            refine r_aload_n X dX13_leads_115 rfl rfl ?_
            refine r_getR X dX13_leads_116 fX13_72 (by assumption) (by assumption) ?_
            refine r_bipush (v := 12) X dX13_leads_119 (by decide) ?_
            refine r_aload_n X dX13_leads_121 rfl rfl ?_
            refine r_getI X dX13_leads_122 fX13_292 (by assumption) ((up2_k (by decide)).trans hp1) ?_
            refine r_imul X dX13_leads_125 ?_
            refine r_topi (nI (12 * p)) (pk_mul 12 p) ?_
            refine r_iload_n X dX13_leads_126 rfl rfl ?_
            refine r_iadd X dX13_leads_127 ?_
            refine r_topi (nI (12 * p + j)) (nI_add _ _) ?_
            refine r_ialdN X dX13_leads_128 (by assumption) (by omega) (by omega) (up2_a (by omega)) ?_
            refine r_goto (tgt := 133) X dX13_leads_129 (by decide) ?_
            refine e133 _ _ _ _ ((up2_k (by decide)).trans h0) ((up2_k (by decide)).trans h6) ((up2_a (by omega)).trans h4) ((up2_k (by decide)).trans h13) (by rw [up2_a (by omega)]; exact hh) hl12 (hw2 _) ?_
            rw [← he, up2_a (by omega)]
            rfl
    · skip
      refine r_iload_n X dX13_leads_75 rfl rfl ?_
      refine r_aload_n X dX13_leads_76 rfl rfl ?_
      refine r_getR X dX13_leads_77 fX13_69 (by assumption) (by assumption) ?_
      refine r_aload_n X dX13_leads_80 rfl rfl ?_
      refine r_getI X dX13_leads_81 fX13_292 (by assumption) (by first | assumption | rfl) ?_
      refine r_ialdN X dX13_leads_84 (by assumption) (by omega) (by omega) hr1 ?_
      refine r_icmpN_ge (tgt := 92) X dX13_leads_85 (by decide) (by omega) (by omega) (fun h85 => ?_) (fun h85 => ?_)
      · skip
        refine r_iconst (v := 0) X dX13_leads_92 (by decide) ?_
        refine r_istore X dX13_leads_93 (by decide) rfl ?_
        refine r_aload_n X dX13_leads_95 rfl rfl ?_
        refine r_iload X dX13_leads_96 rfl ?_
        refine r_if_eq (tgt := 105) X dX13_leads_98 (by decide) (fun h98 => ?_) (fun h98 => ?_)
        · skip
          refine r_bipush (v := 100) X dX13_leads_105 (by decide) ?_
          refine r_putI X dX13_leads_107 fX13_342 wX13_342 (by assumption) rfl rfl ?_
          refine r_iload X dX13_leads_110 rfl ?_
          refine r_if_eq (tgt := 132) X dX13_leads_112 (by decide) (fun h112 => ?_) (fun h112 => ?_)
          · skip
            refine r_iconst (v := 0) X dX13_leads_132 (by decide) ?_
            refine e133 _ _ _ _ ((up2_k (by decide)).trans h0) ((up2_k (by decide)).trans h6) ((up2_a (by omega)).trans h4) ((up2_k (by decide)).trans h13) (by rw [up2_a (by omega)]; exact hh) hl12 (hw2 _) ?_
            rw [← he, up2_a (by omega)]
            rfl
          · skip
            exact absurd rfl h112
        · skip
          exact absurd rfl h98
      · skip
        omega
  have e27 : ∀ I1 : Mem, I1 t 0 = nI m → I1 t 6 = nI l → I1 g 4 = nI n → I1 t 13 = nI ow → I1 t 4 = nI p → MplOK I1 g p → (I1 t 5 = 1 → l < 12 ∧ ¬ 1000 * I1 (g + 2) l = 0 ∧ dWeak I1 t m = some w) → mLeadZ I1 g t m w l n s p = Z → G E M 0 0 (qQ E M (rmL 4) (fun v w' => v = none ∧ w' = (S, Z, V, J, N))) 27 [some (.ref g), some (.ref t), some (.int (nI s)), none, none, none, none, none] [] (S, I1, V, J, N) := by
    intro I1 h0 h6 h4 h13 hp1 hP1 hon1 he
    obtain ⟨hr1, hr2, hr3⟩ := id hP1
    rw [mLeadZ] at he
    have H : I1 t 5 = 1 → ∀ j, j ≤ mNr I1 g p → (∀ q, q < j → (fun q => mHol I1 g t m w l s (12 * p + q) (mTc I1 g (12 * p + q))) q = false) → G E M 0 0 (qQ E M (rmL 4) (fun v w' => v = none ∧ w' = (S, Z, V, J, N))) 38 [some (.ref g), some (.ref t), some (.int (nI s)), some (.int (nI j)), none, none, none, none] [] (S, I1, V, J, N) := by
      intro h5
      obtain ⟨hl12, hh, hw⟩ := hon1 h5
      rw [if_pos h5] at he
      refine loopN (mNr I1 g p) (fun j hj ih => ?_)
      intro hno
      refine r_iload_n X dX13_leads_38 rfl rfl ?_
      refine r_aload_n X dX13_leads_39 rfl rfl ?_
      refine r_getR X dX13_leads_40 fX13_69 (by assumption) (by assumption) ?_
      refine r_aload_n X dX13_leads_43 rfl rfl ?_
      refine r_getI X dX13_leads_44 fX13_292 (by assumption) (by first | assumption | rfl) ?_
      refine r_ialdN X dX13_leads_47 (by assumption) (by omega) (by omega) hr1 ?_
      refine r_icmpN_ge (tgt := 75) X dX13_leads_48 (by decide) (by omega) (by omega) (fun h48 => ?_) (fun h48 => ?_)
      · skip
        first
          | (refine e75 _ j _ h0 h6 h4 h13 hp1 hP1 hh hl12 hw he (Or.inl ⟨?_, by omega⟩)
             have hz := fst1_some (p := fun q => mHol I1 g t m w l s (12 * p + q) (mTc I1 g (12 * p + q))) (j := j) (bI_1 h66) hno (n := mNr I1 g p) (by omega)
             exact hz)
          | (refine e75 _ j _ h0 h6 h4 h13 hp1 hP1 hh hl12 hw he (Or.inr ⟨?_, by omega⟩)
             rw [mRule, fst1_none (fun q hq => hno q (by omega))])
      · skip
        refine r_aload_n X dX13_leads_51 rfl rfl ?_
        refine r_aload_n X dX13_leads_52 rfl rfl ?_
        refine r_bipush (v := 12) X dX13_leads_53 (by decide) ?_
        refine r_aload_n X dX13_leads_55 rfl rfl ?_
        refine r_getI X dX13_leads_56 fX13_292 (by assumption) (by first | assumption | rfl) ?_
        refine r_imul X dX13_leads_59 ?_
        refine r_topi (nI (12 * p)) (pk_mul 12 p) ?_
        refine r_iload_n X dX13_leads_60 rfl rfl ?_
        refine r_iadd X dX13_leads_61 ?_
        refine r_topi (nI (12 * p + j)) (nI_add _ _) ?_
        refine r_iload_n X dX13_leads_62 rfl rfl ?_
        refine q_callV X dX13_leads_63 mX13_338 cwX13_holds (c_mHol GE S I1 V J N g t m w l s (12 * p + j) hM hR hT h0 hm6 hw h6 hl12 hs (by omega) (hr3 j (by omega)).1 (hr3 j (by omega)).2) rfl (by assumption) rfl rfl rfl (Nat.le_of_ble_eq_true rfl) ⟨Nat.le_of_ble_eq_true rfl, Nat.le_of_ble_eq_true rfl⟩ ⟨(by first | omega | decide | (simp only [rmL, rmA]; omega)), (by first | omega | decide | (simp only [rmL, rmA]; omega))⟩ ?_
        rintro _ _ ⟨rfl, rfl⟩
        refine r_if_ne (tgt := 75) X dX13_leads_66 (by decide) (fun h66 => ?_) (fun h66 => ?_)
        · skip
          first
            | (refine e75 _ j _ h0 h6 h4 h13 hp1 hP1 hh hl12 hw he (Or.inl ⟨?_, by omega⟩)
               have hz := fst1_some (p := fun q => mHol I1 g t m w l s (12 * p + q) (mTc I1 g (12 * p + q))) (j := j) (bI_1 h66) hno (n := mNr I1 g p) (by omega)
               exact hz)
            | (refine e75 _ j _ h0 h6 h4 h13 hp1 hP1 hh hl12 hw he (Or.inr ⟨?_, by omega⟩)
               rw [mRule, fst1_none (fun q hq => hno q (by omega))])
        · skip
          first | refine r_iincN X dX13_leads_69 rfl (by decide) rfl ?_ | refine r_iinc X dX13_leads_69 rfl rfl (by decide) rfl ?_
          refine r_goto (tgt := 38) X dX13_leads_72 (by decide) ?_
          refine ih (by omega) (fun q hq => ?_)
          rcases Nat.lt_or_ge q j with z | z
          · exact hno q z
          · obtain rfl : q = j := by omega
            exact bI_0 h66
    refine r_aload_n X dX13_leads_27 rfl rfl ?_
    refine r_getI X dX13_leads_28 fX13_289 (by assumption) (by first | assumption | rfl) ?_
    refine r_iconst (v := 1) X dX13_leads_31 (by decide) ?_
    refine r_icmp_eq (tgt := 36) X dX13_leads_32 (by decide) (fun h32 => ?_) (fun h32 => ?_)
    · skip
      refine r_iconst (v := nI 0) X dX13_leads_36 (by decide) ?_
      refine r_istore_n X dX13_leads_37 rfl (by decide) rfl ?_
      exact H h32 0 (by omega) (fun q hq => absurd hq (by omega))
    · skip
      refine r_return X dX13_leads_35 (by first | omega | decide | (simp only [rmL, rmA]; omega)) (by first | omega | decide | (simp only [rmL, rmA]; omega)) ?_
      exact ⟨rfl, by rw [← he, if_neg h32]⟩
  refine r_aload_n X dX13_leads_0 rfl rfl ?_
  refine r_getI X dX13_leads_1 fX13_289 (by assumption) (by first | assumption | rfl) ?_
  refine r_if_ne (tgt := 27) X dX13_leads_4 (by decide) (fun h4 => ?_) (fun h4 => ?_)
  · skip
    first
      | (refine e27 _ ((up2_a (by omega)).trans ((up2_k (by decide)).trans hm)) ((up2_a (by omega)).trans ((up2_k (by decide)).trans hl)) ((up2_a (by omega)).trans ((up2_a (by omega)).trans hn)) ((up2_a (by omega)).trans ((up2_k (by decide)).trans how)) ((up2_a (by omega)).trans ((up2_k (by decide)).trans hp)) ?_ ?_ (by rw [← hZ, mLead, mOn, if_pos ⟨h4, h12⟩])
         · obtain ⟨hr1, hr2, hr3⟩ := hP
           have e21 : ∀ x k, g + 20 < x → x < g + 27 → up2 (up2 I t 5 1) (t + 4) 0 (nI s) x k = I x k := fun x k a b => (up2_a (by omega)).trans (up2_a (by omega))
           have en : mNr (up2 (up2 I t 5 1) (t + 4) 0 (nI s)) g p = mNr I g p := by rw [mNr, mNr, e21 _ _ (by omega) (by omega)]
           refine ⟨?_, ?_, fun q hq => ?_⟩
           · rw [en, e21 _ _ (by omega) (by omega)]; exact hr1
           · rw [en]; exact hr2
           · rw [en] at hq
             rw [mTc, e21 _ _ (by omega) (by omega)]
             exact hr3 q hq
         · intro _
           obtain ⟨q1, q2, q3⟩ := hon (Or.inl h4)
           refine ⟨q1, ?_, ?_⟩
           · rw [up2_a (by omega), up2_a (by omega)]; exact q2
           · rw [dWeak_c (fun k => (up2_a (by omega)).trans (up2_a (by omega))) (fun k => (up2_a (by omega)).trans (up2_a (by omega)))]; exact q3)
      | exact e27 _ hm hl hn how hp hP (fun q => hon (Or.inr q)) (by rw [← hZ, mLead, mOn, if_neg (by intro q; first | exact absurd q.1 (by assumption) | exact absurd q.2 (by assumption))])
  · skip
    refine r_aload_n X dX13_leads_7 rfl rfl ?_
    refine r_getI X dX13_leads_8 fX13_333 (by assumption) (by first | assumption | rfl) ?_
    refine r_iload_n X dX13_leads_11 rfl rfl ?_
    refine r_icmp_ne (tgt := 27) X dX13_leads_12 (by decide) (fun h12 => ?_) (fun h12 => ?_)
    · skip
      first
        | (refine e27 _ ((up2_a (by omega)).trans ((up2_k (by decide)).trans hm)) ((up2_a (by omega)).trans ((up2_k (by decide)).trans hl)) ((up2_a (by omega)).trans ((up2_a (by omega)).trans hn)) ((up2_a (by omega)).trans ((up2_k (by decide)).trans how)) ((up2_a (by omega)).trans ((up2_k (by decide)).trans hp)) ?_ ?_ (by rw [← hZ, mLead, mOn, if_pos ⟨h4, h12⟩])
           · obtain ⟨hr1, hr2, hr3⟩ := hP
             have e21 : ∀ x k, g + 20 < x → x < g + 27 → up2 (up2 I t 5 1) (t + 4) 0 (nI s) x k = I x k := fun x k a b => (up2_a (by omega)).trans (up2_a (by omega))
             have en : mNr (up2 (up2 I t 5 1) (t + 4) 0 (nI s)) g p = mNr I g p := by rw [mNr, mNr, e21 _ _ (by omega) (by omega)]
             refine ⟨?_, ?_, fun q hq => ?_⟩
             · rw [en, e21 _ _ (by omega) (by omega)]; exact hr1
             · rw [en]; exact hr2
             · rw [en] at hq
               rw [mTc, e21 _ _ (by omega) (by omega)]
               exact hr3 q hq
           · intro _
             obtain ⟨q1, q2, q3⟩ := hon (Or.inl h4)
             refine ⟨q1, ?_, ?_⟩
             · rw [up2_a (by omega), up2_a (by omega)]; exact q2
             · rw [dWeak_c (fun k => (up2_a (by omega)).trans (up2_a (by omega))) (fun k => (up2_a (by omega)).trans (up2_a (by omega)))]; exact q3)
        | exact e27 _ hm hl hn how hp hP (fun q => hon (Or.inr q)) (by rw [← hZ, mLead, mOn, if_neg (by intro q; first | exact absurd q.1 (by assumption) | exact absurd q.2 (by assumption))])
    · skip
      refine r_aload_n X dX13_leads_15 rfl rfl ?_
      refine r_iconst (v := 1) X dX13_leads_16 (by decide) ?_
      refine r_putI X dX13_leads_17 fX13_289 wX13_289 (by assumption) rfl rfl ?_
      refine r_aload_n X dX13_leads_20 rfl rfl ?_
      refine r_getR X dX13_leads_21 fX13_335 (by assumption) (by assumption) ?_
      refine r_iconst (v := nI 0) X dX13_leads_24 (by decide) ?_
      refine r_iload_n X dX13_leads_25 rfl rfl ?_
      refine r_iastN X dX13_leads_26 (by assumption) (by omega) (by omega) ?_
      first
        | (refine e27 _ ((up2_a (by omega)).trans ((up2_k (by decide)).trans hm)) ((up2_a (by omega)).trans ((up2_k (by decide)).trans hl)) ((up2_a (by omega)).trans ((up2_a (by omega)).trans hn)) ((up2_a (by omega)).trans ((up2_k (by decide)).trans how)) ((up2_a (by omega)).trans ((up2_k (by decide)).trans hp)) ?_ ?_ (by rw [← hZ, mLead, mOn, if_pos ⟨h4, h12⟩])
           · obtain ⟨hr1, hr2, hr3⟩ := hP
             have e21 : ∀ x k, g + 20 < x → x < g + 27 → up2 (up2 I t 5 1) (t + 4) 0 (nI s) x k = I x k := fun x k a b => (up2_a (by omega)).trans (up2_a (by omega))
             have en : mNr (up2 (up2 I t 5 1) (t + 4) 0 (nI s)) g p = mNr I g p := by rw [mNr, mNr, e21 _ _ (by omega) (by omega)]
             refine ⟨?_, ?_, fun q hq => ?_⟩
             · rw [en, e21 _ _ (by omega) (by omega)]; exact hr1
             · rw [en]; exact hr2
             · rw [en] at hq
               rw [mTc, e21 _ _ (by omega) (by omega)]
               exact hr3 q hq
           · intro _
             obtain ⟨q1, q2, q3⟩ := hon (Or.inl h4)
             refine ⟨q1, ?_, ?_⟩
             · rw [up2_a (by omega), up2_a (by omega)]; exact q2
             · rw [dWeak_c (fun k => (up2_a (by omega)).trans (up2_a (by omega))) (fun k => (up2_a (by omega)).trans (up2_a (by omega)))]; exact q3)
        | exact e27 _ hm hl hn how hp hP (fun q => hon (Or.inr q)) (by rw [← hZ, mLead, mOn, if_neg (by intro q; first | exact absurd q.1 (by assumption) | exact absurd q.2 (by assumption))])
