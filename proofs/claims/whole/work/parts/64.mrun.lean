/-! ===== the reference: run ===== -/
theorem c_mLd {E : Ev} (GE : Glob E) (S : Nat → Option (Nat × Nat)) (I : Nat → Nat → Int32) (V : Nat → Nat → Option Nat) (J : Nat → Nat → Int64) (N : Nat) (g t c e n np u v s : Nat) (HM : MS g c e n np u S I V) (hT : MtSh S V t) (hgt : g + 3 < t) (hgt2 : t + 9 < g + 19 ∨ g + 27 < t) (hG : MtG I t n np v) (hs : s < 2000) : Ct E yX13_leads cX13_leads 8 none (rmL 4) [.ref g, .ref t, .int (nI s)] (S, I, V, J, N) (fun v w' => v = none ∧ w' = (S, mLd I g t n s, V, J, N)) := by
  obtain ⟨hM, hR, h0, hc, hc6, he, he0, he48, hu, hu2, hn, hn12, hnp, hnp8, hPl, hHd, hTg⟩ := id HM
  obtain ⟨a1, a2, a3⟩ := hG.ln hn12
  refine c_mLead GE S I V J N g t _ _ _ n s _ (mOw I t) hM hR hT hgt hgt2 hG.1 hG.2.1 a1 hn hn12 hs hG.2.2.1 hG.2.2.2.1 hG.2.2.2.2.1 (by have := hG.2.2.2.2.2.1; omega) (hPl _ hG.2.2.2.2.2.1) (fun z => ?_)
  obtain ⟨b1, b2⟩ := a3 z
  obtain ⟨w, hw⟩ := dWeak_of b2
  exact ⟨by omega, hHd _ b1, by rw [hw]; rfl⟩
theorem nI_z {a : Nat} (ha : a < 2147483648) (h : nI a = 0) : a = 0 := (nI_eq (a := a) (b := 0) (by omega) (by decide)).mp h
theorem mWay_c {I I' : Mem} {g t : Nat} (h7 : I' t 7 = I t 7) (h1 : ∀ k, I' (g + 1) k = I (g + 1) k) : ∀ j, mWay I' g t j = mWay I g t j
  | 0 => h7
  | j + 1 => by rw [mWay, mWay, mWay_c h7 h1 j, h1]
theorem mStep_e (I : Mem) (g c e n u : Nat) : mStep I g c e n u = up2 (mSgs (mLds I g n u c) g u e c) g 6 (nI (u + 1)) := rfl
set_option maxHeartbeats 2000000 in
set_option maxRecDepth 20000 in
/-- SledHouseModel.run -/
theorem c_mRun {E : Ev} (GE : Glob E) (S : Nat → Option (Nat × Nat)) (I : Nat → Nat → Int32) (V : Nat → Nat → Option Nat) (J : Nat → Nat → Int64) (N : Nat) (g c e n np u : Nat) (x : Int32) (HM : MS g c e n np u S I V) : Ct E yX13_run cX13_run 5 (some .int) (rmL 5) [.ref g, .int x] (S, I, V, J, N) (fun v w' => v = some (.int (mRun I g c e n u x).1) ∧ w' = (S, (mRun I g c e n u x).2, V, J, N)) := by
  refine Ct.start GE (by decide) rfl (Nat.le_of_ble_eq_true rfl) (fun M X => ?_)
  have X : Cx E M RX13 cX13_run 5 (rmL 5) (some .int) "run" := X
  refine r_loc (L' := [some (.ref g), some (.int x), none, none, none]) rfl ?_
  obtain ⟨hM, hR, h0, hc, hc6, he, he0, he48, hu, hu2, hn, hn12, hnp, hnp8, hPl, hHd, hTg⟩ := id HM
  obtain ⟨hs0, v8, v9, v10, v11, v16, v17, v18, v19, v20, s1, s2, s3, s4, s5, s6, s7, s8, hOt, hTe, hKt⟩ := id hM
  have H : ∀ m : Nat, m ≤ 500 → ∀ d, d ≤ m → ∀ x3 x4, (∀ q, q < d → (fun k => mOver (mRunN I g c e n u k) g c (u + k)) q = false) → G E M 0 0 (qQ E M (rmL 5) (fun v w' => v = some (.int (nI (mRunK I g c e n u m))) ∧ w' = (S, mTrb (mRunN I g c e n u (mRunK I g c e n u m)) g 0, V, J, N))) 37 [some (.ref g), some (.int (nI m)), some (.int (nI d)), x3, x4] [] (S, mRunN I g c e n u d, V, J, N) := by
    intro m hm
    refine loopN m (fun d hd ih => ?_)
    intro x3 x4 hno
    have hud : u + d ≤ 2000 := by
      rcases d with _ | d'
      · omega
      · have := hno d' (by omega)
        simp only [mOver, Bool.or_eq_false_iff, decide_eq_false_iff_not] at this
        omega
    have HD := ms_runN HM d hud
    have eN : mRunN I g c e n u (d + 1) = mStep (mRunN I g c e n u d) g c e n (u + d) := rfl
    rw [eN] at ih
    have eK : ∀ k, k = mRunK I g c e n u m → mRunN I g c e n u (mRunK I g c e n u m) = mRunN I g c e n u k := fun k hk => by rw [hk]
    have eF : d = m → mRunK I g c e n u m = d := fun z => by
      rw [mRunK, fst1_none (fun q hq => hno q (by omega))]
      exact z.symm
    have eS : d < m → mOver (mRunN I g c e n u d) g c (u + d) = true → mRunK I g c e n u m = d := fun z z2 => by
      have hz := fst1_some (p := fun k => mOver (mRunN I g c e n u k) g c (u + k)) (j := d) z2 hno (n := m) z
      rw [mRunK, hz]
      rfl
    have hno2 : mOver (mRunN I g c e n u d) g c (u + d) = false → ∀ q, q < d + 1 → (fun k => mOver (mRunN I g c e n u k) g c (u + k)) q = false := fun z q hq => by
      rcases Nat.lt_or_ge q d with z2 | z2
      · exact hno q z2
      · obtain rfl : q = d := by omega
        exact z
    generalize mRunK I g c e n u m = K at *
    generalize hID : mRunN I g c e n u d = ID at HD ih hno2 eS ⊢
    obtain ⟨-, -, k0, kc, -, ke, -, -, ku, -, kn, -, knp, -, kPl, kHd, kTg⟩ := id HD
    have H2 : d < m → u + d < 2000 → (∀ q, q < d + 1 → (fun k => mOver (mRunN I g c e n u k) g c (u + k)) q = false) → ∀ j, j ≤ c → ∀ x4, G E M 0 0 (qQ E M (rmL 5) (fun v w' => v = some (.int (nI K)) ∧ w' = (S, mTrb (mRunN I g c e n u K) g 0, V, J, N))) 81 [some (.ref g), some (.int (nI m)), some (.int (nI d)), some (.int (nI j)), x4] [] (S, mSgs (mLds ID g n (u + d) c) g (u + d) e j, V, J, N) := by
      intro hdm hu9 hno3
      have HL := ms_lds HD (u + d) c (Nat.le_refl _)
      generalize hIL : mLds ID g n (u + d) c = IL at *
      refine loopN c (fun j hj ihj => ?_)
      intro x4
      have HG := ms_sgs HL hu9 j hj
      have hk := kpm_sgs (I := IL) (g := g) (u := u + d) (e := e) j
      obtain ⟨-, -, k0, kc, -, ke, -, -, ku, -, kn, -, knp, -, kPl, kHd, kTg⟩ := id HL
      have eJ : mSgs IL g (u + d) e (j + 1) = mSgn (mSgs IL g (u + d) e j) g (mt g j) (u + d) e := rfl
      rw [eJ] at ihj
      have eZ : j = c → up2 (mSgs IL g (u + d) e j) g 6 (nI (u + d + 1)) = mStep ID g c e n (u + d) := fun z => by rw [mStep_e, hIL, z]
      generalize mSgs IL g (u + d) e j = Ij at *
      have q5 := (hk g 5 (Or.inl (Or.inl (by omega)))).trans kc
      have q6 := (hk g 6 (Or.inl (Or.inl (by omega)))).trans ku
      have q7 := (hk g 7 (Or.inl (Or.inl (by omega)))).trans ke
      have e175 : j < c → ∀ I9, I9 = mSgn Ij g (mt g j) (u + d) e → ∀ x4, G E M 0 0 (qQ E M (rmL 5) (fun v w' => v = some (.int (nI K)) ∧ w' = (S, mTrb (mRunN I g c e n u K) g 0, V, J, N))) 175 [some (.ref g), some (.int (nI m)), some (.int (nI d)), some (.int (nI j)), x4] [] (S, I9, V, J, N) := by
        intro hjc I9 hI9 x4
        rw [hI9]
        first | refine r_iincN X dX13_run_175 rfl (by decide) rfl ?_ | refine r_iinc X dX13_run_175 rfl rfl (by decide) rfl ?_
        refine r_goto (tgt := 81) X dX13_run_178 (by decide) ?_
        exact ihj hjc _
      rcases Nat.lt_or_ge j c with hjc | hjc
      · have HGj := HG j hjc
        rw [if_neg (by omega)] at HGj
        obtain ⟨a1, a2, a3, a4, a5, a6, a7, a8, a9, a10, a11⟩ := id HGj
        obtain ⟨b1, b2, b3⟩ := HGj.ln hn12
        have m1 := mt_e g j
        have te1 : V (g + 4) j = some (mt g j) := (hTe j (by omega)).1
        have hT : MtSh S V (mt g j) := (hTe j (by omega)).2
        generalize mt g j = t at *
        obtain ⟨ts0, u15, u16, u17, u18, u19, u20, u21, u22, u23, w1, w2, w3, w4, w5, w6, w7, w8, w9⟩ := id hT
        refine r_iload_n X dX13_run_81 rfl rfl ?_
        refine r_aload_n X dX13_run_82 rfl rfl ?_
        refine r_getI X dX13_run_83 fX13_94 (by assumption) q5 ?_
        refine r_icmpN_ge (tgt := 181) X dX13_run_86 (by decide) (by omega) (by omega) (fun h86 => ?_) (fun h86 => ?_)
        · skip
          omega
        · skip
          refine r_aload_n X dX13_run_89 rfl rfl ?_
          refine r_getR X dX13_run_90 fX13_34 (by assumption) (by assumption) ?_
          refine r_iload_n X dX13_run_93 rfl rfl ?_
          refine r_aaldN X dX13_run_94 (by assumption) (by decide) rfl (by omega) (by omega) (by assumption) ?_
          refine r_astore X dX13_run_95 (by decide) rfl ?_
          refine r_aload_n X dX13_run_97 rfl rfl ?_
          refine r_getI X dX13_run_98 fX13_100 (by assumption) q6 ?_
          refine r_aload_n X dX13_run_101 rfl rfl ?_
          refine r_getI X dX13_run_102 fX13_19 (by assumption) q7 ?_
          refine r_irem X dX13_run_105 (nI_ne0 he0 (by omega)) ?_
          refine r_topi (nI ((u + d) % e)) (pk_rem (by omega) he0 (by omega)) ?_
          refine r_if_ne (tgt := 175) X dX13_run_106 (by decide) (fun h106 => ?_) (fun h106 => ?_)
          · skip
            first
              | (have z3 := bI_0 h126
                 have z2 : ¬ Ij t 5 = 0 := h114
                 have z1 := nI_z (Nat.lt_of_lt_of_le (Nat.mod_lt _ he0) (by omega)) h106
                 exact e175 hjc _ (by rw [mSgn, if_pos ⟨z1, z2, z3⟩]) _)
              | (have z3 := bI_1 h126
                 exact e175 hjc _ (by rw [mSgn, if_neg (fun z => absurd (z3.symm.trans z.2.2) (by decide))]) _)
              | (have z2 : Ij t 5 = 0 := h114
                 exact e175 hjc _ (by rw [mSgn, if_neg (fun z => z.2.1 z2)]) _)
              | (have z1 : ¬ nI ((u + d) % e) = 0 := h106
                 exact e175 hjc _ (by rw [mSgn, if_neg (fun z => z1 (by rw [z.1]; rfl))]) _)
          · skip
            refine r_aload X dX13_run_109 rfl ?_
            refine r_getI X dX13_run_111 fX13_289 (by assumption) rfl ?_
            refine r_if_eq (tgt := 175) X dX13_run_114 (by decide) (fun h114 => ?_) (fun h114 => ?_)
            · skip
              first
                | (have z3 := bI_0 h126
                   have z2 : ¬ Ij t 5 = 0 := h114
                   have z1 := nI_z (Nat.lt_of_lt_of_le (Nat.mod_lt _ he0) (by omega)) h106
                   exact e175 hjc _ (by rw [mSgn, if_pos ⟨z1, z2, z3⟩]) _)
                | (have z3 := bI_1 h126
                   exact e175 hjc _ (by rw [mSgn, if_neg (fun z => absurd (z3.symm.trans z.2.2) (by decide))]) _)
                | (have z2 : Ij t 5 = 0 := h114
                   exact e175 hjc _ (by rw [mSgn, if_neg (fun z => z.2.1 z2)]) _)
                | (have z1 : ¬ nI ((u + d) % e) = 0 := h106
                   exact e175 hjc _ (by rw [mSgn, if_neg (fun z => z1 (by rw [z.1]; rfl))]) _)
            · skip
              refine r_aload X dX13_run_117 rfl ?_
              refine r_aload_n X dX13_run_119 rfl rfl ?_
              refine r_getI X dX13_run_120 fX13_100 (by assumption) q6 ?_
              refine q_callV X dX13_run_123 mX13_379 cwX12_inGap (c_mGap GE S Ij V J N t (mG Ij t) (nI (u + d)) hT a7 a8) rfl (by assumption) rfl rfl rfl (Nat.le_of_ble_eq_true rfl) ⟨Nat.le_of_ble_eq_true rfl, Nat.le_of_ble_eq_true rfl⟩ ⟨(by first | omega | decide | (simp only [rmL, rmA]; omega)), (by first | omega | decide | (simp only [rmL, rmA]; omega))⟩ ?_
              rintro _ _ ⟨rfl, rfl⟩
              refine r_if_eq (tgt := 132) X dX13_run_126 (by decide) (fun h126 => ?_) (fun h126 => ?_)
              · skip
                refine r_aload X dX13_run_132 rfl ?_
                refine r_getR X dX13_run_134 fX13_382 (by assumption) (by assumption) ?_
                refine r_aload X dX13_run_137 rfl ?_
                refine r_getI X dX13_run_139 fX13_385 (by assumption) a9 ?_
                refine r_aload_n X dX13_run_142 rfl rfl ?_
                refine r_getI X dX13_run_143 fX13_100 (by assumption) q6 ?_
                refine r_iastN X dX13_run_146 (by assumption) (by omega) (by omega) ?_
                refine r_aload X dX13_run_147 rfl ?_
                refine r_getR X dX13_run_149 fX13_388 (by assumption) (by assumption) ?_
                refine r_aload X dX13_run_152 rfl ?_
                refine r_getI X dX13_run_154 fX13_385 (by assumption) ((up2_a (by omega)).trans a9) ?_
                refine r_aload_n X dX13_run_157 rfl rfl ?_
                refine r_aload X dX13_run_158 rfl ?_
                refine q_callV X dX13_run_160 mX13_391 cwX13_way (c_mWay GE S _ V J N g t (mLn Ij t) hM hT ((up2_a (by omega)).trans b1) (by omega)) rfl (by assumption) rfl rfl rfl (Nat.le_of_ble_eq_true rfl) ⟨Nat.le_of_ble_eq_true rfl, Nat.le_of_ble_eq_true rfl⟩ ⟨(by first | omega | decide | (simp only [rmL, rmA]; omega)), (by first | omega | decide | (simp only [rmL, rmA]; omega))⟩ ?_
                rintro _ _ ⟨rfl, rfl⟩
                refine r_topi (mWay Ij g t (mLn Ij t)) (mWay_c (up2_a (by omega)) (fun k => up2_a (by omega)) _) ?_
                refine r_iastN X dX13_run_163 (by assumption) (by omega) (by omega) ?_
                refine r_aload X dX13_run_164 rfl ?_
                refine r_dup X dX13_run_166 rfl ?_
                refine r_getI X dX13_run_167 fX13_385 (by assumption) ((up2_a (by omega)).trans ((up2_a (by omega)).trans a9)) ?_
                refine r_iconst (v := 1) X dX13_run_170 (by decide) ?_
                refine r_iadd X dX13_run_171 ?_
                refine r_topi (nI (mSg Ij t + 1)) (nI_1 _) ?_
                refine r_putI X dX13_run_172 fX13_385 wX13_385 (by assumption) rfl rfl ?_
                first
                  | (have z3 := bI_0 h126
                     have z2 : ¬ Ij t 5 = 0 := h114
                     have z1 := nI_z (Nat.lt_of_lt_of_le (Nat.mod_lt _ he0) (by omega)) h106
                     exact e175 hjc _ (by rw [mSgn, if_pos ⟨z1, z2, z3⟩]) _)
                  | (have z3 := bI_1 h126
                     exact e175 hjc _ (by rw [mSgn, if_neg (fun z => absurd (z3.symm.trans z.2.2) (by decide))]) _)
                  | (have z2 : Ij t 5 = 0 := h114
                     exact e175 hjc _ (by rw [mSgn, if_neg (fun z => z.2.1 z2)]) _)
                  | (have z1 : ¬ nI ((u + d) % e) = 0 := h106
                     exact e175 hjc _ (by rw [mSgn, if_neg (fun z => z1 (by rw [z.1]; rfl))]) _)
              · skip
                refine r_goto (tgt := 175) X dX13_run_129 (by decide) ?_
                first
                  | (have z3 := bI_0 h126
                     have z2 : ¬ Ij t 5 = 0 := h114
                     have z1 := nI_z (Nat.lt_of_lt_of_le (Nat.mod_lt _ he0) (by omega)) h106
                     exact e175 hjc _ (by rw [mSgn, if_pos ⟨z1, z2, z3⟩]) _)
                  | (have z3 := bI_1 h126
                     exact e175 hjc _ (by rw [mSgn, if_neg (fun z => absurd (z3.symm.trans z.2.2) (by decide))]) _)
                  | (have z2 : Ij t 5 = 0 := h114
                     exact e175 hjc _ (by rw [mSgn, if_neg (fun z => z.2.1 z2)]) _)
                  | (have z1 : ¬ nI ((u + d) % e) = 0 := h106
                     exact e175 hjc _ (by rw [mSgn, if_neg (fun z => z1 (by rw [z.1]; rfl))]) _)
      · skip
        refine r_iload_n X dX13_run_81 rfl rfl ?_
        refine r_aload_n X dX13_run_82 rfl rfl ?_
        refine r_getI X dX13_run_83 fX13_94 (by assumption) q5 ?_
        refine r_icmpN_ge (tgt := 181) X dX13_run_86 (by decide) (by omega) (by omega) (fun h86 => ?_) (fun h86 => ?_)
        · skip
          refine r_aload_n X dX13_run_181 rfl rfl ?_
          refine r_dup X dX13_run_182 rfl ?_
          refine r_getI X dX13_run_183 fX13_100 (by assumption) q6 ?_
          refine r_iconst (v := 1) X dX13_run_186 (by decide) ?_
          refine r_iadd X dX13_run_187 ?_
          refine r_topi (nI (u + d + 1)) (nI_1 _) ?_
          refine r_putI X dX13_run_188 fX13_100 wX13_100 (by assumption) rfl rfl ?_
          first | refine r_iincN X dX13_run_191 rfl (by decide) rfl ?_ | refine r_iinc X dX13_run_191 rfl rfl (by decide) rfl ?_
          refine r_goto (tgt := 37) X dX13_run_194 (by decide) ?_
          exact r_world (by rw [eZ (by omega)]) (ih hdm _ _ hno3)
        · skip
          omega
    have H1 : d < m → u + d < 2000 → (∀ q, q < d + 1 → (fun k => mOver (mRunN I g c e n u k) g c (u + k)) q = false) → ∀ j, j ≤ c → ∀ x4, G E M 0 0 (qQ E M (rmL 5) (fun v w' => v = some (.int (nI K)) ∧ w' = (S, mTrb (mRunN I g c e n u K) g 0, V, J, N))) 51 [some (.ref g), some (.int (nI m)), some (.int (nI d)), some (.int (nI j)), x4] [] (S, mLds ID g n (u + d) j, V, J, N) := by
      intro hdm hu9 hno3
      refine loopN c (fun j hj ihj => ?_)
      intro x4
      have HL := ms_lds HD (u + d) j hj
      obtain ⟨-, -, k0, kc, -, ke, -, -, ku, -, kn, -, knp, -, kPl, kHd, kTg⟩ := id HL
      refine r_iload_n X dX13_run_51 rfl rfl ?_
      refine r_aload_n X dX13_run_52 rfl rfl ?_
      refine r_getI X dX13_run_53 fX13_94 (by assumption) (by first | assumption | rfl) ?_
      refine r_icmpN_ge (tgt := 79) X dX13_run_56 (by decide) (by omega) (by omega) (fun h56 => ?_) (fun h56 => ?_)
      · skip
        refine r_iconst (v := nI 0) X dX13_run_79 (by decide) ?_
        refine r_istore_n X dX13_run_80 rfl (by decide) rfl ?_
        obtain rfl : j = c := by omega
        exact H2 hdm hu9 hno3 0 (by omega) _
      · skip
        have te1 := (hTe j (by omega)).1
        have hT := (hTe j (by omega)).2
        have m1 := mt_e g j
        refine r_aload_n X dX13_run_59 rfl rfl ?_
        refine r_aload_n X dX13_run_60 rfl rfl ?_
        refine r_getR X dX13_run_61 fX13_34 (by assumption) (by assumption) ?_
        refine r_iload_n X dX13_run_64 rfl rfl ?_
        refine r_aaldN X dX13_run_65 (by assumption) (by decide) rfl (by omega) (by omega) (by assumption) ?_
        refine r_aload_n X dX13_run_66 rfl rfl ?_
        refine r_getI X dX13_run_67 fX13_100 (by assumption) (by first | assumption | rfl) ?_
        refine q_callV X dX13_run_70 mX13_375 cwX13_leads (c_mLd GE S _ V J N g (mt g j) c e n np (u + d) (u + d) (u + d) HL hT (by omega) (by omega) (kTg j (by omega)) hu9) rfl (by assumption) rfl rfl rfl (Nat.le_of_ble_eq_true rfl) ⟨Nat.le_of_ble_eq_true rfl, Nat.le_of_ble_eq_true rfl⟩ ⟨(by first | omega | decide | (simp only [rmL, rmA]; omega)), (by first | omega | decide | (simp only [rmL, rmA]; omega))⟩ ?_
        rintro _ _ ⟨rfl, rfl⟩
        first | refine r_iincN X dX13_run_73 rfl (by decide) rfl ?_ | refine r_iinc X dX13_run_73 rfl rfl (by decide) rfl ?_
        refine r_goto (tgt := 51) X dX13_run_76 (by decide) ?_
        exact ihj (by omega) _
    refine r_iload_n X dX13_run_37 rfl rfl ?_
    refine r_iload_n X dX13_run_38 rfl rfl ?_
    refine r_icmpN_ge (tgt := 197) X dX13_run_39 (by decide) (by omega) (by omega) (fun h39 => ?_) (fun h39 => ?_)
    · skip
      refine r_aload_n X dX13_run_197 rfl rfl ?_
      refine r_iload_n X dX13_run_198 rfl rfl ?_
      refine q_callV X dX13_run_199 mX13_129 cwX13_done (c_mDone GE S ID V J N g _ hs0) rfl (by assumption) rfl rfl rfl (Nat.le_of_ble_eq_true rfl) ⟨Nat.le_of_ble_eq_true rfl, Nat.le_of_ble_eq_true rfl⟩ ⟨(by first | omega | decide | (simp only [rmL, rmA]; omega)), (by first | omega | decide | (simp only [rmL, rmA]; omega))⟩ ?_
      rintro _ _ ⟨rfl, rfl⟩
      refine r_ireturn X dX13_run_202 rfl (by first | omega | decide | (simp only [rmL, rmA]; omega)) (by first | omega | decide | (simp only [rmL, rmA]; omega)) ?_
      first
        | (have z := eF (by omega); exact ⟨by rw [z], by rw [z, hID]⟩)
        | (have z := eS (by omega) (bI_1 h46); exact ⟨by rw [z], by rw [z, hID]⟩)
    · skip
      refine r_aload_n X dX13_run_42 rfl rfl ?_
      refine q_callV X dX13_run_43 mX13_372 cwX13_isOver (c_mOver GE S ID V J N g c (u + d) hM kc hc6 ku hud) rfl (by assumption) rfl rfl rfl (Nat.le_of_ble_eq_true rfl) ⟨Nat.le_of_ble_eq_true rfl, Nat.le_of_ble_eq_true rfl⟩ ⟨(by first | omega | decide | (simp only [rmL, rmA]; omega)), (by first | omega | decide | (simp only [rmL, rmA]; omega))⟩ ?_
      rintro _ _ ⟨rfl, rfl⟩
      refine r_if_ne (tgt := 197) X dX13_run_46 (by decide) (fun h46 => ?_) (fun h46 => ?_)
      · skip
        refine r_aload_n X dX13_run_197 rfl rfl ?_
        refine r_iload_n X dX13_run_198 rfl rfl ?_
        refine q_callV X dX13_run_199 mX13_129 cwX13_done (c_mDone GE S ID V J N g _ hs0) rfl (by assumption) rfl rfl rfl (Nat.le_of_ble_eq_true rfl) ⟨Nat.le_of_ble_eq_true rfl, Nat.le_of_ble_eq_true rfl⟩ ⟨(by first | omega | decide | (simp only [rmL, rmA]; omega)), (by first | omega | decide | (simp only [rmL, rmA]; omega))⟩ ?_
        rintro _ _ ⟨rfl, rfl⟩
        refine r_ireturn X dX13_run_202 rfl (by first | omega | decide | (simp only [rmL, rmA]; omega)) (by first | omega | decide | (simp only [rmL, rmA]; omega)) ?_
        first
          | (have z := eF (by omega); exact ⟨by rw [z], by rw [z, hID]⟩)
          | (have z := eS (by omega) (bI_1 h46); exact ⟨by rw [z], by rw [z, hID]⟩)
      · skip
        refine r_iconst (v := nI 0) X dX13_run_49 (by decide) ?_
        refine r_istore_n X dX13_run_50 rfl (by decide) rfl ?_
        have hov := bI_0 h46
        have hu9 : u + d < 2000 := by
          have := hov
          simp only [mOver, Bool.or_eq_false_iff, decide_eq_false_iff_not] at this
          omega
        exact H1 (by omega) hu9 (hno2 hov) 0 (by omega) _
  refine r_aload_n X dX13_run_0 rfl rfl ?_
  refine r_iconst (v := 0) X dX13_run_1 (by decide) ?_
  refine r_putI X dX13_run_2 fX13_1 wX13_1 (by assumption) rfl rfl ?_
  refine r_world (w' := (S, I, V, J, N)) (by rw [up2_id I h0]) ?_
  refine r_aload_n X dX13_run_5 rfl rfl ?_
  refine q_callV X dX13_run_6 mX13_372 cwX13_isOver (c_mOver GE S I V J N g c u hM hc hc6 hu hu2) rfl (by assumption) rfl rfl rfl (Nat.le_of_ble_eq_true rfl) ⟨Nat.le_of_ble_eq_true rfl, Nat.le_of_ble_eq_true rfl⟩ ⟨(by first | omega | decide | (simp only [rmL, rmA]; omega)), (by first | omega | decide | (simp only [rmL, rmA]; omega))⟩ ?_
  rintro _ _ ⟨rfl, rfl⟩
  refine r_if_eq (tgt := 18) X dX13_run_9 (by decide) (fun h9 => ?_) (fun h9 => ?_)
  · skip
    refine r_iload_n X dX13_run_18 rfl rfl ?_
    refine r_iconst (v := 1) X dX13_run_19 (by decide) ?_
    refine r_sipush (v := 500) X dX13_run_20 (by decide) ?_
    refine q_callS X dX13_run_23 mX13_125 cwX13_in (c_mIn GE _ _ _ _) rfl rfl (Nat.le_of_ble_eq_true rfl) ⟨Nat.le_of_ble_eq_true rfl, Nat.le_of_ble_eq_true rfl⟩ ⟨(by first | omega | decide | (simp only [rmL, rmA]; omega)), (by first | omega | decide | (simp only [rmL, rmA]; omega))⟩ ?_
    rintro _ _ ⟨rfl, rfl⟩
    refine r_if_ne (tgt := 35) X dX13_run_26 (by decide) (fun h26 => ?_) (fun h26 => ?_)
    · skip
      refine r_iconst (v := nI 0) X dX13_run_35 (by decide) ?_
      refine r_istore_n X dX13_run_36 rfl (by decide) rfl ?_
      have hin := inB_of (bI_1 h26)
      obtain ⟨m, hm5, rfl⟩ := nI_of2 (M := 500) (n := 500) (by decide) (fun z => absurd (Int32.lt_of_lt_of_le z (by decide)) (Int32.not_lt.mpr hin.1)) hin.2
      have e1 : mRun I g c e n u (nI m) = (nI (mRunK I g c e n u m), mTrb (mRunN I g c e n u (mRunK I g c e n u m)) g 0) := by
        rw [mRun, if_neg (by rw [bI_0 h9]; decide), if_pos (bI_1 h26), nI_clamp (by omega)]
      rw [e1]
      exact H m hm5 0 (by omega) none none (fun q hq => absurd hq (by omega))
    · skip
      refine r_aload_n X dX13_run_29 rfl rfl ?_
      refine r_iconst (v := 2) X dX13_run_30 (by decide) ?_
      refine q_callV X dX13_run_31 mX13_121 cwX13_refused (c_mRefused GE S I V J N g _ hs0) rfl (by assumption) rfl rfl rfl (Nat.le_of_ble_eq_true rfl) ⟨Nat.le_of_ble_eq_true rfl, Nat.le_of_ble_eq_true rfl⟩ ⟨(by first | omega | decide | (simp only [rmL, rmA]; omega)), (by first | omega | decide | (simp only [rmL, rmA]; omega))⟩ ?_
      rintro _ _ ⟨rfl, rfl⟩
      refine r_ireturn X dX13_run_34 rfl (by first | omega | decide | (simp only [rmL, rmA]; omega)) (by first | omega | decide | (simp only [rmL, rmA]; omega)) ?_
      have z1 : ¬ mOver I g c u = true := by rw [bI_0 h9]; decide
      have z2 : ¬ inB x 1 500 = true := by rw [bI_0 h26]; decide
      exact ⟨by rw [mRun, if_neg z1, if_neg z2], by rw [mRun, if_neg z1, if_neg z2]⟩
  · skip
    refine r_aload_n X dX13_run_12 rfl rfl ?_
    refine r_iconst (v := 5) X dX13_run_13 (by decide) ?_
    refine q_callV X dX13_run_14 mX13_121 cwX13_refused (c_mRefused GE S I V J N g _ hs0) rfl (by assumption) rfl rfl rfl (Nat.le_of_ble_eq_true rfl) ⟨Nat.le_of_ble_eq_true rfl, Nat.le_of_ble_eq_true rfl⟩ ⟨(by first | omega | decide | (simp only [rmL, rmA]; omega)), (by first | omega | decide | (simp only [rmL, rmA]; omega))⟩ ?_
    rintro _ _ ⟨rfl, rfl⟩
    refine r_ireturn X dX13_run_17 rfl (by first | omega | decide | (simp only [rmL, rmA]; omega)) (by first | omega | decide | (simp only [rmL, rmA]; omega)) ?_
    exact ⟨by rw [mRun, if_pos (bI_1 h9)], by rw [mRun, if_pos (bI_1 h9)]⟩
