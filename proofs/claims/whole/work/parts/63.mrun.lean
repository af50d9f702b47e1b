/-! ===== the reference: isOver, a step of the race ===== -/
def mAny (I : Mem) (g : Nat) : Nat → Bool
  | 0 => false
  | j + 1 => mAny I g j || decide (I (mt g j) 5 < 2)
def mOver (I : Mem) (g c u : Nat) : Bool := !(mAny I g c) || decide (2000 ≤ u)
set_option maxHeartbeats 2000000 in
set_option maxRecDepth 20000 in
/-- SledHouseModel.isOver -/
theorem c_mOver {E : Ev} (GE : Glob E) (S : Nat → Option (Nat × Nat)) (I : Nat → Nat → Int32) (V : Nat → Nat → Option Nat) (J : Nat → Nat → Int64) (N : Nat) (g c u : Nat) (hM : MdSh S V g) (hc : I g 5 = nI c) (hc6 : c ≤ 6) (hu : I g 6 = nI u) (hu2 : u ≤ 2000) : Ct E yX13_isOver cX13_isOver 3 (some .boolean) (rmL 0) [.ref g] (S, I, V, J, N) (fun v w' => v = some (.int (bI (mOver I g c u))) ∧ w' = (S, I, V, J, N)) := by
  refine Ct.start GE (by decide) rfl (Nat.le_of_ble_eq_true rfl) (fun M X => ?_)
  have X : Cx E M RX13 cX13_isOver 3 (rmL 0) (some .boolean) "isOver" := X
  refine r_loc (L' := [some (.ref g), none, none]) rfl ?_
  obtain ⟨hs0, v8, v9, v10, v11, v16, v17, v18, v19, v20, s1, s2, s3, s4, s5, s6, s7, s8, hOt, hTe, hKt⟩ := id hM
  have H : ∀ j, j ≤ c → G E M 0 0 (qQ E M (rmL 0) (fun v w' => v = some (.int (bI (mOver I g c u))) ∧ w' = (S, I, V, J, N))) 4 [some (.ref g), some (.int (bI (mAny I g j))), some (.int (nI j))] [] (S, I, V, J, N) := by
    refine loopN c (fun j hj ih => ?_)
    have e34 : ∀ y, y = bI (mAny I g (j + 1)) → j < c → G E M 0 0 (qQ E M (rmL 0) (fun v w' => v = some (.int (bI (mOver I g c u))) ∧ w' = (S, I, V, J, N))) 34 [some (.ref g), some (.int (bI (mAny I g j))), some (.int (nI j))] [.int y] (S, I, V, J, N) := by
      intro y hy hjc
      rw [hy]
      refine r_istore_n X dX13_isOver_34 rfl (by decide) rfl ?_
      first | refine r_iincN X dX13_isOver_35 rfl (by decide) rfl ?_ | refine r_iinc X dX13_isOver_35 rfl rfl (by decide) rfl ?_
      refine r_goto (tgt := 4) X dX13_isOver_38 (by decide) ?_
      exact ih hjc
    refine r_iload_n X dX13_isOver_4 rfl rfl ?_
    refine r_aload_n X dX13_isOver_5 rfl rfl ?_
    refine r_getI X dX13_isOver_6 fX13_94 (by assumption) (by first | assumption | rfl) ?_
    refine r_icmpN_ge (tgt := 41) X dX13_isOver_9 (by decide) (by omega) (by omega) (fun h9 => ?_) (fun h9 => ?_)
    · skip
      refine r_iload_n X dX13_isOver_41 rfl rfl ?_
      refine r_if_eq (tgt := 55) X dX13_isOver_42 (by decide) (fun h42 => ?_) (fun h42 => ?_)
      · skip
        refine r_iconst (v := 1) X dX13_isOver_55 (by decide) ?_
        refine r_goto (tgt := 60) X dX13_isOver_56 (by decide) ?_
        refine r_ireturn X dX13_isOver_60 rfl (by first | omega | decide | (simp only [rmL, rmA]; omega)) (by first | omega | decide | (simp only [rmL, rmA]; omega)) ?_
        obtain rfl : j = c := by omega
        refine ⟨?_, rfl⟩
        first
          | (rw [mOver, bI_0 h42]; rfl; done)
          | (rw [mOver, bI_1 h42, decide_eq_true (show 2000 ≤ u by omega)]; rfl; done)
          | (rw [mOver, bI_1 h42, decide_eq_false (show ¬ 2000 ≤ u by omega)]; rfl; done)
      · skip
        refine r_aload_n X dX13_isOver_45 rfl rfl ?_
        refine r_getI X dX13_isOver_46 fX13_100 (by assumption) (by first | assumption | rfl) ?_
        refine r_sipush (v := nI 2000) X dX13_isOver_49 (by decide) ?_
        refine r_icmpN_lt (tgt := 59) X dX13_isOver_52 (by decide) (by omega) (by omega) (fun h52 => ?_) (fun h52 => ?_)
        · skip
          refine r_iconst (v := 0) X dX13_isOver_59 (by decide) ?_
          refine r_ireturn X dX13_isOver_60 rfl (by first | omega | decide | (simp only [rmL, rmA]; omega)) (by first | omega | decide | (simp only [rmL, rmA]; omega)) ?_
          obtain rfl : j = c := by omega
          refine ⟨?_, rfl⟩
          first
            | (rw [mOver, bI_0 h42]; rfl; done)
            | (rw [mOver, bI_1 h42, decide_eq_true (show 2000 ≤ u by omega)]; rfl; done)
            | (rw [mOver, bI_1 h42, decide_eq_false (show ¬ 2000 ≤ u by omega)]; rfl; done)
        · skip
          refine r_iconst (v := 1) X dX13_isOver_55 (by decide) ?_
          refine r_goto (tgt := 60) X dX13_isOver_56 (by decide) ?_
          refine r_ireturn X dX13_isOver_60 rfl (by first | omega | decide | (simp only [rmL, rmA]; omega)) (by first | omega | decide | (simp only [rmL, rmA]; omega)) ?_
          obtain rfl : j = c := by omega
          refine ⟨?_, rfl⟩
          first
            | (rw [mOver, bI_0 h42]; rfl; done)
            | (rw [mOver, bI_1 h42, decide_eq_true (show 2000 ≤ u by omega)]; rfl; done)
            | (rw [mOver, bI_1 h42, decide_eq_false (show ¬ 2000 ≤ u by omega)]; rfl; done)
    · skip
      refine r_iload_n X dX13_isOver_12 rfl rfl ?_
      refine r_if_ne (tgt := 29) X dX13_isOver_13 (by decide) (fun h13 => ?_) (fun h13 => ?_)
      · skip
        refine r_iconst (v := 1) X dX13_isOver_29 (by decide) ?_
        refine r_goto (tgt := 34) X dX13_isOver_30 (by decide) ?_
        first
          | exact e34 1 (by rw [mAny, bI_1 h13]; rfl) (by omega)
          | exact e34 1 (by rw [mAny, decide_eq_true (Int32.not_le.mp h26), Bool.or_true]; rfl) (by omega)
          | exact e34 0 (by rw [mAny, bI_0 h13, decide_eq_false (Int32.not_lt.mpr h26)]; rfl) (by omega)
      · skip
        have te1 := (hTe j (by omega)).1
        have ts0 := (hTe j (by omega)).2.1
        refine r_aload_n X dX13_isOver_16 rfl rfl ?_
        refine r_getR X dX13_isOver_17 fX13_34 (by assumption) (by assumption) ?_
        refine r_iload_n X dX13_isOver_20 rfl rfl ?_
        refine r_aaldN X dX13_isOver_21 (by assumption) (by decide) rfl (by omega) (by omega) (by assumption) ?_
        refine r_getI X dX13_isOver_22 fX13_289 (by assumption) (by first | assumption | rfl) ?_
        refine r_iconst (v := 2) X dX13_isOver_25 (by decide) ?_
        refine r_icmp_ge (tgt := 33) X dX13_isOver_26 (by decide) (fun h26 => ?_) (fun h26 => ?_)
        · skip
          refine r_iconst (v := 0) X dX13_isOver_33 (by decide) ?_
          first
            | exact e34 1 (by rw [mAny, bI_1 h13]; rfl) (by omega)
            | exact e34 1 (by rw [mAny, decide_eq_true (Int32.not_le.mp h26), Bool.or_true]; rfl) (by omega)
            | exact e34 0 (by rw [mAny, bI_0 h13, decide_eq_false (Int32.not_lt.mpr h26)]; rfl) (by omega)
        · skip
          refine r_iconst (v := 1) X dX13_isOver_29 (by decide) ?_
          refine r_goto (tgt := 34) X dX13_isOver_30 (by decide) ?_
          first
            | exact e34 1 (by rw [mAny, bI_1 h13]; rfl) (by omega)
            | exact e34 1 (by rw [mAny, decide_eq_true (Int32.not_le.mp h26), Bool.or_true]; rfl) (by omega)
            | exact e34 0 (by rw [mAny, bI_0 h13, decide_eq_false (Int32.not_lt.mpr h26)]; rfl) (by omega)
  refine r_iconst (v := 0) X dX13_isOver_0 (by decide) ?_
  refine r_istore_n X dX13_isOver_1 rfl (by decide) rfl ?_
  refine r_iconst (v := nI 0) X dX13_isOver_2 (by decide) ?_
  refine r_istore_n X dX13_isOver_3 rfl (by decide) rfl ?_
  exact H 0 (by omega)
theorem mt_e (g i : Nat) : mt g i = g + 28 + 20 * i := rfl
def mOw (I : Mem) (t : Nat) : Nat := (I t 13).toNatClampNeg
def mPl (I : Mem) (t : Nat) : Nat := (I t 4).toNatClampNeg
/-- a team of the reference has its numbers -/
def MtG (I : Mem) (t n np u : Nat) : Prop := I t 0 = nI (mD I t) ∧ mD I t ≤ 16 ∧ I t 13 = nI (mOw I t) ∧ mOw I t ≤ 300 ∧ I t 4 = nI (mPl I t) ∧ mPl I t < np ∧ I t 12 = nI (mG I t) ∧ mG I t ≤ 4 ∧ I t 11 = nI (mSg I t) ∧ mSg I t ≤ u ∧ OnOK I t (mD I t) n
theorem MtG.mem {I I' : Mem} {t n np u : Nat} (h : MtG I t n np u) (hk : ∀ k, k = 0 ∨ k = 4 ∨ k = 11 ∨ k = 12 ∨ k = 13 → I' t k = I t k) (ho : OnOK I' t (mD I t) n) : MtG I' t n np u := by
  obtain ⟨h1, h2, h3, h4, h5, h6, h7, h8, h9, h10, h11⟩ := h
  have e0 := hk 0 (by omega)
  have e4 := hk 4 (by omega)
  have e11 := hk 11 (by omega)
  have e12 := hk 12 (by omega)
  have e13 := hk 13 (by omega)
  have f0 : mD I' t = mD I t := by rw [mD, mD, e0]
  have f4 : mPl I' t = mPl I t := by rw [mPl, mPl, e4]
  have f11 : mSg I' t = mSg I t := by rw [mSg, mSg, e11]
  have f12 : mG I' t = mG I t := by rw [mG, mG, e12]
  have f13 : mOw I' t = mOw I t := by rw [mOw, mOw, e13]
  refine ⟨?_, ?_, ?_, ?_, ?_, ?_, ?_, ?_, ?_, ?_, ?_⟩
  · rw [f0, e0]; exact h1
  · rw [f0]; exact h2
  · rw [f13, e13]; exact h3
  · rw [f13]; exact h4
  · rw [f4, e4]; exact h5
  · rw [f4]; exact h6
  · rw [f12, e12]; exact h7
  · rw [f12]; exact h8
  · rw [f11, e11]; exact h9
  · rw [f11]; exact h10
  · rw [f0]; exact ho
theorem OnOK.c {I I' : Mem} {t m n : Nat} (h : OnOK I t m n) (h5 : I' t 5 = I t 5) (h6 : I' t 6 = I t 6) (h2 : ∀ k, I' (t + 2) k = I (t + 2) k) : OnOK I' t m n := by
  obtain ⟨l, a, b, c⟩ := h
  refine ⟨l, h6.trans a, b, fun z => ?_⟩
  rw [h5] at z
  exact ⟨(c z).1, (c z).2.c h2⟩
theorem MtG.ln {I : Mem} {t n np u : Nat} (h : MtG I t n np u) (hn : n ≤ 12) : I t 6 = nI (mLn I t) ∧ mLn I t ≤ n ∧ (I t 5 = 0 ∨ I t 5 = 1 → mLn I t < n ∧ Pul I t (mD I t)) := by
  obtain ⟨l, a, b, c⟩ := h.2.2.2.2.2.2.2.2.2.2
  have e : mLn I t = l := by rw [mLn, a]; exact nI_clamp (by omega)
  rw [e]
  exact ⟨a, b, c⟩
def mLd (I : Mem) (g t n s : Nat) : Mem := mLead I g t (mD I t) ((dWeak I t (mD I t)).getD 0) (mLn I t) n s (mPl I t)
theorem mtg_ld {I : Mem} {g t n np u s : Nat} (h : MtG I t n np u) (hn : n ≤ 12) : MtG (mLd I g t n s) t n np u := by
  obtain ⟨a, b, c⟩ := h.ln hn
  refine h.mem (fun k hk => kpm_lead _ _ (by unfold PM; omega)) ?_
  exact on_lead a b c
theorem MplOK.c {I I' : Mem} {g p : Nat} (h : MplOK I g p) (h1 : ∀ k, I' (g + 21) k = I (g + 21) k) (h3 : ∀ k, I' (g + 23) k = I (g + 23) k) : MplOK I' g p := by
  obtain ⟨a, b, c⟩ := h
  have en : mNr I' g p = mNr I g p := by rw [mNr, mNr, h1]
  refine ⟨?_, ?_, fun q hq => ?_⟩
  · rw [en, h1]; exact a
  · rw [en]; exact b
  · rw [en] at hq
    rw [mTc, h3]
    exact c q hq
/-- what stands of the reference between steps -/
abbrev MS (g c e n np u : Nat) (S : Nat → Option (Nat × Nat)) (I : Mem) (V : Nat → Nat → Option Nat) : Prop :=
  MdSh S V g ∧ MrSh S V g ∧ I g 0 = 0 ∧ I g 5 = nI c ∧ c ≤ 6 ∧ I g 7 = nI e ∧ 0 < e ∧ e ≤ 48 ∧ I g 6 = nI u ∧ u ≤ 2000 ∧ I g 4 = nI n ∧ n ≤ 12 ∧ I g 31 = nI np ∧ np ≤ 8 ∧ (∀ p, p < np → MplOK I g p) ∧ (∀ l, l < n → ¬ 1000 * I (g + 2) l = 0) ∧ ∀ i, i < c → MtG I (mt g i) n np u
theorem MS.mem {g c e n np u u' : Nat} {S : Nat → Option (Nat × Nat)} {I I' : Mem} {V : Nat → Nat → Option Nat} (HM : MS g c e n np u S I V) (hg : ∀ k, k ≠ 6 → I' g k = I g k) (hu' : I' g 6 = nI u') (hv2 : u' ≤ 2000) (hb : ∀ b k, g + 1 ≤ b → b < g + 28 → ¬ (g + 9 ≤ b ∧ b ≤ g + 18) → I' b k = I b k) (ht : ∀ i, i < c → MtG I' (mt g i) n np u') : MS g c e n np u' S I' V := by
  obtain ⟨hM, hR, h0, hc, hc6, he, he0, he48, hu, hu2, hn, hn12, hnp, hnp8, hPl, hHd, hTg⟩ := id HM
  exact ⟨hM, hR, (hg _ (by decide)).trans h0, (hg _ (by decide)).trans hc, hc6, (hg _ (by decide)).trans he, he0, he48, hu', hv2, (hg _ (by decide)).trans hn, hn12, (hg _ (by decide)).trans hnp, hnp8, fun p hp => (hPl p hp).c (fun k => hb _ _ (by omega) (by omega) (by omega)) (fun k => hb _ _ (by omega) (by omega) (by omega)), fun l hl => by rw [hb _ _ (by omega) (by omega) (by omega)]; exact hHd l hl, ht⟩
theorem MtG.far {I I' : Mem} {t n np u : Nat} (h : MtG I t n np u) (hk : ∀ b k, t ≤ b → b ≤ t + 2 → I' b k = I b k) : MtG I' t n np u :=
  h.mem (fun k _ => hk _ _ (by omega) (by omega)) (h.2.2.2.2.2.2.2.2.2.2.c (hk _ _ (by omega) (by omega)) (hk _ _ (by omega) (by omega)) (fun k => hk _ _ (by omega) (by omega)))
theorem ms_ld {g c e n np u : Nat} {S : Nat → Option (Nat × Nat)} {I : Mem} {V : Nat → Nat → Option Nat} (HM : MS g c e n np u S I V) (j s : Nat) (hj : j < c) : MS g c e n np u S (mLd I g (mt g j) n s) V := by
  obtain ⟨hM, hR, h0, hc, hc6, he, he0, he48, hu, hu2, hn, hn12, hnp, hnp8, hPl, hHd, hTg⟩ := id HM
  have m1 := mt_e g j
  have hk : Kp (PM (mt g j)) I (mLd I g (mt g j) n s) := kpm_lead
  refine HM.mem (fun k _ => hk _ _ (by unfold PM; omega)) ((hk _ _ (by unfold PM; omega)).trans hu) hu2 (fun b k h1 h2 h3 => hk _ _ (by unfold PM; omega)) (fun i hi => ?_)
  by_cases hij : i = j
  · subst hij
    exact mtg_ld (hTg i hi) hn12
  · have m2 := mt_e g i
    exact (hTg i hi).far (fun b k h1 h2 => hk _ _ (by unfold PM; omega))
def mLds (I : Mem) (g n s : Nat) : Nat → Mem
  | 0 => I
  | j + 1 => mLd (mLds I g n s j) g (mt g j) n s
theorem ms_lds {g c e n np u : Nat} {S : Nat → Option (Nat × Nat)} {I : Mem} {V : Nat → Nat → Option Nat} (HM : MS g c e n np u S I V) (s : Nat) : ∀ j, j ≤ c → MS g c e n np u S (mLds I g n s j) V
  | 0, _ => HM
  | j + 1, hj => ms_ld (ms_lds HM s j (by omega)) j s (by omega)
def mSgn (I : Mem) (g t u e : Nat) : Mem :=
  if u % e = 0 ∧ ¬ I t 5 = 0 ∧ mGap I t (nI u) (mG I t) = false then up2 (up2 (up2 I (t + 6) (mSg I t) (nI u)) (t + 7) (mSg I t) (mWay I g t (mLn I t))) t 11 (nI (mSg I t + 1)) else I
def mSgs (I : Mem) (g u e : Nat) : Nat → Mem
  | 0 => I
  | j + 1 => mSgn (mSgs I g u e j) g (mt g j) u e
theorem kpm_sgn {I : Mem} {g t u e : Nat} : Kp (fun b k => (b < t ∨ t + 9 < b) ∨ b ≤ t + 5 ∧ ¬ (b = t ∧ k = 11)) I (mSgn I g t u e) := by
  unfold mSgn
  split
  · exact ((Kp.refl.up (by omega)).up (by omega)).up (by omega)
  · exact Kp.refl
theorem kpm_sgs {I : Mem} {g u e : Nat} : ∀ j, Kp (fun b k => (b < g + 28 ∨ g + 28 + 20 * j ≤ b) ∨ ∃ i, i < j ∧ mt g i ≤ b ∧ (b ≤ mt g i + 5 ∨ mt g i + 9 < b ∧ b < mt g i + 20) ∧ ¬ (b = mt g i ∧ k = 11)) I (mSgs I g u e j)
  | 0 => Kp.refl
  | j + 1 => by
    have m1 := mt_e g j
    refine ((kpm_sgs j).mono ?_).trans (kpm_sgn.mono ?_)
    · rintro b k (h | ⟨i, hi, q⟩)
      · exact Or.inl (by omega)
      · have m2 := mt_e g i
        by_cases hij : i = j
        · exact Or.inl (Or.inr (by omega))
        · exact Or.inr ⟨i, by omega, q⟩
    · rintro b k (h | ⟨i, hi, q1, q2, q3⟩)
      · exact Or.inl (by omega)
      · have m2 := mt_e g i
        by_cases hij : i = j
        · subst hij
          rcases q2 with q2 | q2
          · exact Or.inr ⟨q2, q3⟩
          · exact Or.inl (Or.inr q2.1)
        · exact Or.inl (by omega)
theorem mSgs_sg {I : Mem} {g u e j i : Nat} (h : j ≤ i) (b k : Nat) (hb : mt g i ≤ b) : mSgs I g u e j b k = I b k := kpm_sgs j b k (Or.inl (Or.inr (by have := mt_e g i; omega)))
theorem mtg_sgn {I : Mem} {g t n np u v e : Nat} (h : MtG I t n np v) (hv : v ≤ u) (hu : u < 2000) : MtG (mSgn I g t u e) t n np (u + 1) := by
  obtain ⟨h1, h2, h3, h4, h5, h6, h7, h8, h9, h10, h11⟩ := id h
  have hw : MtG I t n np (u + 1) := ⟨h1, h2, h3, h4, h5, h6, h7, h8, h9, by omega, h11⟩
  unfold mSgn
  split
  · generalize hI1 : up2 (up2 I (t + 6) (mSg I t) (nI u)) (t + 7) (mSg I t) (mWay I g t (mLn I t)) = I1
    have hk : ∀ b k, b ≤ t + 5 → I1 b k = I b k := fun b k hb => by rw [← hI1, up2_a (by omega), up2_a (by omega)]
    obtain ⟨a1, a2, a3, a4, a5, a6, a7, a8, a9, a10, a11⟩ := hw.far (I' := I1) (fun b k _ _ => hk b k (by omega))
    have g0 : ∀ k, k ≠ 11 → up2 I1 t 11 (nI (mSg I t + 1)) t k = I1 t k := fun k hk => up2_k hk
    have f0 : mD (up2 I1 t 11 (nI (mSg I t + 1))) t = mD I1 t := by rw [mD, mD, g0 _ (by decide)]
    have f4 : mPl (up2 I1 t 11 (nI (mSg I t + 1))) t = mPl I1 t := by rw [mPl, mPl, g0 _ (by decide)]
    have f12 : mG (up2 I1 t 11 (nI (mSg I t + 1))) t = mG I1 t := by rw [mG, mG, g0 _ (by decide)]
    have f13 : mOw (up2 I1 t 11 (nI (mSg I t + 1))) t = mOw I1 t := by rw [mOw, mOw, g0 _ (by decide)]
    have f11 : mSg (up2 I1 t 11 (nI (mSg I t + 1))) t = mSg I t + 1 := by rw [mSg, up2_same]; exact nI_clamp (by omega)
    refine ⟨?_, ?_, ?_, ?_, ?_, ?_, ?_, ?_, ?_, ?_, ?_⟩
    · rw [f0, g0 _ (by decide)]; exact a1
    · rw [f0]; exact a2
    · rw [f13, g0 _ (by decide)]; exact a3
    · rw [f13]; exact a4
    · rw [f4, g0 _ (by decide)]; exact a5
    · rw [f4]; exact a6
    · rw [f12, g0 _ (by decide)]; exact a7
    · rw [f12]; exact a8
    · rw [f11, up2_same]
    · rw [f11]; omega
    · rw [f0]; exact a11.c (g0 _ (by decide)) (g0 _ (by decide)) (fun k => up2_a (by omega))
  · exact hw
theorem MtG.up {I : Mem} {t n np u : Nat} (h : MtG I t n np u) : MtG I t n np (u + 1) := by
  obtain ⟨h1, h2, h3, h4, h5, h6, h7, h8, h9, h10, h11⟩ := h
  exact ⟨h1, h2, h3, h4, h5, h6, h7, h8, h9, by omega, h11⟩
/-- between the signs of a step: the teams before j have theirs -/
theorem ms_sgs {g c e n np u : Nat} {S : Nat → Option (Nat × Nat)} {I : Mem} {V : Nat → Nat → Option Nat} (HM : MS g c e n np u S I V) (hu : u < 2000) : ∀ j, j ≤ c → (∀ i, i < c → MtG (mSgs I g u e j) (mt g i) n np (if i < j then u + 1 else u))
  | 0, _, i, hi => by rw [if_neg (by omega)]; exact HM.2.2.2.2.2.2.2.2.2.2.2.2.2.2.2.2 i hi
  | j + 1, hj, i, hi => by
    have ih := ms_sgs HM hu j (by omega) i hi
    by_cases hij : i = j
    · subst hij
      rw [if_neg (by omega)] at ih
      rw [if_pos (by omega)]
      exact mtg_sgn ih (Nat.le_refl _) hu
    · have h2 : MtG (mSgs I g u e (j + 1)) (mt g i) n np (if i < j then u + 1 else u) := ih.far (fun b k h1 h2 => kpm_sgn b k (Or.inl (by have := mt_e g i; have := mt_e g j; omega)))
      rcases Nat.lt_or_ge i j with z | z
      · rw [if_pos z] at h2
        rw [if_pos (by omega)]
        exact h2
      · rw [if_neg (by omega)] at h2
        rw [if_neg (by omega)]
        exact h2
def mStep (I : Mem) (g c e n u : Nat) : Mem := up2 (mSgs (mLds I g n u c) g u e c) g 6 (nI (u + 1))
theorem ms_step {g c e n np u : Nat} {S : Nat → Option (Nat × Nat)} {I : Mem} {V : Nat → Nat → Option Nat} (HM : MS g c e n np u S I V) (hu : u < 2000) : MS g c e n np (u + 1) S (mStep I g c e n u) V := by
  have H1 := ms_lds HM u c (Nat.le_refl _)
  have H2 := ms_sgs H1 hu c (Nat.le_refl _)
  unfold mStep
  have hk := kpm_sgs (I := mLds I g n u c) (g := g) (u := u) (e := e) c
  generalize mSgs (mLds I g n u c) g u e c = I2 at *
  have hk1 : ∀ b k, b < g + 28 → I2 b k = mLds I g n u c b k := fun b k hb => hk b k (Or.inl (Or.inl hb))
  refine H1.mem (fun k hk => (up2_k hk).trans (hk1 _ _ (by omega))) (up2_same _ _ _ _) (by omega) (fun b k h1 h2 h3 => (up2_a (by omega)).trans (hk1 _ _ h2)) (fun i hi => ?_)
  have := H2 i hi
  rw [if_pos hi] at this
  exact this.far (fun b k h1 h2 => up2_a (by have := mt_e g i; omega))
def mRunN (I : Mem) (g c e n u : Nat) : Nat → Mem
  | 0 => I
  | k + 1 => mStep (mRunN I g c e n u k) g c e n (u + k)
theorem ms_runN {g c e n np u : Nat} {S : Nat → Option (Nat × Nat)} {I : Mem} {V : Nat → Nat → Option Nat} (HM : MS g c e n np u S I V) : ∀ k, u + k ≤ 2000 → MS g c e n np (u + k) S (mRunN I g c e n u k) V
  | 0, _ => HM
  | k + 1, h => ms_step (u := u + k) (ms_runN HM k (by omega)) (by omega)
def mRunK (I : Mem) (g c e n u m : Nat) : Nat := (fst1 (fun k => mOver (mRunN I g c e n u k) g c (u + k)) m).getD m
def mRun (I : Mem) (g c e n u : Nat) (x : Int32) : Int32 × Mem :=
  if mOver I g c u = true then (-1, mTrb I g 5)
  else if inB x 1 500 = true then (nI (mRunK I g c e n u x.toNatClampNeg), mTrb (mRunN I g c e n u (mRunK I g c e n u x.toNatClampNeg)) g 0)
  else (-1, mTrb I g 2)
