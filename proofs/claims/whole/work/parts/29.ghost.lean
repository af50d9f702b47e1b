/-! ===== SledHouse: back, bringGhost, replay ===== -/
set_option maxHeartbeats 2000000 in
set_option maxRecDepth 20000 in
/-- SledHouse.back -/
theorem c_hBack0 {E : Ev} (GE : Glob E) (S : Nat → Option (Nat × Nat)) (I : Nat → Nat → Int32) (V : Nat → Nat → Option Nat) (J : Nat → Nat → Int64) (N : Nat) (h : Nat) (hH : HouseSh S V h) (hK : V h 6 = none) : Ct E yX10_back cX10_back 1 (some .boolean) (rmL 4) [.ref h] (S, I, V, J, N) (fun v w' => v = some (.int 0) ∧ w' = (S, up2 I h 8 1, V, J, N)) := by
  refine Ct.start GE (by decide) rfl (Nat.le_of_ble_eq_true rfl) (fun M X => ?_)
  have X : Cx E M RX10 cX10_back 1 (rmL 4) (some .boolean) "back" := X
  refine r_loc (L' := [some (.ref h)]) rfl ?_
  obtain ⟨hs0, hv0, hv1, hv2, hv3, hv4, hv5, hTp, hs3, hPl, hLw, hRc, hs76, hGh, hRow⟩ := id hH
  obtain ⟨rs0, rv0, rv1, rTr, rs6, rTe⟩ := id hRc
  have qs0 := rTr.1
  have ts0 := hTp.1
  have ls0 := hLw.1
  refine r_aload_n X dX10_back_0 rfl rfl ?_
  refine r_getN X dX10_back_1 fX10_49 (by assumption) (by assumption) ?_
  refine r_ifnonnullN X dX10_back_4 ?_
  refine r_aload_n X dX10_back_7 rfl rfl ?_
  refine r_iconst (v := 1) X dX10_back_8 (by decide) ?_
  refine q_callV X dX10_back_9 mX10_97 cwX10_deny (c_hDeny GE S I V J N h _ hs0) rfl (by assumption) rfl rfl rfl (Nat.le_of_ble_eq_true rfl) ⟨Nat.le_of_ble_eq_true rfl, Nat.le_of_ble_eq_true rfl⟩ ⟨(by first | omega | decide | (simp only [rmL, rmA]; omega)), (by first | omega | decide | (simp only [rmL, rmA]; omega))⟩ ?_
  rintro _ _ ⟨rfl, rfl⟩
  refine r_ireturn X dX10_back_12 rfl (by first | omega | decide | (simp only [rmL, rmA]; omega)) (by first | omega | decide | (simp only [rmL, rmA]; omega)) ?_
  exact ⟨rfl, rfl⟩
def hBack (I : Mem) (h K c : Nat) : Mem := up2 (up2 (rCopy I (h + 9) K c) h 9 (-1)) h 8 0
set_option maxHeartbeats 2000000 in
set_option maxRecDepth 20000 in
/-- SledHouse.back -/
theorem c_hBack1 {E : Ev} (GE : Glob E) (S : Nat → Option (Nat × Nat)) (I : Nat → Nat → Int32) (V : Nat → Nat → Option Nat) (J : Nat → Nat → Int64) (N : Nat) (h K c : Nat) (hH : HouseSh S V h) (hK : V h 6 = some K) (hR : RaceSh S V K) (hc : I K 2 = nI c) (hc6 : c ≤ 6) (hne : h + 162 ≤ K) : Ct E yX10_back cX10_back 1 (some .boolean) (rmL 4) [.ref h] (S, I, V, J, N) (fun v w' => v = some (.int 1) ∧ w' = (S, hBack I h K c, V, J, N)) := by
  refine Ct.start GE (by decide) rfl (Nat.le_of_ble_eq_true rfl) (fun M X => ?_)
  have X : Cx E M RX10 cX10_back 1 (rmL 4) (some .boolean) "back" := X
  refine r_loc (L' := [some (.ref h)]) rfl ?_
  obtain ⟨hs0, hv0, hv1, hv2, hv3, hv4, hv5, hTp, hs3, hPl, hLw, hRc, hs76, hGh, hRow⟩ := id hH
  obtain ⟨rs0, rv0, rv1, rTr, rs6, rTe⟩ := id hRc
  have qs0 := rTr.1
  have ts0 := hTp.1
  have ls0 := hLw.1
  refine r_aload_n X dX10_back_0 rfl rfl ?_
  refine r_getR X dX10_back_1 fX10_49 (by assumption) (by assumption) ?_
  refine r_ifnonnull (tgt := 13) X dX10_back_4 (by decide) ?_
  refine r_aload_n X dX10_back_13 rfl rfl ?_
  refine r_getR X dX10_back_14 fX10_32 (by assumption) (by assumption) ?_
  refine r_aload_n X dX10_back_17 rfl rfl ?_
  refine r_getR X dX10_back_18 fX10_49 (by assumption) (by assumption) ?_
  refine q_callV X dX10_back_21 mX10_272 cwX5_copyFrom (c_rCopy GE S I V J N (h + 9) K c hRc hR hc hc6 (by omega)) rfl (by assumption) rfl rfl rfl (Nat.le_of_ble_eq_true rfl) ⟨Nat.le_of_ble_eq_true rfl, Nat.le_of_ble_eq_true rfl⟩ ⟨(by first | omega | decide | (simp only [rmL, rmA]; omega)), (by first | omega | decide | (simp only [rmL, rmA]; omega))⟩ ?_
  rintro _ _ ⟨rfl, rfl⟩
  refine r_aload_n X dX10_back_24 rfl rfl ?_
  refine r_iconst (v := -1) X dX10_back_25 (by decide) ?_
  refine r_putI X dX10_back_26 fX10_59 wX10_59 (by assumption) rfl rfl ?_
  refine r_aload_n X dX10_back_29 rfl rfl ?_
  refine q_callV X dX10_back_30 mX10_111 cwX10_allow (c_hAllow GE S _ V J N h hs0) rfl (by assumption) rfl rfl rfl (Nat.le_of_ble_eq_true rfl) ⟨Nat.le_of_ble_eq_true rfl, Nat.le_of_ble_eq_true rfl⟩ ⟨(by first | omega | decide | (simp only [rmL, rmA]; omega)), (by first | omega | decide | (simp only [rmL, rmA]; omega))⟩ ?_
  rintro _ _ ⟨rfl, rfl⟩
  refine r_ireturn X dX10_back_33 rfl (by first | omega | decide | (simp only [rmL, rmA]; omega)) (by first | omega | decide | (simp only [rmL, rmA]; omega)) ?_
  exact ⟨rfl, rfl⟩
def ghRun (I : Mem) (h p g : Nat) : Nat → Mem
  | 0 => I
  | j + 1 => up2 (tStp (ghRun I h p g j) (h + 77) (h + 9 + 1) p (g + j)) h 11 (nI (g + j + 1))
def PG (h b k : Nat) : Prop := (b < h + 77 ∨ h + 86 < b) ∧ ¬ (b = h ∧ k = 11)
theorem gh_kp (I : Mem) (h p g : Nat) : ∀ j, Kp (PG h) I (ghRun I h p g j)
  | 0 => Kp.refl
  | j + 1 => by
    refine ((gh_kp I h p g j).trans ((kp_stp _ p _).mono (fun b k q => ?_))).up (fun q => q.2 ⟨rfl, rfl⟩)
    unfold PG at q
    unfold P0
    omega
theorem gh_at {I : Mem} {h p g : Nat} (h0 : I h 11 = nI g) : ∀ j, ghRun I h p g j h 11 = nI (g + j)
  | 0 => h0
  | j + 1 => up2_same _ _ _ _
theorem gh_tm {I : Mem} {h p g n : Nat} (hT : TmOK I (h + 77) n) (hn : n ≤ 12) (hr : I (h + 9 + 1) 4 = nI n) : ∀ j, TmOK (ghRun I h p g j) (h + 77) n
  | 0 => hT
  | j + 1 => by
    have h1 := (gh_tm (p := p) (g := g) hT hn hr j).stp hn (h + 9 + 1) p (g + j) ((gh_kp I h p g j _ _ (by unfold PG; omega)).trans hr)
    exact h1.keep (up2_a (by omega)) (up2_a (by omega)) (up2_a (by omega))
def ghBeg (I : Mem) (h i q m : Nat) : Mem := up2 (up2 (up2 (tBegin I (h + 77) m (I (tm h i) 4) (I (tm h i) 5) (I (tm h i) 6) (nI q)) h 9 (nI i)) h 10 (nI q)) h 11 (nI 0)
theorem kp_dBeg {P : Nat → Nat → Prop} {I : Mem} {d : Nat} (h : DKp P d) : ∀ j, Kp P I (dBeg I d j)
  | 0 => Kp.refl
  | j + 1 => (((kp_dBeg h j).up (h.1 j)).up (h.2.1 j)).up (h.2.2.1 j)
def PT (t b _k : Nat) : Prop := b < t ∨ t + 9 < b
theorem kp_fill {P : Nat → Nat → Prop} {I I1 : Mem} {a j : Nat} {x : Int32} (g : Kp P I I1) (h : ∀ k, ¬ P a k) : Kp P I (fillTo I1 a j x) := fun b k p => by
  unfold fillTo
  rw [if_neg (by rintro ⟨rfl, _⟩; exact h _ p)]
  exact g b k p
theorem dkpT (t : Nat) : DKp (PT t) (t + 1) := by
  unfold DKp PT
  refine ⟨fun k => ?_, fun k => ?_, fun k => ?_, ?_, ?_⟩ <;> omega
theorem kp_tBegin (I : Mem) (t m : Nat) (a b c d : Int32) : Kp (PT t) I (tBegin I t m a b c d) := by
  have nt : ∀ k, ¬ PT t t k := fun k => by unfold PT; omega
  have n1 : ∀ k, ¬ PT t (t + 1) k := fun k => by unfold PT; omega
  have n5 : ∀ k, ¬ PT t (t + 5) k := fun k => by unfold PT; omega
  have n8 : ∀ k, ¬ PT t (t + 8) k := fun k => by unfold PT; omega
  have n9 : ∀ k, ¬ PT t (t + 9) k := fun k => by unfold PT; omega
  have h0 : Kp (PT t) I (dBegin I (t + 1) m) := (((Kp.refl.up (n1 _)).up (n1 _)).up (n1 _)).trans (kp_dBeg (dkpT t) m)
  exact (((((((((((kp_fill (kp_fill (h0.up (n5 _)) n8) n9).up (nt _)).up (nt _)).up (nt _)).up (nt _)).up (nt _)).up (nt _)).up (nt _)).up (nt _)).up (nt _)).up (nt _)).up (nt _)
theorem tm_tBegin {I : Mem} {t m n : Nat} (hm : m ≤ 16) (a b c d : Int32) : TmOK (tBegin I t m a b c d) t n := by
  have e1 : tBegin I t m a b c d (t + 1) 3 = nI m := by
    unfold tBegin
    iterate 11 rw [up2_a (by omega)]
    unfold fillTo
    rw [if_neg (by omega), if_neg (by omega), up2_a (by omega), dBegin, dBeg_d, up2_k (by decide), up2_k (by decide), up2_same]
  have e2 : tBegin I t m a b c d t 10 = nI 0 := by
    unfold tBegin
    iterate 4 rw [up2_k (by decide)]
    exact up2_same _ _ _ _
  have e3 : tBegin I t m a b c d (t + 5) 2 = nI 0 := by
    unfold tBegin
    iterate 11 rw [up2_a (by omega)]
    unfold fillTo
    rw [if_neg (by omega), if_neg (by omega)]
    exact up2_same _ _ _ _
  have f1 : tMm (tBegin I t m a b c d) t = m := by unfold tMm; rw [e1, nI_clamp (by omega)]
  have f2 : tL (tBegin I t m a b c d) t = 0 := by unfold tL; rw [e2, nI_clamp (by omega)]
  have f3 : tGm (tBegin I t m a b c d) t = 0 := by unfold tGm; rw [e3, nI_clamp (by omega)]
  unfold TmOK
  rw [f1, f2, f3]
  exact ⟨e1, hm, e2, Nat.zero_le _, e3, Nat.zero_le _⟩
theorem kp_ghBeg (I : Mem) (h i q m : Nat) : Kp (fun b k => (b < h + 77 ∨ h + 86 < b) ∧ ¬ (b = h ∧ 9 ≤ k)) I (ghBeg I h i q m) :=
  ((((kp_tBegin I (h + 77) m _ _ _ _).mono (fun b k q => by unfold PT; omega)).up (by omega)).up (by omega)).up (by omega)
theorem tm_ghBeg (I : Mem) (h i q m n : Nat) (hm : m ≤ 16) : TmOK (ghBeg I h i q m) (h + 77) n :=
  (tm_tBegin hm (I (tm h i) 4) (I (tm h i) 5) (I (tm h i) 6) (nI q)).keep (((up2_a (by omega)).trans (up2_a (by omega))).trans (up2_a (by omega))) (((up2_a (by omega)).trans (up2_a (by omega))).trans (up2_a (by omega))) (((up2_a (by omega)).trans (up2_a (by omega))).trans (up2_a (by omega)))
def ghS (I : Mem) (h : Nat) : Nat := (I h 11).toNatClampNeg
def hGhost (I : Mem) (h i q u : Nat) : Mem :=
  if I h 9 = nI i ∧ I h 10 = nI q then ghRun I h (h + 87 + 7 * q) (ghS I h) (u - ghS I h) else ghRun (ghBeg I h i q (tMm I (tm h i))) h (h + 87 + 7 * q) 0 u
set_option maxHeartbeats 2000000 in
set_option maxRecDepth 20000 in
/-- SledHouse.bringGhost -/
theorem c_hBring {E : Ev} (GE : Glob E) (S : Nat → Option (Nat × Nat)) (I : Nat → Nat → Int32) (V : Nat → Nat → Option Nat) (J : Nat → Nat → Int64) (N : Nat) (h i q u n : Nat) (hH : HouseSh S V h) (hi : i < 6) (hq : q < 9) (hU : I (h + 9) 3 = nI u) (hu : u ≤ 2000) (hn : I (h + 9 + 1) 4 = nI n) (hn12 : n ≤ 12) (hO : PlanOK I (h + 87 + 7 * q) (pN I (h + 87 + 7 * q))) (hm : I (tm h i + 1) 3 = nI (tMm I (tm h i))) (hm6 : tMm I (tm h i) ≤ 16) (hG : I h 9 = nI i → I h 10 = nI q → I h 11 = nI (ghS I h) ∧ ghS I h ≤ 2000 ∧ TmOK I (h + 77) n) : Ct E yX10_bringGhost cX10_bringGhost 3 none (rmL 6) [.ref h, .int (nI i), .int (nI q)] (S, I, V, J, N) (fun v w' => v = none ∧ w' = (S, hGhost I h i q u, V, J, N)) := by
  refine Ct.start GE (by decide) rfl (Nat.le_of_ble_eq_true rfl) (fun M X => ?_)
  have X : Cx E M RX10 cX10_bringGhost 3 (rmL 6) none "bringGhost" := X
  refine r_loc (L' := [some (.ref h), some (.int (nI i)), some (.int (nI q))]) rfl ?_
  obtain ⟨hs0, hv0, hv1, hv2, hv3, hv4, hv5, hTp, hs3, hPl, hLw, hRc, hs76, hGh, hRow⟩ := id hH
  obtain ⟨rs0, rv0, rv1, rTr, rs6, rTe⟩ := id hRc
  have qs0 := rTr.1
  have ts0 := hTp.1
  have ls0 := hLw.1
  have te1 := (rTe i (by omega)).1
  have te2 := (rTe i (by omega)).2
  have pe1 := (hPl q (by omega)).1
  have pe2 := (hPl q (by omega)).2
  have gs0 := hGh.1
  have as0 := te2.1
  have H : ∀ (I0 : Mem) (g : Nat), Kp (fun b k => (b < h + 77 ∨ h + 86 < b) ∧ ¬ (b = h ∧ 9 ≤ k)) I I0 → I0 h 11 = nI g → g ≤ 2000 → TmOK I0 (h + 77) n → ghRun I0 h (h + 87 + 7 * q) g (u - g) = hGhost I h i q u → ∀ j, j ≤ u - g → G E M 0 0 (qQ E M (rmL 6) (fun v w' => v = none ∧ w' = (S, hGhost I h i q u, V, J, N))) 48 [some (.ref h), some (.int (nI i)), some (.int (nI q))] [] (S, ghRun I0 h (h + 87 + 7 * q) g j, V, J, N) := by
    intro I0 g hk0 hg hg2 hT0 he
    refine loopN (u - g) (fun j hj ih => ?_)
    have hk : Kp (fun b k => (b < h + 77 ∨ h + 86 < b) ∧ ¬ (b = h ∧ 9 ≤ k)) I (ghRun I0 h (h + 87 + 7 * q) g j) := hk0.trans ((gh_kp I0 h (h + 87 + 7 * q) g j).mono (fun b k z => by unfold PG; omega))
    have e11 := gh_at (p := h + 87 + 7 * q) hg j
    have eU := (hk (h + 9) 3 (by omega)).trans hU
    have eN := (hk (h + 9 + 1) 4 (by omega)).trans hn
    have hT := gh_tm (p := h + 87 + 7 * q) (g := g) hT0 hn12 ((hk0 (h + 9 + 1) 4 (by omega)).trans hn) j
    have hO' : PlanOK (ghRun I0 h (h + 87 + 7 * q) g j) (h + 87 + 7 * q) (pN (ghRun I0 h (h + 87 + 7 * q) g j) (h + 87 + 7 * q)) := by
      have : pN (ghRun I0 h (h + 87 + 7 * q) g j) (h + 87 + 7 * q) = pN I (h + 87 + 7 * q) := by unfold pN; rw [hk (h + 87 + 7 * q) 6 (by omega)]
      rw [this]
      exact hO.keep (fun b k a1 a2 => hk b k (by omega))
    have eR : rN (ghRun I0 h (h + 87 + 7 * q) g j) (h + 9 + 1) = n := by unfold rN; rw [eN, nI_clamp (by omega)]
    have hst : tStp (ghRun I0 h (h + 87 + 7 * q) g j) (h + 77) (h + 9 + 1) (h + 87 + 7 * q) (g + j) h 11 = nI (g + j) := (kp_stp _ _ _ h 11 (by unfold P0; omega)).trans e11
    refine r_aload_n X dX10_bringGhost_48 rfl rfl ?_
    refine r_getI X dX10_bringGhost_49 fX10_65 (by assumption) e11 ?_
    refine r_aload_n X dX10_bringGhost_52 rfl rfl ?_
    refine r_getR X dX10_bringGhost_53 fX10_32 (by assumption) (by assumption) ?_
    refine r_getI X dX10_bringGhost_56 fX10_70 (by assumption) eU ?_
    refine r_icmpN_ge (tgt := 99) X dX10_bringGhost_59 (by decide) (by omega) (by omega) (fun h59 => ?_) (fun h59 => ?_)
    · skip
      refine r_return X dX10_bringGhost_99 (by first | omega | decide | (simp only [rmL, rmA]; omega)) (by first | omega | decide | (simp only [rmL, rmA]; omega)) ?_
      refine ⟨rfl, ?_⟩
      obtain rfl : j = u - g := by omega
      rw [he]
    · skip
      refine r_aload_n X dX10_bringGhost_62 rfl rfl ?_
      refine r_getR X dX10_bringGhost_63 fX10_45 (by assumption) (by assumption) ?_
      refine r_aload_n X dX10_bringGhost_66 rfl rfl ?_
      refine r_getR X dX10_bringGhost_67 fX10_32 (by assumption) (by assumption) ?_
      refine r_getR X dX10_bringGhost_70 fX10_81 (by assumption) (by assumption) ?_
      refine r_aload_n X dX10_bringGhost_73 rfl rfl ?_
      refine r_getR X dX10_bringGhost_74 fX10_18 (by assumption) (by assumption) ?_
      refine r_iload_n X dX10_bringGhost_77 rfl rfl ?_
      refine r_aaldN X dX10_bringGhost_78 (by assumption) (by decide) rfl (by omega) (by omega) pe1 ?_
      refine r_aload_n X dX10_bringGhost_79 rfl rfl ?_
      refine r_getI X dX10_bringGhost_80 fX10_65 (by assumption) e11 ?_
      refine q_callV X dX10_bringGhost_83 mX10_288 cwX8_doStep (c_tStep GE S _ V J N (h + 77) (h + 9 + 1) (h + 87 + 7 * q) _ (rN (ghRun I0 h (h + 87 + 7 * q) g j) (h + 9 + 1)) _ (g + j) _ hGh rTr pe2 hT.1 hT.2.1 hT.2.2.1 (by have := hT.2.2.2.1; omega) (by rw [eR]; exact eN) (by omega) (by omega) hO' (by omega) (by omega)) rfl (by assumption) rfl rfl rfl (Nat.le_of_ble_eq_true rfl) ⟨Nat.le_of_ble_eq_true rfl, Nat.le_of_ble_eq_true rfl⟩ ⟨(by first | omega | decide | (simp only [rmL, rmA]; omega)), (by first | omega | decide | (simp only [rmL, rmA]; omega))⟩ ?_
      rintro _ _ ⟨rfl, rfl⟩
      refine r_aload_n X dX10_bringGhost_86 rfl rfl ?_
      refine r_dup X dX10_bringGhost_87 rfl ?_
      refine r_getI X dX10_bringGhost_88 fX10_65 (by assumption) hst ?_
      refine r_iconst (v := 1) X dX10_bringGhost_91 (by decide) ?_
      refine r_iadd X dX10_bringGhost_92 ?_
      refine r_topi (nI (g + j + 1)) (nI_1 _) ?_
      refine r_putI X dX10_bringGhost_93 fX10_65 wX10_65 (by assumption) rfl rfl ?_
      refine r_goto (tgt := 48) X dX10_bringGhost_96 (by decide) ?_
      exact ih (by omega)
  by_cases h1 : I h 9 = nI i ∧ I h 10 = nI q
  · obtain ⟨h1a, h1b⟩ := h1
    obtain ⟨g1, g2, g3⟩ := hG h1a h1b
    refine r_iload_n X dX10_bringGhost_0 rfl rfl ?_
    refine r_aload_n X dX10_bringGhost_1 rfl rfl ?_
    refine r_getI X dX10_bringGhost_2 fX10_59 (by assumption) (by first | assumption | rfl) ?_
    refine r_icmp_ne (tgt := 16) X dX10_bringGhost_5 (by decide) (fun h5 => ?_) (fun h5 => ?_)
    · skip
      exact absurd rfl h5
    · skip
      refine r_iload_n X dX10_bringGhost_8 rfl rfl ?_
      refine r_aload_n X dX10_bringGhost_9 rfl rfl ?_
      refine r_getI X dX10_bringGhost_10 fX10_62 (by assumption) (by first | assumption | rfl) ?_
      refine r_icmp_eq (tgt := 48) X dX10_bringGhost_13 (by decide) (fun h13 => ?_) (fun h13 => ?_)
      · skip
        exact H I (ghS I h) Kp.refl g1 g2 g3 (by rw [hGhost, if_pos ⟨h1a, h1b⟩]) 0 (Nat.zero_le _)
      · skip
        exact absurd rfl h13
  · have H2 : G E M 0 0 (qQ E M (rmL 6) (fun v w' => v = none ∧ w' = (S, hGhost I h i q u, V, J, N))) 16 [some (.ref h), some (.int (nI i)), some (.int (nI q))] [] (S, I, V, J, N) := by
      refine r_aload_n X dX10_bringGhost_16 rfl rfl ?_
      refine r_getR X dX10_bringGhost_17 fX10_32 (by assumption) (by assumption) ?_
      refine r_getR X dX10_bringGhost_20 fX10_145 (by assumption) (by assumption) ?_
      refine r_iload_n X dX10_bringGhost_23 rfl rfl ?_
      refine r_aaldN X dX10_bringGhost_24 (by assumption) (by decide) rfl (by omega) (by omega) te1 ?_
      refine r_aload_n X dX10_bringGhost_25 rfl rfl ?_
      refine r_getR X dX10_bringGhost_26 fX10_45 (by assumption) (by assumption) ?_
      refine r_iload_n X dX10_bringGhost_29 rfl rfl ?_
      refine q_callV X dX10_bringGhost_30 mX10_320 cwX8_beginAgain (c_tAgain GE S I V J N (tm h i) (h + 77) _ _ te2 hGh hm hm6) rfl (by assumption) rfl rfl rfl (Nat.le_of_ble_eq_true rfl) ⟨Nat.le_of_ble_eq_true rfl, Nat.le_of_ble_eq_true rfl⟩ ⟨(by first | omega | decide | (simp only [rmL, rmA]; omega)), (by first | omega | decide | (simp only [rmL, rmA]; omega))⟩ ?_
      rintro _ _ ⟨rfl, rfl⟩
      refine r_aload_n X dX10_bringGhost_33 rfl rfl ?_
      refine r_iload_n X dX10_bringGhost_34 rfl rfl ?_
      refine r_putI X dX10_bringGhost_35 fX10_59 wX10_59 (by assumption) rfl rfl ?_
      refine r_aload_n X dX10_bringGhost_38 rfl rfl ?_
      refine r_iload_n X dX10_bringGhost_39 rfl rfl ?_
      refine r_putI X dX10_bringGhost_40 fX10_62 wX10_62 (by assumption) rfl rfl ?_
      refine r_aload_n X dX10_bringGhost_43 rfl rfl ?_
      refine r_iconst (v := nI 0) X dX10_bringGhost_44 (by decide) ?_
      refine r_putI X dX10_bringGhost_45 fX10_65 wX10_65 (by assumption) rfl rfl ?_
      exact H (ghBeg I h i q (tMm I (tm h i))) 0 (kp_ghBeg I h i q _) (up2_same _ _ _ _) (by omega) (tm_ghBeg I h i q _ n hm6) (by rw [hGhost, if_neg h1]; rfl) 0 (Nat.zero_le _)
    refine r_iload_n X dX10_bringGhost_0 rfl rfl ?_
    refine r_aload_n X dX10_bringGhost_1 rfl rfl ?_
    refine r_getI X dX10_bringGhost_2 fX10_59 (by assumption) (by first | assumption | rfl) ?_
    refine r_icmp_ne (tgt := 16) X dX10_bringGhost_5 (by decide) (fun h5 => ?_) (fun h5 => ?_)
    · skip
      exact H2
    · skip
      refine r_iload_n X dX10_bringGhost_8 rfl rfl ?_
      refine r_aload_n X dX10_bringGhost_9 rfl rfl ?_
      refine r_getI X dX10_bringGhost_10 fX10_62 (by assumption) (by first | assumption | rfl) ?_
      refine r_icmp_eq (tgt := 48) X dX10_bringGhost_13 (by decide) (fun h13 => ?_) (fun h13 => ?_)
      · skip
        exact absurd ⟨(by assumption : nI i = I h 9).symm, (by assumption : nI q = I h 10).symm⟩ h1
      · skip
        exact H2
def hRepV (I : Mem) (h n : Nat) (z : Int32) : Int32 := if z = 0 then tWay I (h + 9 + 1) (h + 77) (tL I (h + 77)) else if z = 1 then I (h + 77 + 1) 4 else if z = 2 then I (h + 77) 8 else I (h + 77 + 8) n
def hReplay (I : Mem) (h c pc u n : Nat) (x y z : Int32) : Int32 × Mem := match ixI x c, ixI y pc with
  | some i, some q => if inB z 0 3 = true then (hRepV (hGhost I h i q u) h n z, up2 (hGhost I h i q u) h 8 0) else (-1, up2 I h 8 2)
  | _, _ => (-1, up2 I h 8 1)
theorem tm_hGhost {I : Mem} {h i q u n : Nat} (hn : I (h + 9 + 1) 4 = nI n) (hn12 : n ≤ 12) (hm6 : tMm I (tm h i) ≤ 16) (hG : I h 9 = nI i → I h 10 = nI q → I h 11 = nI (ghS I h) ∧ ghS I h ≤ 2000 ∧ TmOK I (h + 77) n) : TmOK (hGhost I h i q u) (h + 77) n := by
  unfold hGhost
  split
  · next z => exact gh_tm (hG z.1 z.2).2.2 hn12 hn _
  · exact gh_tm (tm_ghBeg I h i q _ n hm6) hn12 ((kp_ghBeg I h i q _ _ _ (by omega)).trans hn) _
theorem kp_hGhost (I : Mem) (h i q u : Nat) : Kp (fun b k => (b < h + 77 ∨ h + 86 < b) ∧ ¬ (b = h ∧ 9 ≤ k)) I (hGhost I h i q u) := by
  unfold hGhost
  split
  · exact (gh_kp I h _ _ _).mono (fun b k z => by unfold PG; omega)
  · exact (kp_ghBeg I h i q _).trans ((gh_kp _ h _ _ _).mono (fun b k z => by unfold PG; omega))
set_option maxHeartbeats 2000000 in
set_option maxRecDepth 20000 in
/-- SledHouse.replay -/
theorem c_hReplay {E : Ev} (GE : Glob E) (S : Nat → Option (Nat × Nat)) (I : Nat → Nat → Int32) (V : Nat → Nat → Option Nat) (J : Nat → Nat → Int64) (N : Nat) (h c pc u n : Nat) (x y z : Int32) (hH : HouseSh S V h) (hc : I (h + 9) 2 = nI c) (hc6 : c ≤ 6) (hp : I h 7 = nI pc) (hp9 : pc ≤ 9) (hU : I (h + 9) 3 = nI u) (hu : u ≤ 2000) (hn : I (h + 9 + 1) 4 = nI n) (hn12 : n ≤ 12) (hO : ∀ q, q < pc → PlanOK I (h + 87 + 7 * q) (pN I (h + 87 + 7 * q))) (hT : ∀ i, i < c → TmOK I (tm h i) n) (hG : ∀ i q, i < c → q < pc → I h 9 = nI i → I h 10 = nI q → I h 11 = nI (ghS I h) ∧ ghS I h ≤ 2000 ∧ TmOK I (h + 77) n) : Ct E yX10_replay cX10_replay 4 (some .int) (rmL 7) [.ref h, .int x, .int y, .int z] (S, I, V, J, N) (fun v w' => v = some (.int (hReplay I h c pc u n x y z).1) ∧ w' = (S, (hReplay I h c pc u n x y z).2, V, J, N)) := by
  refine Ct.start GE (by decide) rfl (Nat.le_of_ble_eq_true rfl) (fun M X => ?_)
  have X : Cx E M RX10 cX10_replay 4 (rmL 7) (some .int) "replay" := X
  refine r_loc (L' := [some (.ref h), some (.int x), some (.int y), some (.int z)]) rfl ?_
  obtain ⟨hs0, hv0, hv1, hv2, hv3, hv4, hv5, hTp, hs3, hPl, hLw, hRc, hs76, hGh, hRow⟩ := id hH
  obtain ⟨rs0, rv0, rv1, rTr, rs6, rTe⟩ := id hRc
  have qs0 := rTr.1
  have ts0 := hTp.1
  have ls0 := hLw.1
  rcases hx : ixI x c with _ | i
  · skip
    have he : hReplay I h c pc u n x y z = (-1, up2 I h 8 1) := by simp [hReplay, hx]
    rw [he]
    refine r_aload_n X dX10_replay_0 rfl rfl ?_
    refine r_iload_n X dX10_replay_1 rfl rfl ?_
    refine q_callV X dX10_replay_2 mX10_153 cwX10_isTeam (c_hIsTeam GE S I V J N h c x hH hc) rfl (by assumption) rfl rfl rfl (Nat.le_of_ble_eq_true rfl) ⟨Nat.le_of_ble_eq_true rfl, Nat.le_of_ble_eq_true rfl⟩ ⟨(by first | omega | decide | (simp only [rmL, rmA]; omega)), (by first | omega | decide | (simp only [rmL, rmA]; omega))⟩ ?_
    rintro _ _ ⟨rfl, rfl⟩
    refine r_if_eq (tgt := 16) X dX10_replay_5 (by decide) (fun h5 => ?_) (fun h5 => ?_)
    · skip
      refine r_aload_n X dX10_replay_16 rfl rfl ?_
      refine r_iconst (v := 1) X dX10_replay_17 (by decide) ?_
      refine q_callV X dX10_replay_18 mX10_73 cwX10_refuse (c_hRefuse GE S I V J N h _ hs0) rfl (by assumption) rfl rfl rfl (Nat.le_of_ble_eq_true rfl) ⟨Nat.le_of_ble_eq_true rfl, Nat.le_of_ble_eq_true rfl⟩ ⟨(by first | omega | decide | (simp only [rmL, rmA]; omega)), (by first | omega | decide | (simp only [rmL, rmA]; omega))⟩ ?_
      rintro _ _ ⟨rfl, rfl⟩
      refine r_ireturn X dX10_replay_21 rfl (by first | omega | decide | (simp only [rmL, rmA]; omega)) (by first | omega | decide | (simp only [rmL, rmA]; omega)) ?_
      exact ⟨rfl, rfl⟩
    · skip
      exact (ix_f hx h5).elim
  · skip
    obtain ⟨hi, rfl⟩ := ixI_some (by omega) hx
    rcases hy : ixI y pc with _ | q
    · skip
      have he : hReplay I h c pc u n (nI i) y z = (-1, up2 I h 8 1) := by simp [hReplay, hx, hy]
      rw [he]
      refine r_aload_n X dX10_replay_0 rfl rfl ?_
      refine r_iload_n X dX10_replay_1 rfl rfl ?_
      refine q_callV X dX10_replay_2 mX10_153 cwX10_isTeam (c_hIsTeam GE S I V J N h c _ hH hc) rfl (by assumption) rfl rfl rfl (Nat.le_of_ble_eq_true rfl) ⟨Nat.le_of_ble_eq_true rfl, Nat.le_of_ble_eq_true rfl⟩ ⟨(by first | omega | decide | (simp only [rmL, rmA]; omega)), (by first | omega | decide | (simp only [rmL, rmA]; omega))⟩ ?_
      rintro _ _ ⟨rfl, rfl⟩
      refine r_if_eq (tgt := 16) X dX10_replay_5 (by decide) (fun h5 => ?_) (fun h5 => ?_)
      · skip
        exact (ix_t hx h5).elim
      · skip
        refine r_aload_n X dX10_replay_8 rfl rfl ?_
        refine r_iload_n X dX10_replay_9 rfl rfl ?_
        refine q_callV X dX10_replay_10 mX10_139 cwX10_isPlan (c_hIsPlan GE S I V J N h pc _ hH hp) rfl (by assumption) rfl rfl rfl (Nat.le_of_ble_eq_true rfl) ⟨Nat.le_of_ble_eq_true rfl, Nat.le_of_ble_eq_true rfl⟩ ⟨(by first | omega | decide | (simp only [rmL, rmA]; omega)), (by first | omega | decide | (simp only [rmL, rmA]; omega))⟩ ?_
        rintro _ _ ⟨rfl, rfl⟩
        refine r_if_ne (tgt := 22) X dX10_replay_13 (by decide) (fun h13 => ?_) (fun h13 => ?_)
        · skip
          exact (ix_f hy h13).elim
        · skip
          refine r_aload_n X dX10_replay_16 rfl rfl ?_
          refine r_iconst (v := 1) X dX10_replay_17 (by decide) ?_
          refine q_callV X dX10_replay_18 mX10_73 cwX10_refuse (c_hRefuse GE S I V J N h _ hs0) rfl (by assumption) rfl rfl rfl (Nat.le_of_ble_eq_true rfl) ⟨Nat.le_of_ble_eq_true rfl, Nat.le_of_ble_eq_true rfl⟩ ⟨(by first | omega | decide | (simp only [rmL, rmA]; omega)), (by first | omega | decide | (simp only [rmL, rmA]; omega))⟩ ?_
          rintro _ _ ⟨rfl, rfl⟩
          refine r_ireturn X dX10_replay_21 rfl (by first | omega | decide | (simp only [rmL, rmA]; omega)) (by first | omega | decide | (simp only [rmL, rmA]; omega)) ?_
          exact ⟨rfl, rfl⟩
    · skip
      obtain ⟨hq, rfl⟩ := ixI_some (by omega) hy
      by_cases hz : inB z 0 3 = true
      · skip
        have he : hReplay I h c pc u n (nI i) (nI q) z = (hRepV (hGhost I h i q u) h n z, up2 (hGhost I h i q u) h 8 0) := by simp [hReplay, hx, hy, hz]
        rw [he]
        have hTi := hT i hi
        have hTg := tm_hGhost (q := q) (u := u) hn hn12 hTi.2.1 (hG i q hi hq)
        have hgn : hGhost I h i q u (h + 9 + 1) 4 = nI n := (kp_hGhost I h i q u _ _ (by omega)).trans hn
        obtain ⟨as0, av0, av1, av2, av3, aD, aG, as8, as9⟩ := id hGh
        have ds0 := aD.1
        refine r_aload_n X dX10_replay_0 rfl rfl ?_
        refine r_iload_n X dX10_replay_1 rfl rfl ?_
        refine q_callV X dX10_replay_2 mX10_153 cwX10_isTeam (c_hIsTeam GE S I V J N h c _ hH hc) rfl (by assumption) rfl rfl rfl (Nat.le_of_ble_eq_true rfl) ⟨Nat.le_of_ble_eq_true rfl, Nat.le_of_ble_eq_true rfl⟩ ⟨(by first | omega | decide | (simp only [rmL, rmA]; omega)), (by first | omega | decide | (simp only [rmL, rmA]; omega))⟩ ?_
        rintro _ _ ⟨rfl, rfl⟩
        refine r_if_eq (tgt := 16) X dX10_replay_5 (by decide) (fun h5 => ?_) (fun h5 => ?_)
        · skip
          exact (ix_t hx h5).elim
        · skip
          refine r_aload_n X dX10_replay_8 rfl rfl ?_
          refine r_iload_n X dX10_replay_9 rfl rfl ?_
          refine q_callV X dX10_replay_10 mX10_139 cwX10_isPlan (c_hIsPlan GE S I V J N h pc _ hH hp) rfl (by assumption) rfl rfl rfl (Nat.le_of_ble_eq_true rfl) ⟨Nat.le_of_ble_eq_true rfl, Nat.le_of_ble_eq_true rfl⟩ ⟨(by first | omega | decide | (simp only [rmL, rmA]; omega)), (by first | omega | decide | (simp only [rmL, rmA]; omega))⟩ ?_
          rintro _ _ ⟨rfl, rfl⟩
          refine r_if_ne (tgt := 22) X dX10_replay_13 (by decide) (fun h13 => ?_) (fun h13 => ?_)
          · skip
            refine r_iload_n X dX10_replay_22 rfl rfl ?_
            refine r_iconst (v := 0) X dX10_replay_23 (by decide) ?_
            refine r_iconst (v := 3) X dX10_replay_24 (by decide) ?_
            refine q_callS X dX10_replay_25 mX10_77 cwX10_within (c_hWithin GE z 0 3 _) rfl rfl (Nat.le_of_ble_eq_true rfl) ⟨Nat.le_of_ble_eq_true rfl, Nat.le_of_ble_eq_true rfl⟩ ⟨(by first | omega | decide | (simp only [rmL, rmA]; omega)), (by first | omega | decide | (simp only [rmL, rmA]; omega))⟩ ?_
            rintro _ _ ⟨rfl, rfl⟩
            refine r_if_ne (tgt := 37) X dX10_replay_28 (by decide) (fun h28 => ?_) (fun h28 => ?_)
            · skip
              refine r_aload_n X dX10_replay_37 rfl rfl ?_
              refine r_iload_n X dX10_replay_38 rfl rfl ?_
              refine r_iload_n X dX10_replay_39 rfl rfl ?_
              refine q_callV X dX10_replay_40 mX10_269 cwX10_bringGhost (c_hBring GE S I V J N h i q u n hH (by omega) (by omega) hU hu hn hn12 (hO q hq) hTi.1 hTi.2.1 (hG i q hi hq)) rfl (by assumption) rfl rfl rfl (Nat.le_of_ble_eq_true rfl) ⟨Nat.le_of_ble_eq_true rfl, Nat.le_of_ble_eq_true rfl⟩ ⟨(by first | omega | decide | (simp only [rmL, rmA]; omega)), (by first | omega | decide | (simp only [rmL, rmA]; omega))⟩ ?_
              rintro _ _ ⟨rfl, rfl⟩
              refine r_iload_n X dX10_replay_43 rfl rfl ?_
              refine r_sw (0) (fun h44_0 => ?_) (fun h44_0 => ?_)
              · skip
                refine r_tableIn (off := 28) (tgt := 72) X dX10_replay_44 (by rw [h44_0]; decide) (by rw [h44_0]; decide) (by rw [h44_0]; rfl) (by decide) ?_
                refine r_aload_n X dX10_replay_72 rfl rfl ?_
                refine r_aload_n X dX10_replay_73 rfl rfl ?_
                refine r_getR X dX10_replay_74 fX10_45 (by assumption) (by assumption) ?_
                refine r_aload_n X dX10_replay_77 rfl rfl ?_
                refine r_getR X dX10_replay_78 fX10_32 (by assumption) (by assumption) ?_
                refine r_getR X dX10_replay_81 fX10_81 (by assumption) (by assumption) ?_
                refine q_callV X dX10_replay_84 mX10_188 cwX8_way (c_tWay GE S _ V J N (h + 77) (h + 9 + 1) _ hGh rTr hTg.2.2.1 (by have := hTg.2.2.2.1; omega)) rfl (by assumption) rfl rfl rfl (Nat.le_of_ble_eq_true rfl) ⟨Nat.le_of_ble_eq_true rfl, Nat.le_of_ble_eq_true rfl⟩ ⟨(by first | omega | decide | (simp only [rmL, rmA]; omega)), (by first | omega | decide | (simp only [rmL, rmA]; omega))⟩ ?_
                rintro _ _ ⟨rfl, rfl⟩
                refine q_callV X dX10_replay_87 mX10_94 cwX10_grant (c_hGrant GE S _ V J N h _ hs0) rfl (by assumption) rfl rfl rfl (Nat.le_of_ble_eq_true rfl) ⟨Nat.le_of_ble_eq_true rfl, Nat.le_of_ble_eq_true rfl⟩ ⟨(by first | omega | decide | (simp only [rmL, rmA]; omega)), (by first | omega | decide | (simp only [rmL, rmA]; omega))⟩ ?_
                rintro _ _ ⟨rfl, rfl⟩
                refine r_ireturn X dX10_replay_90 rfl (by first | omega | decide | (simp only [rmL, rmA]; omega)) (by first | omega | decide | (simp only [rmL, rmA]; omega)) ?_
                exact ⟨by simp [hRepV, *], rfl⟩
              · skip
                refine r_sw (1) (fun h44_1 => ?_) (fun h44_1 => ?_)
                · skip
                  refine r_tableIn (off := 47) (tgt := 91) X dX10_replay_44 (by rw [h44_1]; decide) (by rw [h44_1]; decide) (by rw [h44_1]; rfl) (by decide) ?_
                  refine r_aload_n X dX10_replay_91 rfl rfl ?_
                  refine r_aload_n X dX10_replay_92 rfl rfl ?_
                  refine r_getR X dX10_replay_93 fX10_45 (by assumption) (by assumption) ?_
                  refine r_getR X dX10_replay_96 fX10_192 (by assumption) (by assumption) ?_
                  refine r_getI X dX10_replay_99 fX10_196 (by assumption) (by first | assumption | rfl) ?_
                  refine q_callV X dX10_replay_102 mX10_94 cwX10_grant (c_hGrant GE S _ V J N h _ hs0) rfl (by assumption) rfl rfl rfl (Nat.le_of_ble_eq_true rfl) ⟨Nat.le_of_ble_eq_true rfl, Nat.le_of_ble_eq_true rfl⟩ ⟨(by first | omega | decide | (simp only [rmL, rmA]; omega)), (by first | omega | decide | (simp only [rmL, rmA]; omega))⟩ ?_
                  rintro _ _ ⟨rfl, rfl⟩
                  refine r_ireturn X dX10_replay_105 rfl (by first | omega | decide | (simp only [rmL, rmA]; omega)) (by first | omega | decide | (simp only [rmL, rmA]; omega)) ?_
                  exact ⟨by simp [hRepV, *], rfl⟩
                · skip
                  refine r_sw (2) (fun h44_2 => ?_) (fun h44_2 => ?_)
                  · skip
                    refine r_tableIn (off := 62) (tgt := 106) X dX10_replay_44 (by rw [h44_2]; decide) (by rw [h44_2]; decide) (by rw [h44_2]; rfl) (by decide) ?_
                    refine r_aload_n X dX10_replay_106 rfl rfl ?_
                    refine r_aload_n X dX10_replay_107 rfl rfl ?_
                    refine r_getR X dX10_replay_108 fX10_45 (by assumption) (by assumption) ?_
                    refine r_getI X dX10_replay_111 fX10_179 (by assumption) (by first | assumption | rfl) ?_
                    refine q_callV X dX10_replay_114 mX10_94 cwX10_grant (c_hGrant GE S _ V J N h _ hs0) rfl (by assumption) rfl rfl rfl (Nat.le_of_ble_eq_true rfl) ⟨Nat.le_of_ble_eq_true rfl, Nat.le_of_ble_eq_true rfl⟩ ⟨(by first | omega | decide | (simp only [rmL, rmA]; omega)), (by first | omega | decide | (simp only [rmL, rmA]; omega))⟩ ?_
                    rintro _ _ ⟨rfl, rfl⟩
                    refine r_ireturn X dX10_replay_117 rfl (by first | omega | decide | (simp only [rmL, rmA]; omega)) (by first | omega | decide | (simp only [rmL, rmA]; omega)) ?_
                    exact ⟨by simp [hRepV, *], rfl⟩
                  · skip
                    refine r_tableOut (tgt := 118) X dX10_replay_44 (by have e0 := lv_neT (a := 0) h44_0 (by decide); have e1 := lv_neT (a := 1) h44_1 (by decide); have e2 := lv_neT (a := 2) h44_2 (by decide); omega) (by decide) ?_
                    refine r_aload_n X dX10_replay_118 rfl rfl ?_
                    refine r_aload_n X dX10_replay_119 rfl rfl ?_
                    refine r_getR X dX10_replay_120 fX10_45 (by assumption) (by assumption) ?_
                    refine r_getR X dX10_replay_123 fX10_236 (by assumption) (by assumption) ?_
                    refine r_aload_n X dX10_replay_126 rfl rfl ?_
                    refine r_getR X dX10_replay_127 fX10_32 (by assumption) (by assumption) ?_
                    refine r_getR X dX10_replay_130 fX10_81 (by assumption) (by assumption) ?_
                    refine r_getI X dX10_replay_133 fX10_85 (by assumption) hgn ?_
                    refine r_ialdN X dX10_replay_136 (by assumption) (by omega) (by omega) (by first | assumption | rfl) ?_
                    refine q_callV X dX10_replay_137 mX10_94 cwX10_grant (c_hGrant GE S _ V J N h _ hs0) rfl (by assumption) rfl rfl rfl (Nat.le_of_ble_eq_true rfl) ⟨Nat.le_of_ble_eq_true rfl, Nat.le_of_ble_eq_true rfl⟩ ⟨(by first | omega | decide | (simp only [rmL, rmA]; omega)), (by first | omega | decide | (simp only [rmL, rmA]; omega))⟩ ?_
                    rintro _ _ ⟨rfl, rfl⟩
                    refine r_ireturn X dX10_replay_140 rfl (by first | omega | decide | (simp only [rmL, rmA]; omega)) (by first | omega | decide | (simp only [rmL, rmA]; omega)) ?_
                    exact ⟨by simp [hRepV, *], rfl⟩
            · skip
              exact absurd (bI_0 h28) (by rw [show (decide ((0 : Int32) ≤ z) && decide (z ≤ 3)) = true from hz]; decide)
          · skip
            exact (ix_t hy h13).elim
      · skip
        have he : hReplay I h c pc u n (nI i) (nI q) z = (-1, up2 I h 8 2) := by simp [hReplay, hx, hy, hz]
        rw [he]
        refine r_aload_n X dX10_replay_0 rfl rfl ?_
        refine r_iload_n X dX10_replay_1 rfl rfl ?_
        refine q_callV X dX10_replay_2 mX10_153 cwX10_isTeam (c_hIsTeam GE S I V J N h c _ hH hc) rfl (by assumption) rfl rfl rfl (Nat.le_of_ble_eq_true rfl) ⟨Nat.le_of_ble_eq_true rfl, Nat.le_of_ble_eq_true rfl⟩ ⟨(by first | omega | decide | (simp only [rmL, rmA]; omega)), (by first | omega | decide | (simp only [rmL, rmA]; omega))⟩ ?_
        rintro _ _ ⟨rfl, rfl⟩
        refine r_if_eq (tgt := 16) X dX10_replay_5 (by decide) (fun h5 => ?_) (fun h5 => ?_)
        · skip
          exact (ix_t hx h5).elim
        · skip
          refine r_aload_n X dX10_replay_8 rfl rfl ?_
          refine r_iload_n X dX10_replay_9 rfl rfl ?_
          refine q_callV X dX10_replay_10 mX10_139 cwX10_isPlan (c_hIsPlan GE S I V J N h pc _ hH hp) rfl (by assumption) rfl rfl rfl (Nat.le_of_ble_eq_true rfl) ⟨Nat.le_of_ble_eq_true rfl, Nat.le_of_ble_eq_true rfl⟩ ⟨(by first | omega | decide | (simp only [rmL, rmA]; omega)), (by first | omega | decide | (simp only [rmL, rmA]; omega))⟩ ?_
          rintro _ _ ⟨rfl, rfl⟩
          refine r_if_ne (tgt := 22) X dX10_replay_13 (by decide) (fun h13 => ?_) (fun h13 => ?_)
          · skip
            refine r_iload_n X dX10_replay_22 rfl rfl ?_
            refine r_iconst (v := 0) X dX10_replay_23 (by decide) ?_
            refine r_iconst (v := 3) X dX10_replay_24 (by decide) ?_
            refine q_callS X dX10_replay_25 mX10_77 cwX10_within (c_hWithin GE z 0 3 _) rfl rfl (Nat.le_of_ble_eq_true rfl) ⟨Nat.le_of_ble_eq_true rfl, Nat.le_of_ble_eq_true rfl⟩ ⟨(by first | omega | decide | (simp only [rmL, rmA]; omega)), (by first | omega | decide | (simp only [rmL, rmA]; omega))⟩ ?_
            rintro _ _ ⟨rfl, rfl⟩
            refine r_if_ne (tgt := 37) X dX10_replay_28 (by decide) (fun h28 => ?_) (fun h28 => ?_)
            · skip
              exact absurd (bI_1 h28) hz
            · skip
              refine r_aload_n X dX10_replay_31 rfl rfl ?_
              refine r_iconst (v := 2) X dX10_replay_32 (by decide) ?_
              refine q_callV X dX10_replay_33 mX10_73 cwX10_refuse (c_hRefuse GE S I V J N h _ hs0) rfl (by assumption) rfl rfl rfl (Nat.le_of_ble_eq_true rfl) ⟨Nat.le_of_ble_eq_true rfl, Nat.le_of_ble_eq_true rfl⟩ ⟨(by first | omega | decide | (simp only [rmL, rmA]; omega)), (by first | omega | decide | (simp only [rmL, rmA]; omega))⟩ ?_
              rintro _ _ ⟨rfl, rfl⟩
              refine r_ireturn X dX10_replay_36 rfl (by first | omega | decide | (simp only [rmL, rmA]; omega)) (by first | omega | decide | (simp only [rmL, rmA]; omega)) ?_
              exact ⟨rfl, rfl⟩
          · skip
            exact (ix_t hy h13).elim
