/-! ===== the reference: replay ===== -/
theorem mPuts_f (I : Mem) (t : Nat) (m l f s p : Int32) : mPuts I t m l f s p t 0 = m ∧ mPuts I t m l f s p t 1 = l ∧ mPuts I t m l f s p t 2 = f ∧ mPuts I t m l f s p t 3 = s ∧ mPuts I t m l f s p t 4 = p ∧ mPuts I t m l f s p t 5 = 0 ∧ mPuts I t m l f s p t 6 = 0 ∧ mPuts I t m l f s p t 7 = 0 ∧ mPuts I t m l f s p t 8 = 0 ∧ mPuts I t m l f s p t 9 = 0 ∧ mPuts I t m l f s p t 10 = -1 ∧ mPuts I t m l f s p t 11 = 0 ∧ mPuts I t m l f s p t 12 = 0 ∧ mPuts I t m l f s p t 13 = l ∧ mPuts I t m l f s p t 14 = f := by
  unfold mPuts
  simp [up2]
theorem mBegin_f (I : Mem) (t : Nat) (m l f s p : Int32) (k : Nat) : mBegin I t m l f s p t k = mPuts I t m l f s p t k := by
  rw [mBegin, mClr_a (by omega), dBeg_a (by omega)]
theorem dBeg_2 {I : Mem} {d k : Nat} : ∀ j, k < j → dBeg I d j (d + 2) k = 0
  | 0, h => by omega
  | j + 1, h => by
    rw [dBeg]
    by_cases hk : k = j
    · subst hk
      first
        | (rw [up2_a (by omega), up2_same]; done)
        | (rw [up2_same]; done)
        | (rw [up2_a (by omega), up2_a (by omega), up2_same]; done)
    · have ih := dBeg_2 (I := I) (d := d) j (show k < j by omega)
      first
        | (rw [up2_a (by omega), up2_k hk, up2_a (by omega)]; exact ih)
        | (rw [up2_k hk, up2_a (by omega), up2_a (by omega)]; exact ih)
        | (rw [up2_a (by omega), up2_a (by omega), up2_k hk]; exact ih)
theorem mtg_begin {I : Mem} {t m n np ow u : Nat} {f s : Int32} {p : Nat} (hm : m ≤ 16) (hm0 : 0 < m) (how : ow ≤ 300) (hp : p < np) (hnp : np ≤ 8) (hn : 0 < n) : MtG (mBegin I t (nI m) (nI ow) f s (nI p)) t n np u := by
  obtain ⟨b0, b1, b2, b3, b4, b5, b6, b7, b8, b9, b10, b11, b12, b13, b14⟩ := mPuts_f I t (nI m) (nI ow) f s (nI p)
  have ef := mBegin_f I t (nI m) (nI ow) f s (nI p)
  have f0 : mD (mBegin I t (nI m) (nI ow) f s (nI p)) t = m := by rw [mD, ef, b0]; exact nI_clamp (by omega)
  have f4 : mPl (mBegin I t (nI m) (nI ow) f s (nI p)) t = p := by rw [mPl, ef, b4]; exact nI_clamp (by omega)
  have f11 : mSg (mBegin I t (nI m) (nI ow) f s (nI p)) t = 0 := by rw [mSg, ef, b11]; rfl
  have f12 : mG (mBegin I t (nI m) (nI ow) f s (nI p)) t = 0 := by rw [mG, ef, b12]; rfl
  have f13 : mOw (mBegin I t (nI m) (nI ow) f s (nI p)) t = ow := by rw [mOw, ef, b13]; exact nI_clamp (by omega)
  refine ⟨?_, ?_, ?_, ?_, ?_, ?_, ?_, ?_, ?_, ?_, ?_⟩
  · rw [f0, ef, b0]
  · rw [f0]; exact hm
  · rw [f13, ef, b13]
  · rw [f13]; exact how
  · rw [f4, ef, b4]
  · rw [f4]; exact hp
  · rw [f12, ef, b12]; rfl
  · rw [f12]; omega
  · rw [f11, ef, b11]; rfl
  · rw [f11]; omega
  · rw [f0]
    refine ⟨0, by rw [ef, b6]; rfl, by omega, fun _ => ⟨hn, 0, hm0, ?_⟩⟩
    rw [mBegin, mClr_a (by omega), dBeg_2 _ (by omega)]
def mGh (I : Mem) (g i n : Nat) (p : Int32) : Nat → Mem
  | 0 => mBegin I (g + 9) (I (mt g i) 0) (I (mt g i) 13) (I (mt g i) 14) (I (mt g i) 3) p
  | s + 1 => mLd (mGh I g i n p s) g (g + 9) n s
theorem kp_mGh {I : Mem} {g i n : Nat} {p : Int32} : ∀ s, Kp (fun b _ => b < g + 9 ∨ g + 18 < b) I (mGh I g i n p s)
  | 0 => fun b k h => mBegin_a (by omega)
  | s + 1 => (kp_mGh s).trans (Kp.mono (P := PM (g + 9)) kpm_lead (fun b k h => by unfold PM; omega))
theorem MS.other {g c e n np u : Nat} {S : Nat → Option (Nat × Nat)} {I I' : Mem} {V : Nat → Nat → Option Nat} (HM : MS g c e n np u S I V) (hk : Kp (fun b _ => b < g + 9 ∨ g + 18 < b) I I') : MS g c e n np u S I' V := by
  obtain ⟨hM, hR, h0, hc, hc6, he, he0, he48, hu, hu2, hn, hn12, hnp, hnp8, hPl, hHd, hTg⟩ := id HM
  refine HM.mem (fun k _ => hk _ _ (by omega)) ((hk _ _ (by omega)).trans hu) hu2 (fun b k h1 h2 h3 => hk _ _ (by omega)) (fun i hi => (hTg i hi).far (fun b k h1 h2 => hk _ _ (by have := mt_e g i; omega)))
theorem mtg_gh {g c e n np u i p : Nat} {S : Nat → Option (Nat × Nat)} {I : Mem} {V : Nat → Nat → Option Nat} (HM : MS g c e n np u S I V) (hi : i < c) (hm0 : 0 < mD I (mt g i)) (hn0 : 0 < n) (hp : p < np) : ∀ s, MtG (mGh I g i n (nI p) s) (g + 9) n np u
  | 0 => by
    obtain ⟨hM, hR, h0, hc, hc6, he, he0, he48, hu, hu2, hn, hn12, hnp, hnp8, hPl, hHd, hTg⟩ := id HM
    obtain ⟨a1, a2, a3, a4, -⟩ := hTg i hi
    rw [mGh, a1, a3]
    exact mtg_begin a2 hm0 a4 hp hnp8 hn0
  | s + 1 => mtg_ld (mtg_gh HM hi hm0 hn0 hp s) HM.2.2.2.2.2.2.2.2.2.2.2.1
def mGhA (I : Mem) (g n : Nat) (x : Int32) : Int32 := if x = 0 then mWay I g (g + 9) (mLn I (g + 9)) else if x = 1 then mOf I (g + 9) 0 (mD I (g + 9)) else if x = 2 then I (g + 9) 5 else I (g + 9 + 4) n
def mReplay (I : Mem) (g c np n u : Nat) (x y z : Int32) : Int32 × Mem := match ixI x c with
  | none => (-1, mTrb I g 1)
  | some i => match ixI y np with
    | none => (-1, mTrb I g 1)
    | some _ => if inB z 0 3 = true then (mGhA (mGh I g i n y u) g n z, mTrb (mGh I g i n y u) g 0) else (-1, mTrb I g 2)
set_option maxHeartbeats 2000000 in
set_option maxRecDepth 20000 in
/-- SledHouseModel.replay -/
theorem c_mReplay {E : Ev} (GE : Glob E) (S : Nat → Option (Nat × Nat)) (I : Nat → Nat → Int32) (V : Nat → Nat → Option Nat) (J : Nat → Nat → Int64) (N : Nat) (g c e n np u : Nat) (x y z : Int32) (HM : MS g c e n np u S I V) (hm0 : ∀ i, i < c → 0 < mD I (mt g i)) (hn0 : 0 < c → 0 < n) : Ct E yX13_replay cX13_replay 6 (some .int) (rmL 5) [.ref g, .int x, .int y, .int z] (S, I, V, J, N) (fun v w' => v = some (.int (mReplay I g c np n u x y z).1) ∧ w' = (S, (mReplay I g c np n u x y z).2, V, J, N)) := by
  refine Ct.start GE (by decide) rfl (Nat.le_of_ble_eq_true rfl) (fun M X => ?_)
  have X : Cx E M RX13 cX13_replay 6 (rmL 5) (some .int) "replay" := X
  refine r_loc (L' := [some (.ref g), some (.int x), some (.int y), some (.int z), none, none]) rfl ?_
  obtain ⟨hM, hR, h0, hc, hc6, he, he0, he48, hu, hu2, hn, hn12, hnp, hnp8, hPl, hHd, hTg⟩ := id HM
  obtain ⟨hs0, v8, v9, v10, v11, v16, v17, v18, v19, v20, s1, s2, s3, s4, s5, s6, s7, s8, hOt, hTe, hKt⟩ := id hM
  rcases hx : ixI x c with _ | i
  · skip
    have eR : mReplay I g c np n u x y z = (-1, mTrb I g 1) := by simp only [mReplay, hx]
    rw [eR]
    refine r_aload_n X dX13_replay_0 rfl rfl ?_
    refine r_iconst (v := 0) X dX13_replay_1 (by decide) ?_
    refine r_putI X dX13_replay_2 fX13_1 wX13_1 (by assumption) rfl rfl ?_
    refine r_world (w' := (S, I, V, J, N)) (by rw [up2_id I h0]) ?_
    refine r_aload_n X dX13_replay_5 rfl rfl ?_
    refine r_iload_n X dX13_replay_6 rfl rfl ?_
    refine q_callV X dX13_replay_7 mX13_286 cwX13_isTeam (c_mIsTeam GE S I V J N g c x hs0 hc) rfl (by assumption) rfl rfl rfl (Nat.le_of_ble_eq_true rfl) ⟨Nat.le_of_ble_eq_true rfl, Nat.le_of_ble_eq_true rfl⟩ ⟨(by first | omega | decide | (simp only [rmL, rmA]; omega)), (by first | omega | decide | (simp only [rmL, rmA]; omega))⟩ ?_
    rintro _ _ ⟨rfl, rfl⟩
    refine r_if_eq (tgt := 21) X dX13_replay_10 (by decide) (fun h10 => ?_) (fun h10 => ?_)
    · skip
      refine r_aload_n X dX13_replay_21 rfl rfl ?_
      refine r_iconst (v := 1) X dX13_replay_22 (by decide) ?_
      refine q_callV X dX13_replay_23 mX13_121 cwX13_refused (c_mRefused GE S I V J N g _ hs0) rfl (by assumption) rfl rfl rfl (Nat.le_of_ble_eq_true rfl) ⟨Nat.le_of_ble_eq_true rfl, Nat.le_of_ble_eq_true rfl⟩ ⟨(by first | omega | decide | (simp only [rmL, rmA]; omega)), (by first | omega | decide | (simp only [rmL, rmA]; omega))⟩ ?_
      rintro _ _ ⟨rfl, rfl⟩
      refine r_ireturn X dX13_replay_26 rfl (by first | omega | decide | (simp only [rmL, rmA]; omega)) (by first | omega | decide | (simp only [rmL, rmA]; omega)) ?_
      exact ⟨rfl, rfl⟩
    · skip
      exact (ix_f hx h10).elim
  · obtain ⟨hi, rfl⟩ := ixI_some (by omega) hx
    rcases hy : ixI y np with _ | p
    · skip
      have eR : mReplay I g c np n u (nI i) y z = (-1, mTrb I g 1) := by simp only [mReplay, hx, hy]
      rw [eR]
      refine r_aload_n X dX13_replay_0 rfl rfl ?_
      refine r_iconst (v := 0) X dX13_replay_1 (by decide) ?_
      refine r_putI X dX13_replay_2 fX13_1 wX13_1 (by assumption) rfl rfl ?_
      refine r_world (w' := (S, I, V, J, N)) (by rw [up2_id I h0]) ?_
      refine r_aload_n X dX13_replay_5 rfl rfl ?_
      refine r_iload_n X dX13_replay_6 rfl rfl ?_
      refine q_callV X dX13_replay_7 mX13_286 cwX13_isTeam (c_mIsTeam GE S I V J N g c _ hs0 hc) rfl (by assumption) rfl rfl rfl (Nat.le_of_ble_eq_true rfl) ⟨Nat.le_of_ble_eq_true rfl, Nat.le_of_ble_eq_true rfl⟩ ⟨(by first | omega | decide | (simp only [rmL, rmA]; omega)), (by first | omega | decide | (simp only [rmL, rmA]; omega))⟩ ?_
      rintro _ _ ⟨rfl, rfl⟩
      refine r_if_eq (tgt := 21) X dX13_replay_10 (by decide) (fun h10 => ?_) (fun h10 => ?_)
      · skip
        exact (ix_t hx h10).elim
      · skip
        refine r_aload_n X dX13_replay_13 rfl rfl ?_
        refine r_iload_n X dX13_replay_14 rfl rfl ?_
        refine q_callV X dX13_replay_15 mX13_279 cwX13_isPlan (c_mIsPlan GE S I V J N g np _ hs0 hnp) rfl (by assumption) rfl rfl rfl (Nat.le_of_ble_eq_true rfl) ⟨Nat.le_of_ble_eq_true rfl, Nat.le_of_ble_eq_true rfl⟩ ⟨(by first | omega | decide | (simp only [rmL, rmA]; omega)), (by first | omega | decide | (simp only [rmL, rmA]; omega))⟩ ?_
        rintro _ _ ⟨rfl, rfl⟩
        refine r_if_ne (tgt := 27) X dX13_replay_18 (by decide) (fun h18 => ?_) (fun h18 => ?_)
        · skip
          exact (ix_f hy h18).elim
        · skip
          refine r_aload_n X dX13_replay_21 rfl rfl ?_
          refine r_iconst (v := 1) X dX13_replay_22 (by decide) ?_
          refine q_callV X dX13_replay_23 mX13_121 cwX13_refused (c_mRefused GE S I V J N g _ hs0) rfl (by assumption) rfl rfl rfl (Nat.le_of_ble_eq_true rfl) ⟨Nat.le_of_ble_eq_true rfl, Nat.le_of_ble_eq_true rfl⟩ ⟨(by first | omega | decide | (simp only [rmL, rmA]; omega)), (by first | omega | decide | (simp only [rmL, rmA]; omega))⟩ ?_
          rintro _ _ ⟨rfl, rfl⟩
          refine r_ireturn X dX13_replay_26 rfl (by first | omega | decide | (simp only [rmL, rmA]; omega)) (by first | omega | decide | (simp only [rmL, rmA]; omega)) ?_
          exact ⟨rfl, rfl⟩
    · obtain ⟨hp, rfl⟩ := ixI_some (by omega) hy
      have te1 := (hTe i (by omega)).1
      have hT := (hTe i (by omega)).2
      have ts0 := hT.1
      have eR : mReplay I g c np n u (nI i) (nI p) z = if inB z 0 3 = true then (mGhA (mGh I g i n (nI p) u) g n z, mTrb (mGh I g i n (nI p) u) g 0) else (-1, mTrb I g 2) := by simp only [mReplay, hx, hy]
      rw [eR]
      have H : inB z 0 3 = true → ∀ s, s ≤ u → ∀ x4, G E M 0 0 (qQ E M (rmL 5) (fun v w' => v = some (.int (mGhA (mGh I g i n (nI p) u) g n z)) ∧ w' = (S, mTrb (mGh I g i n (nI p) u) g 0, V, J, N))) 81 [some (.ref g), some (.int (nI i)), some (.int (nI p)), some (.int z), some (.ref x4), some (.int (nI s))] [] (S, mGh I g i n (nI p) s, V, J, N) := by
        intro hz
        refine loopN u (fun s hs ih => ?_)
        intro x4
        have HO := HM.other (kp_mGh (I := I) (g := g) (i := i) (n := n) (p := nI p) s)
        have HG := mtg_gh HM hi (hm0 i hi) (hn0 (by omega)) hp s
        have eJ : mGh I g i n (nI p) (s + 1) = mLd (mGh I g i n (nI p) s) g (g + 9) n s := rfl
        rw [eJ] at ih
        have eU : s = u → mGh I g i n (nI p) u = mGh I g i n (nI p) s := fun q => by rw [q]
        generalize mGh I g i n (nI p) s = Is at *
        generalize mGh I g i n (nI p) u = Iu at *
        obtain ⟨-, -, k0, kc, -, ke, -, -, ku, -, kn, -, knp, -, kPl, kHd, kTg⟩ := id HO
        obtain ⟨a1, a2, -⟩ := id HG
        obtain ⟨b1, b2, b3⟩ := HG.ln hn12
        have os0 := hOt.1
        have ov18 := hOt.2.2.2.2.1
        have os4 : S (g + 9 + 4) = some (100, 13) := hOt.2.2.2.2.2.2.2.2.2.2.2.2.2.1
        refine r_iload X dX13_replay_81 rfl ?_
        refine r_aload_n X dX13_replay_83 rfl rfl ?_
        refine r_getI X dX13_replay_84 fX13_100 (by assumption) ku ?_
        refine r_icmpN_ge (tgt := 106) X dX13_replay_87 (by decide) (by omega) (by omega) (fun h87 => ?_) (fun h87 => ?_)
        · skip
          refine r_aload_n X dX13_replay_106 rfl rfl ?_
          refine r_iload_n X dX13_replay_107 rfl rfl ?_
          refine r_if_ne (tgt := 122) X dX13_replay_108 (by decide) (fun h108 => ?_) (fun h108 => ?_)
          · skip
            refine r_iload_n X dX13_replay_122 rfl rfl ?_
            refine r_iconst (v := 1) X dX13_replay_123 (by decide) ?_
            refine r_icmp_ne (tgt := 138) X dX13_replay_124 (by decide) (fun h124 => ?_) (fun h124 => ?_)
            · skip
              refine r_iload_n X dX13_replay_138 rfl rfl ?_
              refine r_iconst (v := 2) X dX13_replay_139 (by decide) ?_
              refine r_icmp_ne (tgt := 153) X dX13_replay_140 (by decide) (fun h140 => ?_) (fun h140 => ?_)
              · skip
                refine r_aload_n X dX13_replay_153 rfl rfl ?_
                refine r_getR X dX13_replay_154 fX13_54 (by assumption) (by assumption) ?_
                refine r_getR X dX13_replay_157 fX13_335 (by assumption) ov18 ?_
                refine r_aload_n X dX13_replay_160 rfl rfl ?_
                refine r_getI X dX13_replay_161 fX13_91 (by assumption) kn ?_
                refine r_ialdN X dX13_replay_164 os4 (by omega) (by omega) (by first | assumption | rfl) ?_
                have eA : ∀ y, y = mGhA Iu g n z → G E M 0 0 (qQ E M (rmL 5) (fun v w' => v = some (.int (mGhA Iu g n z)) ∧ w' = (S, mTrb Iu g 0, V, J, N))) 165 [some (.ref g), some (.int (nI i)), some (.int (nI p)), some (.int z), some (.ref x4), some (.int (nI s))] [.int y, .ref g] (S, Is, V, J, N) := by
                  intro y hy
                  rw [hy]
                  refine q_callV X dX13_replay_165 mX13_129 cwX13_done (c_mDone GE S _ V J N g _ hs0) rfl (hs0) rfl rfl rfl (Nat.le_of_ble_eq_true rfl) ⟨Nat.le_of_ble_eq_true rfl, Nat.le_of_ble_eq_true rfl⟩ ⟨(by first | omega | decide | (simp only [rmL, rmA]; omega)), (by first | omega | decide | (simp only [rmL, rmA]; omega))⟩ ?_
                  rintro _ _ ⟨rfl, rfl⟩
                  refine r_ireturn X dX13_replay_168 rfl (by first | omega | decide | (simp only [rmL, rmA]; omega)) (by first | omega | decide | (simp only [rmL, rmA]; omega)) ?_
                  exact ⟨rfl, by rw [eU (by omega)]⟩
                have eU' := eU (by omega)
                first
                  | (have z0 : z = 0 := h108
                     exact eA _ (by rw [mGhA, if_pos z0, eU']))
                  | (have z0 : ¬ z = 0 := h108
                     have z1 : z = 1 := h124
                     exact eA _ (by rw [mGhA, if_neg z0, if_pos z1, eU']))
                  | (have z0 : ¬ z = 0 := h108
                     have z1 : ¬ z = 1 := h124
                     have z2 : z = 2 := h140
                     exact eA _ (by rw [mGhA, if_neg z0, if_neg z1, if_pos z2, eU']))
                  | (have z0 : ¬ z = 0 := h108
                     have z1 : ¬ z = 1 := h124
                     have z2 : ¬ z = 2 := h140
                     exact eA _ (by rw [mGhA, if_neg z0, if_neg z1, if_neg z2, eU']))
              · skip
                refine r_aload_n X dX13_replay_143 rfl rfl ?_
                refine r_getR X dX13_replay_144 fX13_54 (by assumption) (by assumption) ?_
                refine r_getI X dX13_replay_147 fX13_289 (by assumption) (by first | assumption | rfl) ?_
                refine r_goto (tgt := 165) X dX13_replay_150 (by decide) ?_
                have eA : ∀ y, y = mGhA Iu g n z → G E M 0 0 (qQ E M (rmL 5) (fun v w' => v = some (.int (mGhA Iu g n z)) ∧ w' = (S, mTrb Iu g 0, V, J, N))) 165 [some (.ref g), some (.int (nI i)), some (.int (nI p)), some (.int z), some (.ref x4), some (.int (nI s))] [.int y, .ref g] (S, Is, V, J, N) := by
                  intro y hy
                  rw [hy]
                  refine q_callV X dX13_replay_165 mX13_129 cwX13_done (c_mDone GE S _ V J N g _ hs0) rfl (hs0) rfl rfl rfl (Nat.le_of_ble_eq_true rfl) ⟨Nat.le_of_ble_eq_true rfl, Nat.le_of_ble_eq_true rfl⟩ ⟨(by first | omega | decide | (simp only [rmL, rmA]; omega)), (by first | omega | decide | (simp only [rmL, rmA]; omega))⟩ ?_
                  rintro _ _ ⟨rfl, rfl⟩
                  refine r_ireturn X dX13_replay_168 rfl (by first | omega | decide | (simp only [rmL, rmA]; omega)) (by first | omega | decide | (simp only [rmL, rmA]; omega)) ?_
                  exact ⟨rfl, by rw [eU (by omega)]⟩
                have eU' := eU (by omega)
                first
                  | (have z0 : z = 0 := h108
                     exact eA _ (by rw [mGhA, if_pos z0, eU']))
                  | (have z0 : ¬ z = 0 := h108
                     have z1 : z = 1 := h124
                     exact eA _ (by rw [mGhA, if_neg z0, if_pos z1, eU']))
                  | (have z0 : ¬ z = 0 := h108
                     have z1 : ¬ z = 1 := h124
                     have z2 : z = 2 := h140
                     exact eA _ (by rw [mGhA, if_neg z0, if_neg z1, if_pos z2, eU']))
                  | (have z0 : ¬ z = 0 := h108
                     have z1 : ¬ z = 1 := h124
                     have z2 : ¬ z = 2 := h140
                     exact eA _ (by rw [mGhA, if_neg z0, if_neg z1, if_neg z2, eU']))
            · skip
              refine r_aload_n X dX13_replay_127 rfl rfl ?_
              refine r_getR X dX13_replay_128 fX13_54 (by assumption) (by assumption) ?_
              refine r_iconst (v := 0) X dX13_replay_131 (by decide) ?_
              refine q_callV X dX13_replay_132 mX13_324 cwX12_of (c_mOf GE S _ V J N (g + 9) _ _ hOt a1 a2) rfl (os0) rfl rfl rfl (Nat.le_of_ble_eq_true rfl) ⟨Nat.le_of_ble_eq_true rfl, Nat.le_of_ble_eq_true rfl⟩ ⟨(by first | omega | decide | (simp only [rmL, rmA]; omega)), (by first | omega | decide | (simp only [rmL, rmA]; omega))⟩ ?_
              rintro _ _ ⟨rfl, rfl⟩
              refine r_goto (tgt := 165) X dX13_replay_135 (by decide) ?_
              have eA : ∀ y, y = mGhA Iu g n z → G E M 0 0 (qQ E M (rmL 5) (fun v w' => v = some (.int (mGhA Iu g n z)) ∧ w' = (S, mTrb Iu g 0, V, J, N))) 165 [some (.ref g), some (.int (nI i)), some (.int (nI p)), some (.int z), some (.ref x4), some (.int (nI s))] [.int y, .ref g] (S, Is, V, J, N) := by
                intro y hy
                rw [hy]
                refine q_callV X dX13_replay_165 mX13_129 cwX13_done (c_mDone GE S _ V J N g _ hs0) rfl (hs0) rfl rfl rfl (Nat.le_of_ble_eq_true rfl) ⟨Nat.le_of_ble_eq_true rfl, Nat.le_of_ble_eq_true rfl⟩ ⟨(by first | omega | decide | (simp only [rmL, rmA]; omega)), (by first | omega | decide | (simp only [rmL, rmA]; omega))⟩ ?_
                rintro _ _ ⟨rfl, rfl⟩
                refine r_ireturn X dX13_replay_168 rfl (by first | omega | decide | (simp only [rmL, rmA]; omega)) (by first | omega | decide | (simp only [rmL, rmA]; omega)) ?_
                exact ⟨rfl, by rw [eU (by omega)]⟩
              have eU' := eU (by omega)
              first
                | (have z0 : z = 0 := h108
                   exact eA _ (by rw [mGhA, if_pos z0, eU']))
                | (have z0 : ¬ z = 0 := h108
                   have z1 : z = 1 := h124
                   exact eA _ (by rw [mGhA, if_neg z0, if_pos z1, eU']))
                | (have z0 : ¬ z = 0 := h108
                   have z1 : ¬ z = 1 := h124
                   have z2 : z = 2 := h140
                   exact eA _ (by rw [mGhA, if_neg z0, if_neg z1, if_pos z2, eU']))
                | (have z0 : ¬ z = 0 := h108
                   have z1 : ¬ z = 1 := h124
                   have z2 : ¬ z = 2 := h140
                   exact eA _ (by rw [mGhA, if_neg z0, if_neg z1, if_neg z2, eU']))
          · skip
            refine r_aload_n X dX13_replay_111 rfl rfl ?_
            refine r_aload_n X dX13_replay_112 rfl rfl ?_
            refine r_getR X dX13_replay_113 fX13_54 (by assumption) (by assumption) ?_
            refine q_callV X dX13_replay_116 mX13_391 cwX13_way (c_mWay GE S _ V J N g (g + 9) _ hM hOt b1 (by omega)) rfl (by assumption) rfl rfl rfl (Nat.le_of_ble_eq_true rfl) ⟨Nat.le_of_ble_eq_true rfl, Nat.le_of_ble_eq_true rfl⟩ ⟨(by first | omega | decide | (simp only [rmL, rmA]; omega)), (by first | omega | decide | (simp only [rmL, rmA]; omega))⟩ ?_
            rintro _ _ ⟨rfl, rfl⟩
            refine r_goto (tgt := 165) X dX13_replay_119 (by decide) ?_
            have eA : ∀ y, y = mGhA Iu g n z → G E M 0 0 (qQ E M (rmL 5) (fun v w' => v = some (.int (mGhA Iu g n z)) ∧ w' = (S, mTrb Iu g 0, V, J, N))) 165 [some (.ref g), some (.int (nI i)), some (.int (nI p)), some (.int z), some (.ref x4), some (.int (nI s))] [.int y, .ref g] (S, Is, V, J, N) := by
              intro y hy
              rw [hy]
              refine q_callV X dX13_replay_165 mX13_129 cwX13_done (c_mDone GE S _ V J N g _ hs0) rfl (hs0) rfl rfl rfl (Nat.le_of_ble_eq_true rfl) ⟨Nat.le_of_ble_eq_true rfl, Nat.le_of_ble_eq_true rfl⟩ ⟨(by first | omega | decide | (simp only [rmL, rmA]; omega)), (by first | omega | decide | (simp only [rmL, rmA]; omega))⟩ ?_
              rintro _ _ ⟨rfl, rfl⟩
              refine r_ireturn X dX13_replay_168 rfl (by first | omega | decide | (simp only [rmL, rmA]; omega)) (by first | omega | decide | (simp only [rmL, rmA]; omega)) ?_
              exact ⟨rfl, by rw [eU (by omega)]⟩
            have eU' := eU (by omega)
            first
              | (have z0 : z = 0 := h108
                 exact eA _ (by rw [mGhA, if_pos z0, eU']))
              | (have z0 : ¬ z = 0 := h108
                 have z1 : z = 1 := h124
                 exact eA _ (by rw [mGhA, if_neg z0, if_pos z1, eU']))
              | (have z0 : ¬ z = 0 := h108
                 have z1 : ¬ z = 1 := h124
                 have z2 : z = 2 := h140
                 exact eA _ (by rw [mGhA, if_neg z0, if_neg z1, if_pos z2, eU']))
              | (have z0 : ¬ z = 0 := h108
                 have z1 : ¬ z = 1 := h124
                 have z2 : ¬ z = 2 := h140
                 exact eA _ (by rw [mGhA, if_neg z0, if_neg z1, if_neg z2, eU']))
        · skip
          refine r_aload_n X dX13_replay_90 rfl rfl ?_
          refine r_aload_n X dX13_replay_91 rfl rfl ?_
          refine r_getR X dX13_replay_92 fX13_54 (by assumption) (by assumption) ?_
          refine r_iload X dX13_replay_95 rfl ?_
          refine q_callV X dX13_replay_97 mX13_375 cwX13_leads (c_mLd GE S _ V J N g (g + 9) c e n np u u s HO hOt (by omega) (by omega) HG (by omega)) rfl (hs0) rfl rfl rfl (Nat.le_of_ble_eq_true rfl) ⟨Nat.le_of_ble_eq_true rfl, Nat.le_of_ble_eq_true rfl⟩ ⟨(by first | omega | decide | (simp only [rmL, rmA]; omega)), (by first | omega | decide | (simp only [rmL, rmA]; omega))⟩ ?_
          rintro _ _ ⟨rfl, rfl⟩
          first | refine r_iincN X dX13_replay_100 rfl (by decide) rfl ?_ | refine r_iinc X dX13_replay_100 rfl rfl (by decide) rfl ?_
          refine r_goto (tgt := 81) X dX13_replay_103 (by decide) ?_
          exact ih (by omega) _
      refine r_aload_n X dX13_replay_0 rfl rfl ?_
      refine r_iconst (v := 0) X dX13_replay_1 (by decide) ?_
      refine r_putI X dX13_replay_2 fX13_1 wX13_1 (by assumption) rfl rfl ?_
      refine r_world (w' := (S, I, V, J, N)) (by rw [up2_id I h0]) ?_
      refine r_aload_n X dX13_replay_5 rfl rfl ?_
      refine r_iload_n X dX13_replay_6 rfl rfl ?_
      refine q_callV X dX13_replay_7 mX13_286 cwX13_isTeam (c_mIsTeam GE S I V J N g c _ hs0 hc) rfl (by assumption) rfl rfl rfl (Nat.le_of_ble_eq_true rfl) ⟨Nat.le_of_ble_eq_true rfl, Nat.le_of_ble_eq_true rfl⟩ ⟨(by first | omega | decide | (simp only [rmL, rmA]; omega)), (by first | omega | decide | (simp only [rmL, rmA]; omega))⟩ ?_
      rintro _ _ ⟨rfl, rfl⟩
      refine r_if_eq (tgt := 21) X dX13_replay_10 (by decide) (fun h10 => ?_) (fun h10 => ?_)
      · skip
        exact (ix_t hx h10).elim
      · skip
        refine r_aload_n X dX13_replay_13 rfl rfl ?_
        refine r_iload_n X dX13_replay_14 rfl rfl ?_
        refine q_callV X dX13_replay_15 mX13_279 cwX13_isPlan (c_mIsPlan GE S I V J N g np _ hs0 hnp) rfl (by assumption) rfl rfl rfl (Nat.le_of_ble_eq_true rfl) ⟨Nat.le_of_ble_eq_true rfl, Nat.le_of_ble_eq_true rfl⟩ ⟨(by first | omega | decide | (simp only [rmL, rmA]; omega)), (by first | omega | decide | (simp only [rmL, rmA]; omega))⟩ ?_
        rintro _ _ ⟨rfl, rfl⟩
        refine r_if_ne (tgt := 27) X dX13_replay_18 (by decide) (fun h18 => ?_) (fun h18 => ?_)
        · skip
          refine r_iload_n X dX13_replay_27 rfl rfl ?_
          refine r_iconst (v := 0) X dX13_replay_28 (by decide) ?_
          refine r_iconst (v := 3) X dX13_replay_29 (by decide) ?_
          refine q_callS X dX13_replay_30 mX13_125 cwX13_in (c_mIn GE _ _ _ _) rfl rfl (Nat.le_of_ble_eq_true rfl) ⟨Nat.le_of_ble_eq_true rfl, Nat.le_of_ble_eq_true rfl⟩ ⟨(by first | omega | decide | (simp only [rmL, rmA]; omega)), (by first | omega | decide | (simp only [rmL, rmA]; omega))⟩ ?_
          rintro _ _ ⟨rfl, rfl⟩
          refine r_if_ne (tgt := 42) X dX13_replay_33 (by decide) (fun h33 => ?_) (fun h33 => ?_)
          · skip
            refine r_aload_n X dX13_replay_42 rfl rfl ?_
            refine r_getR X dX13_replay_43 fX13_34 (by assumption) (by assumption) ?_
            refine r_iload_n X dX13_replay_46 rfl rfl ?_
            refine r_aaldN X dX13_replay_47 (by assumption) (by decide) rfl (by omega) (by omega) (by assumption) ?_
            refine r_astore X dX13_replay_48 (by decide) rfl ?_
            refine r_aload_n X dX13_replay_50 rfl rfl ?_
            refine r_getR X dX13_replay_51 fX13_54 (by assumption) (by assumption) ?_
            refine r_aload X dX13_replay_54 rfl ?_
            refine r_getI X dX13_replay_56 fX13_361 (by assumption) rfl ?_
            refine r_aload X dX13_replay_59 rfl ?_
            refine r_getI X dX13_replay_61 fX13_369 (by assumption) rfl ?_
            refine r_aload X dX13_replay_64 rfl ?_
            refine r_getI X dX13_replay_66 fX13_415 (by assumption) rfl ?_
            refine r_aload X dX13_replay_69 rfl ?_
            refine r_getI X dX13_replay_71 fX13_333 (by assumption) rfl ?_
            refine r_iload_n X dX13_replay_74 rfl rfl ?_
            refine q_callV X dX13_replay_75 mX13_282 cwX12_begin (c_mBegin GE S I V J N (g + 9) _ _ _ _ _ hOt) rfl (hOt.1) rfl rfl rfl (Nat.le_of_ble_eq_true rfl) ⟨Nat.le_of_ble_eq_true rfl, Nat.le_of_ble_eq_true rfl⟩ ⟨(by first | omega | decide | (simp only [rmL, rmA]; omega)), (by first | omega | decide | (simp only [rmL, rmA]; omega))⟩ ?_
            rintro _ _ ⟨rfl, rfl⟩
            refine r_iconst (v := nI 0) X dX13_replay_78 (by decide) ?_
            refine r_istore X dX13_replay_79 (by decide) rfl ?_
            rw [if_pos (bI_1 h33)]
            exact H (bI_1 h33) 0 (by omega) _
          · skip
            refine r_aload_n X dX13_replay_36 rfl rfl ?_
            refine r_iconst (v := 2) X dX13_replay_37 (by decide) ?_
            refine q_callV X dX13_replay_38 mX13_121 cwX13_refused (c_mRefused GE S I V J N g _ hs0) rfl (by assumption) rfl rfl rfl (Nat.le_of_ble_eq_true rfl) ⟨Nat.le_of_ble_eq_true rfl, Nat.le_of_ble_eq_true rfl⟩ ⟨(by first | omega | decide | (simp only [rmL, rmA]; omega)), (by first | omega | decide | (simp only [rmL, rmA]; omega))⟩ ?_
            rintro _ _ ⟨rfl, rfl⟩
            refine r_ireturn X dX13_replay_41 rfl (by first | omega | decide | (simp only [rmL, rmA]; omega)) (by first | omega | decide | (simp only [rmL, rmA]; omega)) ?_
            rw [if_neg (by rw [bI_0 h33]; decide)]
            exact ⟨rfl, rfl⟩
        · skip
          exact (ix_t hy h18).elim
