/-! ===== the relation at the start; what each call leaves ===== -/
section RI
variable {S : Nat → Option (Nat × Nat)} {V : Nat → Nat → Option Nat} {N : Nat} {I I' I1 I1' : Mem} {h g n c s e np k z : Nat}
theorem rel_init (hg : g = h + 162) (hB : HB S I V h) (hP : PlB S I V h 9) (hR : RwB S V h 6) (hM : MdSh S V g) (hMr : MrSh S V g) (hI : MnI I g 6) : Rel S V (g + 148) I I h g 0 0 0 6 0 0 0 := by
  obtain ⟨⟨a0, a1, a2, a3, a4, a5, a6, a7⟩, ⟨b0, b1, b2, b3, b4, b5⟩, ⟨c0, c1, c2, ⟨c3, c4, c5⟩, c6⟩⟩ := hB
  have ra : ∀ i, i < 6 → rwA V h i = h + 151 + 2 * i := fun i hi => by
    show (V (h + 150 + 2 * i) 0).getD 0 = _
    rw [(hR i hi).2.2.1]
    rfl
  have rl : ∀ i, i < 6 → rwL S V h i = 0 := fun i hi => by
    show ((S (rwA V h i)).getD (0, 0)).2 = 0
    rw [ra i hi, (hR i hi).2.2.2.1]
    rfl
  obtain ⟨m0, m1⟩ := hI
  have cold : ∀ k, k < 334 → I (g + 3) k = -20 := fun k hk => by
    rw [m1 _ _ (by omega) (by omega), if_pos ⟨rfl, hk⟩]
  refine ⟨⟨⟨⟨a0, a1, a2, a3, a4, a5, a6, b0, b1, fun i hi => ⟨(hP i hi).1, (hP i hi).2.1⟩, b2, b3, b4, b5, fun i hi => ⟨(hR i hi).1, (hR i hi).2.1⟩⟩, hM, hMr, hg, Nat.le_refl _, ⟨fun i hi => ⟨by rw [ra i hi, rl i hi]; exact (hR i hi).2, Or.inl (ra i hi), by rw [ra i hi]; omega⟩, fun i j hi hj hne => by rw [ra i hi, ra j hj]; omega⟩⟩, ?_, ?_, ?_, ?_, ?_, ?_, ?_, ?_, ?_⟩, ?_⟩
  · exact ⟨m0 0, m0 4, m0 5, m0 6, m0 7⟩
  · refine ⟨⟨c3 2, by omega, c3 3, by omega, c3 4, by omega, by omega, fun q => absurd q (by omega)⟩, ⟨⟨?_, by omega, fun k hk => absurd hk (by omega), fun k hk => ?_⟩, ⟨?_, fun k hk => absurd hk (by omega)⟩, ⟨fun k hk => absurd hk (by omega), fun k hk => ?_⟩, fun k hk => absurd hk (by omega)⟩, fun i hi => absurd hi (by omega)⟩
    · rw [c4 _ _ (by omega) (by omega), if_neg (by omega)]; rfl
    · rw [cold k hk, c4 _ _ (by omega) (by omega), if_pos ⟨by omega, hk⟩]
    · rw [c4 _ _ (by omega) (by omega), if_neg (by omega)]
    · rw [cold k hk]; decide
  · exact ⟨fun q => absurd q (by omega), fun i hi => absurd hi (by omega)⟩
  · exact fun i hi => absurd hi (by omega)
  · exact ⟨c0 7, m0 31, by omega, fun q hq => absurd hq (by omega)⟩
  · exact ⟨c2 _ _ (by omega) (by omega), m0 38, by omega, fun q hq => absurd hq (by omega)⟩
  · refine ⟨?_, m0 23, by omega, fun k => ?_, fun k hk => ?_⟩
    · rw [c1 _ _ (by omega) (by omega), if_neg (by omega)]; rfl
    · rw [c1 _ _ (by omega) (by omega), if_neg (by omega), m1 _ _ (by omega) (by omega), if_neg (by omega)]
    · rw [m1 _ _ (by omega) (by omega), if_neg (by omega)]
      show (0 : Int32).toInt8.toInt32 = 0
      decide
  · exact Or.inl ⟨a7, m0 12⟩
  · exact Or.inl (c0 9)
  · refine ⟨(c0 8).trans (m0 1).symm, ?_, ?_⟩
    · rw [c1 _ _ (by omega) (by omega), if_neg (by omega)]; exact (m0 3).symm
    · rw [m0 2, c0 8]; rfl
theorem Rel.mem2 (H : Rel S V N I I' h g n c s e np k z) (hc : ∀ b j, (b < g ∨ g + 148 ≤ b) → I1 b j = I b j) (hm : ∀ b j, g ≤ b → b < g + 148 → I1' b j = I' b j) : Rel S V N I1 I1' h g n c s e np k z := by
  have hg : g = h + 162 := H.1.1.2.2.2.1
  refine ⟨H.1.mem (fun b j q _ _ => hc b j q) (fun b j q1 q2 _ _ => hm b j q1 q2), ?_⟩
  obtain ⟨t1, t2, t3⟩ := H.2
  refine ⟨?_, ?_, ?_⟩
  · rw [hc _ _ (by omega), hm _ _ (by omega) (by omega)]; exact t1
  · rw [hc _ _ (by omega), hm _ _ (by omega) (by omega)]; exact t2
  · rw [hc _ _ (by omega), hc _ _ (by omega), hm _ _ (by omega) (by omega)]; exact t3
/-- cells of the reference; all others -/
abbrev Inn (g : Nat) : Nat → Nat → Prop := fun b _ => g ≤ b ∧ b < g + 148
abbrev Out (g : Nat) : Nat → Nat → Prop := fun b _ => b < g ∨ g + 148 ≤ b
theorem Rel.ref (H : Rel S V N I I' h g n c s e np k z) (hm : Kp (Inn g) I' I1') : Rel S V N I I1' h g n c s e np k z := H.mem2 (fun _ _ _ => rfl) (fun b j q1 q2 => hm b j ⟨q1, q2⟩)
theorem Rel.cls (H : Rel S V N I I' h g n c s e np k z) (hc : Kp (Out g) I I1) : Rel S V N I1 I' h g n c s e np k z := H.mem2 (fun b j q => hc b j q) (fun _ _ _ _ => rfl)
end RI
section FRM
variable {I : Mem} {h g n c s np k z u e : Nat}
theorem fh_leg {x y : Int32} : Kp (Inn (h + 162)) I (hLeg I h n x y).2 := by
  rintro b j ⟨q1, q2⟩
  unfold hLeg trAdd
  repeat' split
  all_goals simp (disch := omega) only [up2_a]
theorem fh_cold {x y d : Int32} : Kp (Inn (h + 162)) I (hCold I h s x y d).2 := by
  rintro b j ⟨q1, q2⟩
  unfold hCold coldTo
  split
  · dsimp only
    rw [up2_a (by omega), if_neg (by omega)]
  · exact up2_a (by omega)
theorem fh_feed {a b d f w : Int32} : Kp (Inn (h + 162)) I (hFeed I h z a b d f w).2 := by
  rintro b j ⟨q1, q2⟩
  unfold hFeed tPut tPut1
  repeat' split
  all_goals simp (disch := omega) only [up2_a]
theorem fh_each {x : Int32} : Kp (Inn (h + 162)) I (hEach I h x).2 := by
  rintro b j ⟨q1, q2⟩
  unfold hEach
  repeat' split
  all_goals simp (disch := omega) only [up2_a]
theorem fh_follow {x y : Int32} (hc : c ≤ 6) : Kp (Inn (h + 162)) I (hFollow I h c np x y).2 := by
  rintro b j ⟨q1, q2⟩
  unfold hFollow
  rcases hx : ixI x c with _ | i
  · exact up2_a (by omega)
  · obtain ⟨hi, -⟩ := ixI_some (by omega) hx
    have ti : tm h i = h + 9 + 7 + 10 * i := rfl
    simp only []
    repeat' split
    all_goals simp (disch := omega) only [up2_a]
theorem fh_gap {x y w : Int32} (hc : c ≤ 6) : Kp (Inn (h + 162)) I (hGap I h c x y w).2 := by
  rintro b j ⟨q1, q2⟩
  unfold hGap gAdd
  rcases hx : ixI x c with _ | i
  · exact up2_a (by omega)
  · obtain ⟨hi, -⟩ := ixI_some (by omega) hx
    have ti : tm h i = h + 9 + 7 + 10 * i := rfl
    simp only []
    repeat' split
    all_goals simp (disch := omega) only [up2_a]
theorem fh_team {d l m st p : Int32} (hc : c ≤ 6) : Kp (Inn (h + 162)) I (hTeam I h c n np d l m st p).2 := by
  rintro b j ⟨q1, q2⟩
  have ti : tm h c = h + 9 + 7 + 10 * c := rfl
  unfold hTeam
  repeat' split
  all_goals try exact up2_a (by omega)
  show up2 (up2 _ (h + 9) 2 _) h 8 0 b j = _
  rw [up2_a (by omega), up2_a (by omega)]
  exact kp_tBegin _ _ _ _ _ _ _ b j (by unfold PT; omega)
theorem fh_replay {x y a : Int32} : Kp (Inn (h + 162)) I (hReplay I h c np s n x y a).2 := by
  rintro b j ⟨q1, q2⟩
  unfold hReplay
  split
  · split
    · exact (up2_a (by omega)).trans (kp_hGhost I h _ _ s b j ⟨by omega, by omega⟩)
    · exact up2_a (by omega)
  · exact up2_a (by omega)
theorem fh_plan {x : Int32} (hp : np ≤ 8) : Kp (Inn (h + 162)) I (hPlan I h z np x).2 := by
  rintro b j ⟨q1, q2⟩
  unfold hPlan
  split
  · exact up2_a (by omega)
  · have e1 : ∀ m, (rdPlan (tOpen I (h + 1) m) (h + 1) (h + 87 + 7 * np)).2 b j = I b j := fun m => (kp_plan b j ⟨by omega, by omega⟩).trans (open_o (by omega))
    repeat' split
    all_goals (simp (disch := omega) only [up2_a]; exact e1 _)
theorem fh_laws {x : Int32} : Kp (Inn (h + 162)) I (hLaws I h z k x).2 := by
  rintro b j ⟨q1, q2⟩
  unfold hLaws rdLaws
  split
  · exact up2_a (by omega)
  · have e1 : ∀ m, (rdLs (tOpen I (h + 1) m) (h + 1) (h + 4) k (11 - k)).2 b j = I b j := fun m => (lsf_f _ _ _ b j (by omega) (by omega) (by omega)).trans (open_o (by omega))
    repeat' split
    all_goals (simp (disch := omega) only [up2_a]; exact e1 _)
theorem fh_back {K : Nat} (hc : c ≤ 6) : Kp (Inn (h + 162)) I (hBack I h K c) := by
  rintro b j ⟨q1, q2⟩
  unfold hBack
  rw [up2_a (by omega), up2_a (by omega), rCopy_o hc (by omega)]
theorem fo_trb {x : Int32} {I1 : Mem} (h1 : Kp (Out g) I I1) : Kp (Out g) I (mTrb I1 g x) := by
  intro b j q
  unfold mTrb
  rw [up2_a (by omega), up2_a (by omega)]
  exact h1 b j q
theorem fo_leg {x y : Int32} : Kp (Out g) I (mLeg I g n x y).2 := by
  intro b j q
  unfold mLeg mTrb
  repeat' split
  all_goals simp (disch := omega) only [up2_a]
theorem fo_each {x : Int32} : Kp (Out g) I (mEach I g x).2 := by
  intro b j q
  unfold mEach mTrb
  repeat' split
  all_goals simp (disch := omega) only [up2_a]
theorem fo_cold {x y d : Int32} : Kp (Out g) I (mCold I g u x y d).2 := by
  intro b j q
  unfold mCold mTrb mColdTo
  split
  · show up2 (up2 _ g 1 0) g 2 _ b j = _
    rw [up2_a (by omega), up2_a (by omega), if_neg (by omega)]
  · simp (disch := omega) only [up2_a]
theorem fo_follow {x y : Int32} (hc : c ≤ 6) : Kp (Out g) I (mFollow I g c np x y).2 := by
  intro b j q
  unfold mFollow mTrb
  rcases hx : ixI x c with _ | i
  · simp (disch := omega) only [up2_a]
  · obtain ⟨hi, -⟩ := ixI_some (by omega) hx
    have ti := mt_e g i
    simp only []
    repeat' split
    all_goals simp (disch := omega) only [up2_a]
theorem fo_gap {x y w : Int32} (hc : c ≤ 6) : Kp (Out g) I (mGapD I g c x y w).2 := by
  intro b j q
  unfold mGapD mTrb
  rcases hx : ixI x c with _ | i
  · simp (disch := omega) only [up2_a]
  · obtain ⟨hi, -⟩ := ixI_some (by omega) hx
    have ti := mt_e g i
    simp only []
    repeat' split
    all_goals simp (disch := omega) only [up2_a]
theorem fo_team {d l m st p : Int32} (hc : c ≤ 6) : Kp (Out g) I (mTeam I g c n np d l m st p).2 := by
  intro b j q
  have ti := mt_e g c
  unfold mTeam
  repeat' split
  all_goals try exact fo_trb (fun _ _ _ => rfl) b j q
  refine fo_trb (I := I) ?_ b j q
  intro b j q
  rw [up2_a (by omega), mBegin_a (by omega)]
theorem fo_fd {a b d f w : Int32} : ∀ j, Kp (Out g) I (mFd I g z a b d f w j)
  | 0 => fun _ _ _ => rfl
  | j + 1 => fun x y q => by
    rw [mFd, mPut1, up2_a (by omega), up2_a (by omega)]
    exact fo_fd j x y q
theorem fo_feed {a b d f w : Int32} : Kp (Out g) I (mFeed I g z a b d f w).2 := by
  unfold mFeed
  split
  · exact fo_fd 20
  · exact fun _ _ _ => rfl
theorem fo_replay {x y a : Int32} : Kp (Out g) I (mReplay I g c np n u x y a).2 := by
  unfold mReplay
  repeat' split
  all_goals refine fo_trb ?_
  all_goals first | exact fun _ _ _ => rfl | exact fun b j q => kp_mGh _ b j (by omega)
theorem fo_keep (hc : c ≤ 6) : Kp (Out g) I (mKeep I g c) := by
  intro b j q
  unfold mKeep
  rw [mKT_a c (fun i hi => by have := kt_e g i; omega), mK2_a (by omega)]
theorem fo_back (hc : c ≤ 6) : Kp (Out g) I (mBack I g c).2 := by
  unfold mBack
  split
  · exact fo_trb fun _ _ _ => rfl
  · refine fo_trb fun b j q => ?_
    rw [mBT_a c (fun i hi => by have := mt_e g i; omega), mB2_a (by omega)]
theorem fo_opn {K : MJ} {m : Nat} : Kp (Out g) K.1 (mOpn K g m).1 := by
  intro b j q
  rw [mOpn, nxt_o (by omega)]
  exact strt_o (by omega)
theorem fo_wr {K : MJ} {I0 : Mem} (h1 : Kp (Out g) I0 K.1) : Kp (Out g) I0 (mWr K g).1 := by
  intro b j q
  unfold mWr
  simp (disch := omega) only [up2_a]
  exact h1 b j q
theorem fo_plan {K : MJ} {x : Int32} : Kp (Out g) K.1 (mPlF K g z np x).2.1 := by
  unfold mPlF
  split
  · exact fo_trb fun _ _ _ => rfl
  · have e1 : ∀ m, Kp (Out g) K.1 (rPl (mOpn K g m) g np).2.1 := fun m b j q => (fr_Pl b j (by omega) (by omega) (by omega) (by omega) (by omega)).trans (fo_opn b j q)
    repeat' split
    · exact fo_trb (e1 _)
    · exact fo_trb (fun b j q => (up2_a (by omega)).trans (e1 _ b j q))
    · exact fo_wr (e1 _)
theorem fo_laws {K : MJ} {x : Int32} : Kp (Out g) K.1 (mLaF K g z k x).2.1 := by
  unfold mLaF rLa
  split
  · exact fo_trb fun _ _ _ => rfl
  · have e1 : ∀ m, Kp (Out g) K.1 (rLs (mOpn K g m) g k (11 - k)).1.2.1 := fun m b j q => (la_s (I0 := (mOpn K g m).1) (11 - k) k _ (Nat.le_refl _) (fun _ _ _ _ _ => rfl) b j (by omega) (by omega) (by omega)).trans (fo_opn b j q)
    split
    · exact fo_trb (fun b j q => (up2_a (by omega)).trans (e1 _ b j q))
    · exact fo_wr (e1 _)
theorem fo_lds {t : Nat} : ∀ j, j ≤ 6 → Kp (Out g) I (mLds I g n t j)
  | 0, _ => fun _ _ _ => rfl
  | j + 1, hj => fun b i q => by
    have ti := mt_e g j
    rw [mLds]
    exact (kpm_lead b i (by unfold PM; omega)).trans (fo_lds j (by omega) b i q)
theorem fo_step (hc : c ≤ 6) : Kp (Out g) I (mStep I g c e n u) := by
  intro b i q
  rw [mStep, up2_a (by omega)]
  exact (kpm_sgs c b i (Or.inl (by omega))).trans (fo_lds c hc b i q)
theorem fo_runN (hc : c ≤ 6) : ∀ m, Kp (Out g) I (mRunN I g c e n u m)
  | 0 => fun _ _ _ => rfl
  | m + 1 => fun b i q => by
    rw [mRunN]
    exact (fo_step hc b i q).trans (fo_runN hc m b i q)
theorem fo_run {x : Int32} (hc : c ≤ 6) : Kp (Out g) I (mRun I g c e n u x).2 := by
  unfold mRun
  repeat' split
  · exact fo_trb fun _ _ _ => rfl
  · exact fo_trb (fo_runN hc _)
  · exact fo_trb fun _ _ _ => rfl
end FRM
section RAC
variable {S : Nat → Option (Nat × Nat)} {V : Nat → Nat → Option Nat} {N : Nat} {I I' : Mem} {h g n c s e np k z : Nat}
theorem ra_H (H : RelA S V N I I' h g n c s e np k z) : HouseSh S V h := H.1.1
theorem ra_M (H : RelA S V N I I' h g n c s e np k z) : MdSh S V g := H.1.2.1
theorem ra_R (H : RelA S V N I I' h g n c s e np k z) : MrSh S V g := H.1.2.2.1
theorem ra_N (H : RelA S V N I I' h g n c s e np k z) : h + 162 ≤ N := by have := H.1.2.2.2.1; have := H.1.2.2.2.2.1; omega
theorem ra_0 (H : RelA S V N I I' h g n c s e np k z) : I' g 0 = 0 := H.2.1.1
theorem ra_gn (H : RelA S V N I I' h g n c s e np k z) : I' g 4 = nI n := H.2.1.2.1
theorem ra_gc (H : RelA S V N I I' h g n c s e np k z) : I' g 5 = nI c := H.2.1.2.2.1
theorem ra_gs (H : RelA S V N I I' h g n c s e np k z) : I' g 6 = nI s := H.2.1.2.2.2.1
theorem ra_c (H : RelA S V N I I' h g n c s e np k z) : I (h + 9) 2 = nI c := H.2.2.1.1.1
theorem ra_s (H : RelA S V N I I' h g n c s e np k z) : I (h + 9) 3 = nI s := H.2.2.1.1.2.2.1
theorem ra_s2 (H : RelA S V N I I' h g n c s e np k z) : s ≤ 2000 := H.2.2.1.1.2.2.2.1
theorem ra_e (H : RelA S V N I I' h g n c s e np k z) : I (h + 9) 4 = nI e := H.2.2.1.1.2.2.2.2.1
theorem ra_e0 (H : RelA S V N I I' h g n c s e np k z) : 0 < e := H.2.2.1.1.2.2.2.2.2.1
theorem ra_e48 (H : RelA S V N I I' h g n c s e np k z) : e ≤ 48 := H.2.2.1.1.2.2.2.2.2.2.1
theorem ra_n0 (H : RelA S V N I I' h g n c s e np k z) : 0 < c → 0 < n := H.2.2.1.1.2.2.2.2.2.2.2
theorem ra_n (H : RelA S V N I I' h g n c s e np k z) : I (h + 9 + 1) 4 = nI n := H.2.2.1.2.1.1.1
theorem ra_p (H : RelA S V N I I' h g n c s e np k z) : I h 7 = nI np := H.2.2.2.2.2.1.1
theorem ra_gp (H : RelA S V N I I' h g n c s e np k z) : I' g 31 = nI np := H.2.2.2.2.2.1.2.1
theorem ra_p8 (H : RelA S V N I I' h g n c s e np k z) : np ≤ 8 := H.2.2.2.2.2.1.2.2.1
theorem ra_pl (H : RelA S V N I I' h g n c s e np k z) : ∀ q, q < np → PlR I I' (h + 87 + 7 * q) g q := H.2.2.2.2.2.1.2.2.2
theorem ra_k (H : RelA S V N I I' h g n c s e np k z) : I (h + 4) 4 = nI k := H.2.2.2.2.2.2.1.1
theorem ra_gk (H : RelA S V N I I' h g n c s e np k z) : I' g 38 = nI k := H.2.2.2.2.2.2.1.2.1
theorem ra_k10 (H : RelA S V N I I' h g n c s e np k z) : k ≤ 10 := H.2.2.2.2.2.2.1.2.2.1
theorem ra_z (H : RelA S V N I I' h g n c s e np k z) : I (h + 1) 1 = nI z := H.2.2.2.2.2.2.2.1.1
theorem ra_gz (H : RelA S V N I I' h g n c s e np k z) : I' g 23 = nI z := H.2.2.2.2.2.2.2.1.2.1
theorem ra_z4 (H : RelA S V N I I' h g n c s e np k z) : z ≤ 400 := H.2.2.2.2.2.2.2.1.2.2.1
theorem ra_by (H : RelA S V N I I' h g n c s e np k z) : ∀ k, k < 400 → ByOK (I' (g + 20) k) := H.2.2.2.2.2.2.2.1.2.2.2.2
theorem ra_law (H : RelA S V N I I' h g n c s e np k z) : LawOK I (h + 4) k := by
  obtain ⟨l1, l2, l3, l4⟩ := H.2.2.2.2.2.2.1
  refine ⟨l1, l3, fun i hi => ?_⟩
  obtain ⟨kd, x, y, w, a1, a2, a3, a4, b1, b2, b3, b4, -⟩ := l4 i hi
  rw [lF, lG, b3, b4, nI_clamp (by omega), nI_clamp (by omega)]
  exact ⟨rfl, a3, rfl, a4⟩
theorem ra_ml (H : RelA S V N I I' h g n c s e np k z) : MlOK I' g k := by
  obtain ⟨l1, l2, l3, l4⟩ := H.2.2.2.2.2.2.1
  refine ⟨l2, l3, fun i hi => ?_⟩
  obtain ⟨kd, x, y, w, a1, a2, a3, a4, b1, b2, b3, b4, d1, d2, d3, d4⟩ := l4 i hi
  rw [mF, mCt, d3, d4, nI_clamp (by omega), nI_clamp (by omega)]
  exact ⟨rfl, a3, rfl, a4⟩
theorem ra_t (H : RelA S V N I I' h g n c s e np k z) : ∀ i, i < c → TmOK I (tm h i) n := fun i hi => ((H.2.2.1.2.2 i hi).ints H.n12).1
theorem ra_l (H : RelA S V N I I' h g n c s e np k z) : ∀ i, i < c → I (tm h i) 10 = nI (tL I (tm h i)) ∧ tL I (tm h i) ≤ 12 := fun i hi => by
  have h1 := ra_t H i hi
  have h2 := H.n12
  exact ⟨h1.2.2.1, Nat.le_trans h1.2.2.2.1 h2⟩
theorem ra_d (H : RelA S V N I I' h g n c s e np k z) : ∀ i, i < c → ∃ m, I (tm h i + 1) 3 = nI m ∧ m ≤ 16 := fun i hi => ⟨_, (ra_t H i hi).1, (ra_t H i hi).2.1⟩
theorem ra_g (H : RelA S V N I I' h g n c s e np k z) : ∀ i, i < c → I (tm h i + 5) 2 = nI (tG I (tm h i)) ∧ tG I (tm h i) ≤ 4 := fun i hi => (ra_t H i hi).2.2.2.2
theorem ra_w (H : RelA S V N I I' h g n c s e np k z) : ∀ i, i < 6 → RowSh S V (h + 150 + 2 * i) (rwA V h i) (rwL S V h i) := fun i hi => (H.1.2.2.2.2.2.1 i hi).1
theorem ra_mt (H : RelA S V N I I' h g n c s e np k z) : ∀ i, i < c → MtOK I' (mt g i) := fun i hi => by
  obtain ⟨m, m0, -, -, -, -, -, h6⟩ := H.2.2.1.2.2 i hi
  obtain ⟨l1, l2, -⟩ := h6.ln H.n12
  exact ⟨l1, Nat.le_trans l2 H.n12, h6.1, h6.2.1⟩
theorem ra_mg (H : RelA S V N I I' h g n c s e np k z) : ∀ i, i < c → I' (mt g i) 12 = nI (mG I' (mt g i)) ∧ mG I' (mt g i) ≤ 4 := fun i hi => by
  obtain ⟨m, m0, -, -, -, -, -, h6⟩ := H.2.2.1.2.2 i hi
  exact ⟨h6.2.2.2.2.2.2.1, h6.2.2.2.2.2.2.2.1⟩
theorem ra_ms (H : RelA S V N I I' h g n c s e np k z) : ∀ i, i < c → I' (mt g i) 11 = nI (mSg I' (mt g i)) ∧ mSg I' (mt g i) ≤ 2000 := fun i hi => by
  obtain ⟨m, m0, -, -, -, -, -, h6⟩ := H.2.2.1.2.2 i hi
  exact ⟨h6.2.2.2.2.2.2.2.2.1, Nat.le_trans h6.2.2.2.2.2.2.2.2.2.1 (ra_s2 H)⟩
theorem ra_m0 (H : RelA S V N I I' h g n c s e np k z) : ∀ i, i < c → 0 < mD I' (mt g i) := fun i hi => ((H.2.2.1.2.2 i hi).ints H.n12).2.2.2.2.2.2.2.1
theorem ra_pn (H : RelA S V N I I' h g n c s e np k z) : ∀ i, i < np → I' (g + 21) i = nI (mNr I' g i) ∧ mNr I' g i ≤ 12 := fun i hi => ⟨(ra_pl H i hi).2.1.1, (ra_pl H i hi).2.1.2.1⟩
theorem ra_gh (H : RelA S V N I I' h g n c s e np k z) : ∀ i q, i < c → q < np → I h 9 = nI i → I h 10 = nI q → I h 11 = nI (ghS I h) ∧ ghS I h ≤ 2000 ∧ TmOK I (h + 77) n := fun i q hi hq h9 h10 => by
  have c6 := H.c6
  have s2 := ra_s2 H
  rcases H.2.2.2.2.2.2.2.2.2 with x | ⟨i', q', gs, a1, a2, a3, a4, a5, a6, a7⟩
  · rw [h9] at x
    exact absurd x (nI_m1 (by omega))
  · have t := a7 I' (fun _ _ _ => rfl)
    rw [ghS, a6, nI_clamp (by omega)]
    exact ⟨rfl, by omega, (t.ints H.n12).1⟩
theorem ra_kp (H : RelA S V N I I' h g n c s e np k z) {K : Nat} (hK : V h 6 = some K) : RaceSh S V K ∧ h + 162 ≤ K ∧ g + 148 ≤ K := by
  have hg := H.mn
  rcases H.2.2.2.2.2.2.2.2.1 with ⟨x, -⟩ | ⟨K', n', c', s', e', ⟨⟨x1, x2, x3, x4, x5⟩, -⟩⟩
  · rw [hK] at x; cases x
  · rw [hK] at x1; cases x1
    exact ⟨x4, by omega, x2⟩
theorem ra_p9 (H : RelA S V N I I' h g n c s e np k z) : np ≤ 9 := Nat.le_succ_of_le (ra_p8 H)
theorem ra_po (H : RelA S V N I I' h g n c s e np k z) : ∀ q, q < np → PlanOK I (h + 87 + 7 * q) (pN I (h + 87 + 7 * q)) := fun q hq => (ra_pl H q hq).1
theorem up0 (h0 : I g 0 = 0) (b j : Nat) : up2 I g 0 0 b j = I b j := by
  by_cases q : b = g ∧ j = 0
  · obtain ⟨rfl, rfl⟩ := q
    rw [up2_same, h0]
  · exact up2_f q
end RAC
