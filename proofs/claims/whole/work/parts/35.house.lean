/-! ===== SledHouse's constructor ===== -/
theorem TapeSh.ag {S S' : Nat → Option (Nat × Nat)} {V V' : Nat → Nat → Option Nat} {p : Nat} (h : TapeSh S V p) (hb : ∀ b, p ≤ b → b ≤ p + 1 → S' b = S b ∧ V' b = V b) : TapeSh S' V' p := by
  have e0 := hb p (by omega) (by omega)
  have e1 := hb (p + 1) (by omega) (by omega)
  unfold TapeSh at h ⊢
  rw [e0.1, e0.2, e1.1]
  exact h
/-- a race new made -/
def RaceNew (I : Mem) (b : Nat) : Prop := (∀ k, I b k = if k = 4 then 6 else 0) ∧ (∀ x k, b + 1 ≤ x → x < b + 6 → I x k = if x = b + 5 ∧ k < 334 then -20 else 0) ∧ ∀ i, i < 6 → TeamNew I (b + 7 + 10 * i)
theorem RaceNew.keep {I I' : Mem} {b : Nat} (h : RaceNew I b) (hk : ∀ x, b ≤ x → x < b + 67 → I' x = I x) : RaceNew I' b :=
  ⟨fun k => (congrFun (hk b (by omega) (by omega)) k).trans (h.1 k), fun x k h1 h2 => (congrFun (hk x (by omega) (by omega)) k).trans (h.2.1 x k h1 h2), fun i hi => (h.2.2 i hi).keep (fun x h1 h2 => hk x (by omega) (by omega))⟩
def TapeNew (I : Mem) (b : Nat) : Prop := ∀ x k, b ≤ x → x < b + 2 → I x k = if x = b ∧ k = 8 then -1 else 0
theorem TapeNew.keep {I I' : Mem} {b : Nat} (h : TapeNew I b) (hk : ∀ x, b ≤ x → x < b + 2 → I' x = I x) : TapeNew I' b := fun x k h1 h2 => (congrFun (hk x h1 h2) k).trans (h x k h1 h2)
def ZeroNew (I : Mem) (b d : Nat) : Prop := ∀ x k, b ≤ x → x < b + d → I x k = 0
theorem ZeroNew.keep {I I' : Mem} {b d : Nat} (h : ZeroNew I b d) (hk : ∀ x, b ≤ x → x < b + d → I' x = I x) : ZeroNew I' b d := fun x k h1 h2 => (congrFun (hk x h1 h2) k).trans (h x k h1 h2)
/-- the house but for its plans and rows -/
def HB (S : Nat → Option (Nat × Nat)) (I : Mem) (V : Nat → Nat → Option Nat) (h : Nat) : Prop :=
  (S h = some (9, 0) ∧ V h 0 = some (h + 1) ∧ V h 1 = some (h + 3) ∧ V h 2 = some (h + 4) ∧ V h 3 = some (h + 9) ∧ V h 4 = some (h + 76) ∧ V h 5 = some (h + 77) ∧ V h 6 = none) ∧ (TapeSh S V (h + 1) ∧ S (h + 3) = some (103, 9) ∧ LawSh S V (h + 4) ∧ RaceSh S V (h + 9) ∧ S (h + 76) = some (104, 6) ∧ TeamSh S V (h + 77)) ∧
  ((∀ k, I h k = if k = 9 ∨ k = 10 then -1 else 0) ∧ TapeNew I (h + 1) ∧ ZeroNew I (h + 4) 5 ∧ RaceNew I (h + 9) ∧ TeamNew I (h + 77))
theorem HB.ag {S S' : Nat → Option (Nat × Nat)} {I I' : Mem} {V V' : Nat → Nat → Option Nat} {h : Nat} (H : HB S I V h) (hS : ∀ x, h ≤ x → x < h + 87 → S' x = S x ∧ I' x = I x) (hV : ∀ x, h ≤ x → x < h + 87 → x ≠ h + 3 → x ≠ h + 76 → V' x = V x) : HB S' I' V' h := by
  obtain ⟨⟨a0, a1, a2, a3, a4, a5, a6, a7⟩, ⟨b0, b1, b2, b3, b4, b5⟩, ⟨c0, c1, c2, c3, c4⟩⟩ := H
  have vh := hV h (by omega) (by omega) (by omega) (by omega)
  refine ⟨?_, ⟨b0.ag (fun x h1 h2 => ⟨(hS x (by omega) (by omega)).1, hV x (by omega) (by omega) (by omega) (by omega)⟩), (hS _ (by omega) (by omega)).1.trans b1, b2.ag (fun x h1 h2 => ⟨(hS x (by omega) (by omega)).1, hV x (by omega) (by omega) (by omega) (by omega)⟩), b3.ag (fun x h1 h2 => ⟨(hS x (by omega) (by omega)).1, hV x (by omega) (by omega) (by omega) (by omega)⟩), (hS _ (by omega) (by omega)).1.trans b4, b5.ag (fun x h1 h2 => ⟨(hS x (by omega) (by omega)).1, hV x (by omega) (by omega) (by omega) (by omega)⟩)⟩, ⟨fun k => (congrFun (hS h (by omega) (by omega)).2 k).trans (c0 k), c1.keep (fun x h1 h2 => (hS x (by omega) (by omega)).2), c2.keep (fun x h1 h2 => (hS x (by omega) (by omega)).2), c3.keep (fun x h1 h2 => (hS x (by omega) (by omega)).2), c4.keep (fun x h1 h2 => (hS x (by omega) (by omega)).2)⟩⟩
  rw [vh, (hS h (by omega) (by omega)).1]
  exact ⟨a0, a1, a2, a3, a4, a5, a6, a7⟩
def PlB (S : Nat → Option (Nat × Nat)) (I : Mem) (V : Nat → Nat → Option Nat) (h j : Nat) : Prop := ∀ i, i < j → V (h + 3) i = some (h + 87 + 7 * i) ∧ PlanSh S V (h + 87 + 7 * i) ∧ ZeroNew I (h + 87 + 7 * i) 7
def RwB (S : Nat → Option (Nat × Nat)) (V : Nat → Nat → Option Nat) (h j : Nat) : Prop := ∀ i, i < j → V (h + 76) i = some (h + 150 + 2 * i) ∧ RowSh S V (h + 150 + 2 * i) (h + 151 + 2 * i) 0
set_option maxHeartbeats 2000000 in
set_option maxRecDepth 20000 in
/-- SledHouse.<init> -/
theorem n_house {E : Ev} (GE : Glob E) (S : Nat → Option (Nat × Nat)) (I : Nat → Nat → Int32) (V : Nat → Nat → Option Nat) (J : Nat → Nat → Int64) (h : Nat) (hs : S h = some (9, 0)) (hz : ∀ k, I h k = 0) : Ct E yX10_init cX10_init 2 none (rmA 5 161 3296) [.ref h] (S, I, V, J, h + 1) (fun v w' => v = none ∧ ∃ S' I' V' J', w' = (S', I', V', J', h + 162) ∧ Nw h S I V J S' I' V' J' ∧ HB S' I' V' h ∧ PlB S' I' V' h 9 ∧ RwB S' V' h 6) := by
  refine Ct.start GE (by decide) rfl (Nat.le_of_ble_eq_true rfl) (fun M X => ?_)
  have X : Cx E M RX10 cX10_init 2 (rmA 5 161 3296) none "<init>" := X
  refine r_loc (L' := [some (.ref h), none]) rfl ?_
  have H2 : ∀ j, j ≤ 6 → ∀ S' I' V' J', Nw h S I V J S' I' V' J' → HB S' I' V' h → PlB S' I' V' h 9 → RwB S' V' h j → G E M (149 + 2 * j) (3290 + j) (qQ E M (rmA 5 161 3296) (fun v w' => v = none ∧ ∃ S' I' V' J', w' = (S', I', V', J', h + 162) ∧ Nw h S I V J S' I' V' J' ∧ HB S' I' V' h ∧ PlB S' I' V' h 9 ∧ RwB S' V' h 6)) 125 [some (.ref h), some (.int (nI j))] [] (S', I', V', J', h + 150 + 2 * j) := by
    refine loopN 6 (fun j hj ih => ?_)
    intro S' I' V' J' hn hB hP hR
    have b0 := hB.1.1
    have v4 := hB.1.2.2.2.2.2.1
    have s76 := hB.2.1.2.2.2.2.1
    refine r_iload_n X dX10_init_125 rfl rfl ?_
    refine r_bipush (v := nI 6) X dX10_init_126 (by decide) ?_
    refine r_icmpN_ge (tgt := 150) X dX10_init_128 (by decide) (by omega) (by omega) (fun h128 => ?_) (fun h128 => ?_)
    · skip
      refine r_return X dX10_init_150 (by first | omega | decide | (simp only [rmL, rmA]; omega)) (by first | omega | decide | (simp only [rmL, rmA]; omega)) ?_
      obtain rfl : j = 6 := by omega
      exact ⟨rfl, _, _, _, _, rfl, hn, hB, hP, hR⟩
    · skip
      refine r_aload_n X dX10_init_131 rfl rfl ?_
      refine r_getR X dX10_init_132 fX10_38 (by (repeat (refine up1n (by omega) ?_)); assumption) (by assumption) ?_
      refine r_iload_n X dX10_init_135 rfl rfl ?_
      refine t_new (ci := 5) X dX10_init_136 rfl kX10_36 inX6_s inX6_i (by first | omega | decide | (simp only [rmL, rmA]; omega)) (by first | omega | decide | (simp only [rmL, rmA]; omega)) ?_
      refine r_dup X dX10_init_139 rfl ?_
      refine q_callI X dX10_init_140 mX10_69 cwX6_init (n_row GE _ _ _ _ (h + 150 + 2 * j) (if_pos rfl) (fun k => if_pos rfl)) rfl rfl (Nat.le_of_ble_eq_true rfl) ⟨Nat.le_of_ble_eq_true rfl, Nat.le_of_ble_eq_true rfl⟩ ⟨(by first | omega | decide | (simp only [rmL, rmA]; omega)), (by first | omega | decide | (simp only [rmL, rmA]; omega))⟩ ?_
      rintro _ _ ⟨rfl, S1, I1, V1, J1, rfl, hN1, hT1, hz1⟩
      have s6 : S1 (h + 76) = some (104, 6) := (hN1.1 _ (by omega)).trans (up1n (by omega) s76)
      have sj : S1 (h + 150 + 2 * j) = some (5, 0) := hT1.1
      have hS1 : ∀ x, x < h + 150 + 2 * j → S1 x = S' x := fun x hx => (hN1.1 x (by omega)).trans (up1n (by omega) rfl)
      have hI1 : ∀ x, x < h + 150 + 2 * j → I1 x = I' x := fun x hx => (hN1.2 x hx).1.trans (zrn (by omega))
      have hV1 : ∀ x, x < h + 150 + 2 * j → V1 x = V' x := fun x hx => (hN1.2 x hx).2.1.trans (zrn (by omega))
      refine r_aastN (k := 104) X dX10_init_143 (by decide) (by (repeat (refine up1n (by omega) ?_)); assumption) (by (repeat (refine up1n (by omega) ?_)); assumption) rfl rfl (by omega) (by omega) ?_
      first | refine r_iincN X dX10_init_144 rfl (by decide) rfl ?_ | refine r_iinc X dX10_init_144 rfl rfl (by decide) rfl ?_
      refine r_goto (tgt := 125) X dX10_init_147 (by decide) ?_
      refine ih (by omega) _ _ _ _ (((hn.fresh (by omega)).trans hN1 (by omega)).putV (by omega)) ?_ ?_ ?_
      · exact hB.ag (fun x h1 h2 => ⟨hS1 x (by omega), hI1 x (by omega)⟩) (fun x h1 h2 h3 h4 => (up2r h4).trans (hV1 x (by omega)))
      · intro i hi
        exact ⟨(congrFun ((up2r (by omega)).trans (hV1 _ (by omega))) i).trans (hP i hi).1, (hP i hi).2.1.ag (fun x h1 h2 => ⟨hS1 x (by omega), (up2r (by omega)).trans (hV1 x (by omega))⟩), (hP i hi).2.2.keep (fun x h1 h2 => hI1 x (by omega))⟩
      · intro i hi
        rcases Nat.lt_or_ge i j with y | y
        · obtain ⟨q1, q2, q3, q4, q5⟩ := hR i y
          exact ⟨(up2_k (by omega)).trans ((congrFun (hV1 _ (by omega)) i).trans q1), (hS1 _ (by omega)).trans q2, (congrFun ((up2r (by omega)).trans (hV1 _ (by omega))) 0).trans q3, (hS1 _ (by omega)).trans q4, q5⟩
        · obtain rfl : i = j := by omega
          obtain ⟨q2, q3, q4, q5⟩ := hT1
          have e : h + 150 + 2 * i + 1 = h + 151 + 2 * i := by omega
          rw [e] at q3 q4
          exact ⟨up2_same _ _ _ _, q2, (up2_a (by omega)).trans q3, q4, q5⟩
  have H1 : ∀ j, j ≤ 9 → ∀ S' I' V' J', Nw h S I V J S' I' V' J' → HB S' I' V' h → PlB S' I' V' h j → G E M (86 + 7 * j) (1598 + 188 * j) (qQ E M (rmA 5 161 3296) (fun v w' => v = none ∧ ∃ S' I' V' J', w' = (S', I', V', J', h + 162) ∧ Nw h S I V J S' I' V' J' ∧ HB S' I' V' h ∧ PlB S' I' V' h 9 ∧ RwB S' V' h 6)) 98 [some (.ref h), some (.int (nI j))] [] (S', I', V', J', h + 87 + 7 * j) := by
    refine loopN 9 (fun j hj ih => ?_)
    intro S' I' V' J' hn hB hP
    have b0 := hB.1.1
    have v1 := hB.1.2.2.1
    have s3 := hB.2.1.2.1
    refine r_iload_n X dX10_init_98 rfl rfl ?_
    refine r_bipush (v := nI 8) X dX10_init_99 (by decide) ?_
    refine r_icmpN_gt (tgt := 123) X dX10_init_101 (by decide) (by omega) (by omega) (fun h101 => ?_) (fun h101 => ?_)
    · skip
      refine r_iconst (v := nI 0) X dX10_init_123 (by decide) ?_
      refine r_istore_n X dX10_init_124 rfl (by decide) rfl ?_
      obtain rfl : j = 9 := by omega
      exact H2 0 (by omega) _ _ _ _ hn hB hP (fun i hi => absurd hi (by omega))
    · skip
      refine r_aload_n X dX10_init_104 rfl rfl ?_
      refine r_getR X dX10_init_105 fX10_18 (by (repeat (refine up1n (by omega) ?_)); assumption) (by assumption) ?_
      refine r_iload_n X dX10_init_108 rfl rfl ?_
      refine t_new (ci := 3) X dX10_init_109 rfl kX10_16 inX4_s inX4_i (by first | omega | decide | (simp only [rmL, rmA]; omega)) (by first | omega | decide | (simp only [rmL, rmA]; omega)) ?_
      refine r_dup X dX10_init_112 rfl ?_
      refine q_callI X dX10_init_113 mX10_68 cwX4_init (n_plan GE _ _ _ _ (h + 87 + 7 * j) (if_pos rfl) (fun k => if_pos rfl)) rfl rfl (Nat.le_of_ble_eq_true rfl) ⟨Nat.le_of_ble_eq_true rfl, Nat.le_of_ble_eq_true rfl⟩ ⟨(by first | omega | decide | (simp only [rmL, rmA]; omega)), (by first | omega | decide | (simp only [rmL, rmA]; omega))⟩ ?_
      rintro _ _ ⟨rfl, S1, I1, V1, J1, rfl, hN1, hT1, hz1⟩
      have s6 : S1 (h + 3) = some (103, 9) := (hN1.1 _ (by omega)).trans (up1n (by omega) s3)
      have sj : S1 (h + 87 + 7 * j) = some (3, 0) := hT1.1
      have hS1 : ∀ x, x < h + 87 + 7 * j → S1 x = S' x := fun x hx => (hN1.1 x (by omega)).trans (up1n (by omega) rfl)
      have hI1 : ∀ x, x < h + 87 + 7 * j → I1 x = I' x := fun x hx => (hN1.2 x hx).1.trans (zrn (by omega))
      have hV1 : ∀ x, x < h + 87 + 7 * j → V1 x = V' x := fun x hx => (hN1.2 x hx).2.1.trans (zrn (by omega))
      refine r_aastN (k := 103) X dX10_init_116 (by decide) (by (repeat (refine up1n (by omega) ?_)); assumption) (by (repeat (refine up1n (by omega) ?_)); assumption) rfl rfl (by omega) (by omega) ?_
      first | refine r_iincN X dX10_init_117 rfl (by decide) rfl ?_ | refine r_iinc X dX10_init_117 rfl rfl (by decide) rfl ?_
      refine r_goto (tgt := 98) X dX10_init_120 (by decide) ?_
      refine ih (by omega) _ _ _ _ (((hn.fresh (by omega)).trans hN1 (by omega)).putV (by omega)) ?_ ?_
      · exact hB.ag (fun x h1 h2 => ⟨hS1 x (by omega), hI1 x (by omega)⟩) (fun x h1 h2 h3 h4 => (up2r h3).trans (hV1 x (by omega)))
      · intro i hi
        rcases Nat.lt_or_ge i j with y | y
        · exact ⟨(up2_k (by omega)).trans ((congrFun (hV1 _ (by omega)) i).trans (hP i y).1), (hP i y).2.1.ag (fun x h1 h2 => ⟨hS1 x (by omega), (up2r (by omega)).trans (hV1 x (by omega))⟩), (hP i y).2.2.keep (fun x h1 h2 => hI1 x (by omega))⟩
        · obtain rfl : i = j := by omega
          exact ⟨up2_same _ _ _ _, hT1.ag (fun x h1 h2 => ⟨rfl, up2r (by omega)⟩), hz1⟩
  refine r_aload_n X dX10_init_0 rfl rfl ?_
  refine r_objInit X dX10_init_1 mX10_1 (Nat.le_of_ble_eq_true rfl) (Nat.le_of_ble_eq_true rfl) ?_
  refine r_aload_n X dX10_init_4 rfl rfl ?_
  refine t_new (ci := 6) X dX10_init_5 rfl kX10_7 inX7_s inX7_i (by first | omega | decide | (simp only [rmL, rmA]; omega)) (by first | omega | decide | (simp only [rmL, rmA]; omega)) ?_
  refine r_dup X dX10_init_8 rfl ?_
  refine q_callI X dX10_init_9 mX10_9 cwX7_init (n_tape GE _ _ _ _ (h + 1) (if_pos rfl) (fun k => if_pos rfl)) rfl rfl (Nat.le_of_ble_eq_true rfl) ⟨Nat.le_of_ble_eq_true rfl, Nat.le_of_ble_eq_true rfl⟩ ⟨(by first | omega | decide | (simp only [rmL, rmA]; omega)), (by first | omega | decide | (simp only [rmL, rmA]; omega))⟩ ?_
  rintro _ _ ⟨rfl, S1, I1, V1, J1, rfl, hN1, hT1, hz1⟩
  have b1 : S1 h = some (9, 0) := (hN1.1 _ (by omega)).trans (up1n (by omega) hs)
  have i1 : I1 h = I h := (hN1.2 _ (by omega)).1.trans (zrn (by omega))
  have n1 : Nw h S I V J S1 I1 V1 J1 := (Nw.refl.fresh (by omega)).trans hN1 (by omega)
  replace hz1 : TapeNew I1 (h + 1) := hz1
  refine r_world (w' := (S1, I1, V1, J1, h + 3)) rfl ?_
  refine r_putR (o := some _) X dX10_init_12 fX10_10 wX10_10 (by (repeat (refine up1n (by omega) ?_)); assumption) rfl rfl ?_
  refine r_aload_n X dX10_init_15 rfl rfl ?_
  refine r_bipush (v := nI 9) X dX10_init_16 (by decide) ?_
  refine t_anew (k := 103) X dX10_init_18 (by decide) rfl kX10_16 aoX4 rfl (by decide) (by first | omega | decide | (simp only [rmL, rmA]; omega)) (by first | omega | decide | (simp only [rmL, rmA]; omega)) ?_
  refine r_putR (o := some _) X dX10_init_21 fX10_18 wX10_18 (by (repeat (refine up1n (by omega) ?_)); assumption) rfl rfl ?_
  refine r_aload_n X dX10_init_24 rfl rfl ?_
  refine t_new (ci := 2) X dX10_init_25 rfl kX10_22 inX2_s inX2_i (by first | omega | decide | (simp only [rmL, rmA]; omega)) (by first | omega | decide | (simp only [rmL, rmA]; omega)) ?_
  refine r_dup X dX10_init_28 rfl ?_
  refine q_callI X dX10_init_29 mX10_24 cwX2_init (n_law GE _ _ _ _ (h + 3 + 1) (if_pos rfl) (fun k => if_pos rfl)) rfl rfl (Nat.le_of_ble_eq_true rfl) ⟨Nat.le_of_ble_eq_true rfl, Nat.le_of_ble_eq_true rfl⟩ ⟨(by first | omega | decide | (simp only [rmL, rmA]; omega)), (by first | omega | decide | (simp only [rmL, rmA]; omega))⟩ ?_
  rintro _ _ ⟨rfl, S2, I2, V2, J2, rfl, hN2, hL2, hy2⟩
  have b2 : S2 h = some (9, 0) := (hN2.1 _ (by omega)).trans (up1n (by omega) (up1n (by omega) b1))
  have i2 : I2 h = I h := ((hN2.2 _ (by omega)).1.trans ((zrn (by omega)).trans (zrn (by omega)))).trans i1
  have n2 : Nw h S I V J S2 I2 V2 J2 := (((((n1.putV (Nat.le_refl h)).fresh (by omega)).putV (Nat.le_refl h)).fresh (by omega))).trans hN2 (by omega)
  have v2 : V2 h = up2 (up2 V1 h 0 (some (h + 1))) h 1 (some (h + 3)) h := by
    refine (hN2.2 _ (by omega)).2.1.trans ?_
    funext k
    simp [up2, zr, Nat.add_assoc]
  have t2 : ∀ x, h + 1 ≤ x → x < h + 3 → S2 x = S1 x ∧ V2 x = V1 x ∧ I2 x = I1 x := fun x h1 h2 => ⟨(hN2.1 _ (by omega)).trans (up1n (by omega) (up1n (by omega) rfl)), by
    refine (hN2.2 _ (by omega)).2.1.trans ?_
    funext k
    simp only [up2, zr]
    repeat (rw [if_neg (by omega)]), (hN2.2 _ (by omega)).1.trans ((zrn (by omega)).trans (zrn (by omega)))⟩
  have hT2 : TapeSh S2 V2 (h + 1) := hT1.ag (fun x h1 h2 => ⟨(t2 x (by omega) (by omega)).1, (t2 x (by omega) (by omega)).2.1⟩)
  have hz2 : TapeNew I2 (h + 1) := hz1.keep (fun x h1 h2 => (t2 x (by omega) (by omega)).2.2)
  have s32 : S2 (h + 3) = some (103, 9) := (hN2.1 _ (by omega)).trans (up1n (by omega) (if_pos rfl))
  refine r_world (w' := (S2, I2, V2, J2, h + 9)) rfl ?_
  refine r_putR (o := some _) X dX10_init_32 fX10_25 wX10_25 (by (repeat (refine up1n (by omega) ?_)); assumption) rfl rfl ?_
  refine r_aload_n X dX10_init_35 rfl rfl ?_
  refine t_new (ci := 4) X dX10_init_36 rfl kX10_29 inX5_s inX5_i (by first | omega | decide | (simp only [rmL, rmA]; omega)) (by first | omega | decide | (simp only [rmL, rmA]; omega)) ?_
  refine r_dup X dX10_init_39 rfl ?_
  refine q_callI X dX10_init_40 mX10_31 cwX5_init (n_race GE _ _ _ _ (h + 9) (if_pos rfl) (fun k => if_pos rfl)) rfl rfl (Nat.le_of_ble_eq_true rfl) ⟨Nat.le_of_ble_eq_true rfl, Nat.le_of_ble_eq_true rfl⟩ ⟨(by first | omega | decide | (simp only [rmL, rmA]; omega)), (by first | omega | decide | (simp only [rmL, rmA]; omega))⟩ ?_
  rintro _ _ ⟨rfl, S3, I3, V3, J3, rfl, hN3, hR3, hr3⟩
  have hS3 : ∀ x, x < h + 9 → S3 x = S2 x := fun x hx => (hN3.1 _ (by omega)).trans (up1n (by omega) rfl)
  have hI3 : ∀ x, x < h + 9 → I3 x = I2 x := fun x hx => (hN3.2 _ (by omega)).1.trans (zrn (by omega))
  have hV3 : ∀ x, x < h + 9 → V3 x = up2 V2 h 2 (some (h + 4)) x := fun x hx => (hN3.2 _ (by omega)).2.1.trans (zrn (by omega))
  have b3 : S3 h = some (9, 0) := (hS3 _ (by omega)).trans b2
  have n3 : Nw h S I V J S3 I3 V3 J3 := ((n2.putV (Nat.le_refl h)).fresh (by omega)).trans hN3 (by omega)
  have hT3 : TapeSh S3 V3 (h + 1) := hT2.ag (fun x h1 h2 => ⟨hS3 x (by omega), (hV3 x (by omega)).trans (up2r (by omega))⟩)
  have hz3 : TapeNew I3 (h + 1) := hz2.keep (fun x h1 h2 => hI3 x (by omega))
  have hL3 : LawSh S3 V3 (h + 4) := LawSh.ag (p := h + 4) hL2 (fun x h1 h2 => ⟨hS3 x (by omega), (hV3 x (by omega)).trans (up2r (by omega))⟩)
  have hy3 : ZeroNew I3 (h + 4) 5 := ZeroNew.keep (b := h + 4) (d := 5) hy2 (fun x h1 h2 => hI3 x (by omega))
  have hr3 : RaceNew I3 (h + 9) := hr3
  refine r_world (w' := (S3, I3, V3, J3, h + 76)) rfl ?_
  refine r_putR (o := some _) X dX10_init_43 fX10_32 wX10_32 (by (repeat (refine up1n (by omega) ?_)); assumption) rfl rfl ?_
  refine r_aload_n X dX10_init_46 rfl rfl ?_
  refine r_bipush (v := nI 6) X dX10_init_47 (by decide) ?_
  refine t_anew (k := 104) X dX10_init_49 (by decide) rfl kX10_36 aoX6 rfl (by decide) (by first | omega | decide | (simp only [rmL, rmA]; omega)) (by first | omega | decide | (simp only [rmL, rmA]; omega)) ?_
  refine r_putR (o := some _) X dX10_init_52 fX10_38 wX10_38 (by (repeat (refine up1n (by omega) ?_)); assumption) rfl rfl ?_
  refine r_aload_n X dX10_init_55 rfl rfl ?_
  refine t_new (ci := 7) X dX10_init_56 rfl kX10_42 inX8_s inX8_i (by first | omega | decide | (simp only [rmL, rmA]; omega)) (by first | omega | decide | (simp only [rmL, rmA]; omega)) ?_
  refine r_dup X dX10_init_59 rfl ?_
  refine q_callI X dX10_init_60 mX10_44 cwX8_init (n_team GE _ _ _ _ (h + 76 + 1) (if_pos rfl) (fun k => if_pos rfl)) rfl rfl (Nat.le_of_ble_eq_true rfl) ⟨Nat.le_of_ble_eq_true rfl, Nat.le_of_ble_eq_true rfl⟩ ⟨(by first | omega | decide | (simp only [rmL, rmA]; omega)), (by first | omega | decide | (simp only [rmL, rmA]; omega))⟩ ?_
  rintro _ _ ⟨rfl, S4, I4, V4, J4, rfl, hN4, hG4, hg4⟩
  have hS4 : ∀ x, x < h + 76 → S4 x = S3 x := fun x hx => (hN4.1 _ (by omega)).trans (up1n (by omega) (up1n (by omega) rfl))
  have hI4 : ∀ x, x < h + 76 → I4 x = I3 x := fun x hx => (hN4.2 _ (by omega)).1.trans ((zrn (by omega)).trans (zrn (by omega)))
  have hV4 : ∀ x, h < x → x < h + 76 → V4 x = V3 x := fun x h1 hx => by
    refine (hN4.2 _ (by omega)).2.1.trans ?_
    funext k
    simp only [up2, zr]
    repeat (rw [if_neg (by omega)])
  have v4 : V4 h = up2 (up2 V3 h 3 (some (h + 9))) h 4 (some (h + 76)) h := by
    refine (hN4.2 _ (by omega)).2.1.trans ?_
    funext k
    simp [up2, zr, Nat.add_assoc]
  have b4 : S4 h = some (9, 0) := (hS4 _ (by omega)).trans b3
  have n4 : Nw h S I V J S4 I4 V4 J4 := (((((n3.putV (Nat.le_refl h)).fresh (by omega)).putV (Nat.le_refl h)).fresh (by omega))).trans hN4 (by omega)
  have i4 : I4 h = I h := ((hI4 _ (by omega)).trans (hI3 _ (by omega))).trans i2
  have s764 : S4 (h + 76) = some (104, 6) := (hN4.1 _ (by omega)).trans (up1n (by omega) (if_pos rfl))
  refine r_world (w' := (S4, I4, V4, J4, h + 87)) rfl ?_
  refine r_putR (o := some _) X dX10_init_63 fX10_45 wX10_45 (by (repeat (refine up1n (by omega) ?_)); assumption) rfl rfl ?_
  refine r_aload_n X dX10_init_66 rfl rfl ?_
  refine r_null X dX10_init_67 ?_
  refine r_putR (o := none) X dX10_init_68 fX10_49 wX10_49 (by (repeat (refine up1n (by omega) ?_)); assumption) rfl rfl ?_
  refine r_aload_n X dX10_init_71 rfl rfl ?_
  refine r_iconst (v := 0) X dX10_init_72 (by decide) ?_
  refine r_putI X dX10_init_73 fX10_52 wX10_52 (by (repeat (refine up1n (by omega) ?_)); assumption) rfl rfl ?_
  refine r_aload_n X dX10_init_76 rfl rfl ?_
  refine r_iconst (v := 0) X dX10_init_77 (by decide) ?_
  refine r_putI X dX10_init_78 fX10_56 wX10_56 (by (repeat (refine up1n (by omega) ?_)); assumption) rfl rfl ?_
  refine r_aload_n X dX10_init_81 rfl rfl ?_
  refine r_iconst (v := -1) X dX10_init_82 (by decide) ?_
  refine r_putI X dX10_init_83 fX10_59 wX10_59 (by (repeat (refine up1n (by omega) ?_)); assumption) rfl rfl ?_
  refine r_aload_n X dX10_init_86 rfl rfl ?_
  refine r_iconst (v := -1) X dX10_init_87 (by decide) ?_
  refine r_putI X dX10_init_88 fX10_62 wX10_62 (by (repeat (refine up1n (by omega) ?_)); assumption) rfl rfl ?_
  refine r_aload_n X dX10_init_91 rfl rfl ?_
  refine r_iconst (v := 0) X dX10_init_92 (by decide) ?_
  refine r_putI X dX10_init_93 fX10_65 wX10_65 (by (repeat (refine up1n (by omega) ?_)); assumption) rfl rfl ?_
  refine r_iconst (v := nI 0) X dX10_init_96 (by decide) ?_
  refine r_istore_n X dX10_init_97 rfl (by decide) rfl ?_
  refine H1 0 (by omega) _ _ _ _ ?_ ?_ (fun i hi => absurd hi (by omega))
  · exact ((((((n4.putV (Nat.le_refl h)).putV (Nat.le_refl h)).putI (Nat.le_refl h)).putI (Nat.le_refl h)).putI (Nat.le_refl h)).putI (Nat.le_refl h)).putI (Nat.le_refl h)
  · have ve : ∀ k, V4 h k = if k = 4 then some (h + 76) else if k = 3 then some (h + 9) else if k = 2 then some (h + 4) else if k = 1 then some (h + 3) else if k = 0 then some (h + 1) else V1 h k := fun k => by
      rw [v4]
      simp only [up2, true_and]
      rw [hV3 h (by omega)]
      simp only [up2, true_and]
      rw [v2]
      simp only [up2, true_and]
    refine ⟨⟨b4, ?_, ?_, ?_, ?_, ?_, ?_, ?_⟩, ⟨?_, (hS4 _ (by omega)).trans ((hS3 _ (by omega)).trans s32), ?_, ?_, s764, ?_⟩, ⟨?_, ?_, ?_, ?_, ?_⟩⟩
    · simp [up2, ve]
    · simp [up2, ve]
    · simp [up2, ve]
    · simp [up2, ve]
    · simp [up2, ve]
    · simp [up2, ve]
    · simp [up2, ve]
    · exact hT3.ag (fun x h1 h2 => ⟨hS4 x (by omega), (up2r (by omega)).trans ((up2r (by omega)).trans (hV4 x (by omega) (by omega)))⟩)
    · exact hL3.ag (fun x h1 h2 => ⟨hS4 x (by omega), (up2r (by omega)).trans ((up2r (by omega)).trans (hV4 x (by omega) (by omega)))⟩)
    · exact hR3.ag (fun x h1 h2 => ⟨hS4 x (by omega), (up2r (by omega)).trans ((up2r (by omega)).trans (hV4 x (by omega) (by omega)))⟩)
    · exact TeamSh.ag (t := h + 77) hG4 (fun x h1 h2 => ⟨rfl, (up2r (by omega)).trans (up2r (by omega))⟩)
    · intro k
      simp only [up2, true_and]
      rw [i4, hz k]
      by_cases k9 : k = 9
      · simp [k9]
      · by_cases k10 : k = 10
        · simp [k10]
        · simp [k9, k10]
    · exact hz3.keep (fun x h1 h2 => by funext k; simp only [up2]; (repeat (rw [if_neg (by omega)])); exact congrFun (hI4 x (by omega)) k)
    · exact hy3.keep (fun x h1 h2 => by funext k; simp only [up2]; (repeat (rw [if_neg (by omega)])); exact congrFun (hI4 x (by omega)) k)
    · exact hr3.keep (fun x h1 h2 => by funext k; simp only [up2]; (repeat (rw [if_neg (by omega)])); exact congrFun (hI4 x (by omega)) k)
    · exact TeamNew.keep (t := h + 77) hg4 (fun x h1 h2 => by funext k; simp only [up2]; repeat (rw [if_neg (by omega)]))
