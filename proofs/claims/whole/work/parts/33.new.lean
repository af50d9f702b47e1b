/-! ===== constructors of Trail, Team, Race ===== -/
set_option maxHeartbeats 2000000 in
set_option maxRecDepth 20000 in
/-- SledHouse$Trail.<init> -/
theorem n_trail {E : Ev} (GE : Glob E) (S : Nat → Option (Nat × Nat)) (I : Nat → Nat → Int32) (V : Nat → Nat → Option Nat) (J : Nat → Nat → Int64) (b : Nat) (hs : S b = some (8, 0)) (hz : ∀ k, I b k = 0) : Ct E yX9_init cX9_init 1 none (rmA 3 4 371) [.ref b] (S, I, V, J, b + 1) (fun v w' => v = none ∧ ∃ S' I' V' J', w' = (S', I', V', J', b + 5) ∧ Nw b S I V J S' I' V' J' ∧ TrailSh S' V' b ∧ ∀ x k, b ≤ x → x < b + 5 → I' x k = if x = b + 4 ∧ k < 334 then -20 else 0) := by
  refine Ct.start GE (by decide) rfl (Nat.le_of_ble_eq_true rfl) (fun M X => ?_)
  have X : Cx E M RX9 cX9_init 1 (rmA 3 4 371) none "<init>" := X
  refine r_loc (L' := [some (.ref b)]) rfl ?_
  refine r_aload_n X dX9_init_0 rfl rfl ?_
  refine r_objInit X dX9_init_1 mX9_3 (Nat.le_of_ble_eq_true rfl) (Nat.le_of_ble_eq_true rfl) ?_
  refine r_aload_n X dX9_init_4 rfl rfl ?_
  refine r_bipush (v := nI 12) X dX9_init_5 (by decide) ?_
  refine t_newI X dX9_init_7 rfl (by decide) (by first | omega | decide | (simp only [rmL, rmA]; omega)) (by first | omega | decide | (simp only [rmL, rmA]; omega)) ?_
  refine r_putR (o := some _) X dX9_init_9 fX9_9 wX9_9 (by (repeat (refine up1n (by omega) ?_)); assumption) rfl rfl ?_
  refine r_aload_n X dX9_init_12 rfl rfl ?_
  refine r_bipush (v := nI 12) X dX9_init_13 (by decide) ?_
  refine t_newI X dX9_init_15 rfl (by decide) (by first | omega | decide | (simp only [rmL, rmA]; omega)) (by first | omega | decide | (simp only [rmL, rmA]; omega)) ?_
  refine r_putR (o := some _) X dX9_init_17 fX9_15 wX9_15 (by (repeat (refine up1n (by omega) ?_)); assumption) rfl rfl ?_
  refine r_aload_n X dX9_init_20 rfl rfl ?_
  refine r_bipush (v := nI 13) X dX9_init_21 (by decide) ?_
  refine t_newI X dX9_init_23 rfl (by decide) (by first | omega | decide | (simp only [rmL, rmA]; omega)) (by first | omega | decide | (simp only [rmL, rmA]; omega)) ?_
  refine r_putR (o := some _) X dX9_init_25 fX9_18 wX9_18 (by (repeat (refine up1n (by omega) ?_)); assumption) rfl rfl ?_
  refine r_aload_n X dX9_init_28 rfl rfl ?_
  refine r_sipush (v := nI 334) X dX9_init_29 (by decide) ?_
  refine t_newI X dX9_init_32 rfl (by decide) (by first | omega | decide | (simp only [rmL, rmA]; omega)) (by first | omega | decide | (simp only [rmL, rmA]; omega)) ?_
  refine r_putR (o := some _) X dX9_init_34 fX9_21 wX9_21 (by (repeat (refine up1n (by omega) ?_)); assumption) rfl rfl ?_
  refine r_aload_n X dX9_init_37 rfl rfl ?_
  refine r_iconst (v := 0) X dX9_init_38 (by decide) ?_
  refine r_putI X dX9_init_39 fX9_24 wX9_24 (by (repeat (refine up1n (by omega) ?_)); assumption) rfl rfl ?_
  refine r_aload_n X dX9_init_42 rfl rfl ?_
  refine r_getR X dX9_init_43 fX9_21 (by (repeat (refine up1n (by omega) ?_)); assumption) (up2_same _ _ _ _) ?_
  refine r_bipush (v := -20) X dX9_init_46 (by decide) ?_
  refine q_callS X dX9_init_48 mX9_28 cwJ7_fill_53178 (c_fill GE _ _ _ _ _ (b + 1 + 1 + 1 + 1) 334 _ (if_pos rfl) (by decide)) rfl rfl (Nat.le_of_ble_eq_true rfl) ⟨Nat.le_of_ble_eq_true rfl, Nat.le_of_ble_eq_true rfl⟩ ⟨(by first | omega | decide | (simp only [rmL, rmA]; omega)), (by first | omega | decide | (simp only [rmL, rmA]; omega))⟩ ?_
  rintro _ _ ⟨rfl, rfl⟩
  refine r_return X dX9_init_51 (by first | omega | decide | (simp only [rmL, rmA]; omega)) (by first | omega | decide | (simp only [rmL, rmA]; omega)) ?_
  refine ⟨rfl, _, _, _, _, rfl, ⟨fun x hx => ?_, fun x hx => ⟨?_, ?_, ?_⟩⟩, ?_, ?_⟩
  · simp only [up1]
    repeat (rw [if_neg (by omega)])
  · funext k
    simp only [up2, zr, fillTo]
    repeat (rw [if_neg (by omega)])
  · funext k
    simp only [up2, zr]
    repeat (rw [if_neg (by omega)])
  · funext k
    simp only [zr]
    repeat (rw [if_neg (by omega)])
  · simp [TrailSh, up1, up2, zr, hs, Nat.add_assoc]
  · intro x k h1 h2
    simp only [up2, zr, fillTo]
    repeat' split
    all_goals first | rfl | (exfalso; omega) | (obtain rfl : x = b := (by omega); exact hz k)
theorem zrn {α : Type} {f : Nat → Nat → α} {a b : Nat} {x : α} (h : b ≠ a) : zr f a x b = f b := by funext k; rw [zr, if_neg h]
theorem up2r {α : Type} {f : Nat → Nat → α} {a b k : Nat} {x : α} (h : b ≠ a) : up2 f a k x b = f b := by funext j; exact up2_a h
theorem Nw.trans {b c : Nat} {S I V J S1 I1 V1 J1 S2 I2 V2 J2} (h : Nw b S I V J S1 I1 V1 J1) (g : Nw c S1 I1 V1 J1 S2 I2 V2 J2) (hbc : b < c) : Nw b S I V J S2 I2 V2 J2 :=
  ⟨fun x hx => (g.1 x (by omega)).trans (h.1 x hx), fun x hx => ⟨(g.2 x (by omega)).1.trans (h.2 x hx).1, (g.2 x (by omega)).2.1.trans (h.2 x hx).2.1, (g.2 x (by omega)).2.2.trans (h.2 x hx).2.2⟩⟩
theorem Nw.fresh {b a : Nat} {S I V J S1 I1 V1 J1} {x : Option (Nat × Nat)} (h : Nw b S I V J S1 I1 V1 J1) (hb : b < a) : Nw b S I V J (up1 S1 a x) (zr I1 a 0) (zr V1 a none) (zr J1 a 0) :=
  ⟨fun y hy => up1n (by omega) (h.1 y hy), fun y hy => ⟨(zrn (by omega)).trans (h.2 y hy).1, (zrn (by omega)).trans (h.2 y hy).2.1, (zrn (by omega)).trans (h.2 y hy).2.2⟩⟩
theorem Nw.putV {b a k : Nat} {S I V J S1 I1 V1 J1} {x : Option Nat} (h : Nw b S I V J S1 I1 V1 J1) (hb : b ≤ a) : Nw b S I V J S1 I1 (up2 V1 a k x) J1 :=
  ⟨h.1, fun y hy => ⟨(h.2 y hy).1, (up2r (by omega)).trans (h.2 y hy).2.1, (h.2 y hy).2.2⟩⟩
theorem Nw.putI {b a k : Nat} {S I V J S1 I1 V1 J1} {x : Int32} (h : Nw b S I V J S1 I1 V1 J1) (hb : b ≤ a) : Nw b S I V J S1 (up2 I1 a k x) V1 J1 :=
  ⟨h.1, fun y hy => ⟨(up2r (by omega)).trans (h.2 y hy).1, (h.2 y hy).2.1, (h.2 y hy).2.2⟩⟩
theorem Nw.refl {b : Nat} {S I V J} : Nw b S I V J S I V J := ⟨fun _ _ => rfl, fun _ _ => ⟨rfl, rfl, rfl⟩⟩
set_option maxHeartbeats 2000000 in
set_option maxRecDepth 20000 in
/-- SledHouse$Team.<init> -/
theorem n_team {E : Ev} (GE : Glob E) (S : Nat → Option (Nat × Nat)) (I : Nat → Nat → Int32) (V : Nat → Nat → Option Nat) (J : Nat → Nat → Int64) (b : Nat) (hs : S b = some (7, 0)) (hz : ∀ k, I b k = 0) : Ct E yX8_init cX8_init 1 none (rmA 2 9 91) [.ref b] (S, I, V, J, b + 1) (fun v w' => v = none ∧ ∃ S' I' V' J', w' = (S', I', V', J', b + 10) ∧ Nw b S I V J S' I' V' J' ∧ TeamSh S' V' b ∧ ∀ x k, b ≤ x → x < b + 10 → I' x k = if x = b ∧ k = 14 then -1 else 0) := by
  refine Ct.start GE (by decide) rfl (Nat.le_of_ble_eq_true rfl) (fun M X => ?_)
  have X : Cx E M RX8 cX8_init 1 (rmA 2 9 91) none "<init>" := X
  refine r_loc (L' := [some (.ref b)]) rfl ?_
  refine r_aload_n X dX8_init_0 rfl rfl ?_
  refine r_objInit X dX8_init_1 mX8_3 (Nat.le_of_ble_eq_true rfl) (Nat.le_of_ble_eq_true rfl) ?_
  refine r_aload_n X dX8_init_4 rfl rfl ?_
  refine t_new (ci := 0) X dX8_init_5 rfl kX8_9 inX0_s inX0_i (by first | omega | decide | (simp only [rmL, rmA]; omega)) (by first | omega | decide | (simp only [rmL, rmA]; omega)) ?_
  refine r_dup X dX8_init_8 rfl ?_
  refine q_callI X dX8_init_9 mX8_11 cwX0_init (n_dogs GE _ _ _ _ (b + 1) (if_pos rfl) (fun k => if_pos rfl)) rfl rfl (Nat.le_of_ble_eq_true rfl) ⟨Nat.le_of_ble_eq_true rfl, Nat.le_of_ble_eq_true rfl⟩ ⟨(by first | omega | decide | (simp only [rmL, rmA]; omega)), (by first | omega | decide | (simp only [rmL, rmA]; omega))⟩ ?_
  rintro _ _ ⟨rfl, S1, I1, V1, J1, rfl, hN1, hD1, hz1⟩
  have b1 : S1 b = some (7, 0) := (hN1.1 _ (by omega)).trans (up1n (by omega) hs)
  have z1 : I1 b = I b := (hN1.2 _ (by omega)).1.trans (zrn (by omega))
  have n1 : Nw b S I V J S1 I1 V1 J1 := (Nw.refl.fresh (by omega)).trans hN1 (by omega)
  refine r_putR (o := some _) X dX8_init_12 fX8_12 wX8_12 (by (repeat (refine up1n (by omega) ?_)); assumption) rfl rfl ?_
  refine r_aload_n X dX8_init_15 rfl rfl ?_
  refine t_new (ci := 1) X dX8_init_16 rfl kX8_18 inX1_s inX1_i (by first | omega | decide | (simp only [rmL, rmA]; omega)) (by first | omega | decide | (simp only [rmL, rmA]; omega)) ?_
  refine r_dup X dX8_init_19 rfl ?_
  refine q_callI X dX8_init_20 mX8_20 cwX1_init (n_gaps GE _ _ _ _ (b + 1 + 4) (if_pos rfl) (fun k => if_pos rfl)) rfl rfl (Nat.le_of_ble_eq_true rfl) ⟨Nat.le_of_ble_eq_true rfl, Nat.le_of_ble_eq_true rfl⟩ ⟨(by first | omega | decide | (simp only [rmL, rmA]; omega)), (by first | omega | decide | (simp only [rmL, rmA]; omega))⟩ ?_
  rintro _ _ ⟨rfl, S2, I2, V2, J2, rfl, hN2, hG2, hz2⟩
  have b2 : S2 b = some (7, 0) := (hN2.1 _ (by omega)).trans (up1n (by omega) b1)
  have z2 : I2 b = I b := ((hN2.2 _ (by omega)).1.trans (zrn (by omega))).trans z1
  have n2 : Nw b S I V J S2 I2 V2 J2 := ((n1.putV (Nat.le_refl b)).fresh (by omega)).trans hN2 (by omega)
  have v2 : V2 b 0 = some (b + 1) := (congrFun ((hN2.2 _ (by omega)).2.1.trans (zrn (by omega))) 0).trans (up2_same _ _ _ _)
  have hD2 : DogsSh S2 V2 (b + 1) := hD1.ag (fun x h1 h2 => ⟨(hN2.1 _ (by omega)).trans (up1n (by omega) rfl), ((hN2.2 _ (by omega)).2.1.trans (zrn (by omega))).trans (up2r (by omega))⟩)
  have hd2 : ∀ x k, b + 1 ≤ x → x < b + 1 + 4 → I2 x k = 0 := fun x k h1 h2 => (congrFun ((hN2.2 _ (by omega)).1.trans (zrn (by omega))) k).trans (hz1 x k h1 h2)
  refine r_putR (o := some _) X dX8_init_23 fX8_21 wX8_21 (by (repeat (refine up1n (by omega) ?_)); assumption) rfl rfl ?_
  refine r_aload_n X dX8_init_26 rfl rfl ?_
  refine r_bipush (v := nI 13) X dX8_init_27 (by decide) ?_
  refine t_newI X dX8_init_29 rfl (by decide) (by first | omega | decide | (simp only [rmL, rmA]; omega)) (by first | omega | decide | (simp only [rmL, rmA]; omega)) ?_
  refine r_putR (o := some _) X dX8_init_31 fX8_25 wX8_25 (by (repeat (refine up1n (by omega) ?_)); assumption) rfl rfl ?_
  refine r_aload_n X dX8_init_34 rfl rfl ?_
  refine r_bipush (v := nI 13) X dX8_init_35 (by decide) ?_
  refine t_newI X dX8_init_37 rfl (by decide) (by first | omega | decide | (simp only [rmL, rmA]; omega)) (by first | omega | decide | (simp only [rmL, rmA]; omega)) ?_
  refine r_putR (o := some _) X dX8_init_39 fX8_29 wX8_29 (by (repeat (refine up1n (by omega) ?_)); assumption) rfl rfl ?_
  refine r_aload_n X dX8_init_42 rfl rfl ?_
  refine r_iconst (v := 0) X dX8_init_43 (by decide) ?_
  refine r_putI X dX8_init_44 fX8_32 wX8_32 (by (repeat (refine up1n (by omega) ?_)); assumption) rfl rfl ?_
  refine r_aload_n X dX8_init_47 rfl rfl ?_
  refine r_iconst (v := 0) X dX8_init_48 (by decide) ?_
  refine r_putI X dX8_init_49 fX8_36 wX8_36 (by (repeat (refine up1n (by omega) ?_)); assumption) rfl rfl ?_
  refine r_aload_n X dX8_init_52 rfl rfl ?_
  refine r_iconst (v := 0) X dX8_init_53 (by decide) ?_
  refine r_putI X dX8_init_54 fX8_39 wX8_39 (by (repeat (refine up1n (by omega) ?_)); assumption) rfl rfl ?_
  refine r_aload_n X dX8_init_57 rfl rfl ?_
  refine r_iconst (v := 0) X dX8_init_58 (by decide) ?_
  refine r_putI X dX8_init_59 fX8_42 wX8_42 (by (repeat (refine up1n (by omega) ?_)); assumption) rfl rfl ?_
  refine r_aload_n X dX8_init_62 rfl rfl ?_
  refine r_iconst (v := 0) X dX8_init_63 (by decide) ?_
  refine r_putI X dX8_init_64 fX8_45 wX8_45 (by (repeat (refine up1n (by omega) ?_)); assumption) rfl rfl ?_
  refine r_aload_n X dX8_init_67 rfl rfl ?_
  refine r_iconst (v := 0) X dX8_init_68 (by decide) ?_
  refine r_putI X dX8_init_69 fX8_48 wX8_48 (by (repeat (refine up1n (by omega) ?_)); assumption) rfl rfl ?_
  refine r_aload_n X dX8_init_72 rfl rfl ?_
  refine r_iconst (v := 0) X dX8_init_73 (by decide) ?_
  refine r_putI X dX8_init_74 fX8_51 wX8_51 (by (repeat (refine up1n (by omega) ?_)); assumption) rfl rfl ?_
  refine r_aload_n X dX8_init_77 rfl rfl ?_
  refine r_iconst (v := 0) X dX8_init_78 (by decide) ?_
  refine r_putI X dX8_init_79 fX8_54 wX8_54 (by (repeat (refine up1n (by omega) ?_)); assumption) rfl rfl ?_
  refine r_aload_n X dX8_init_82 rfl rfl ?_
  refine r_iconst (v := 0) X dX8_init_83 (by decide) ?_
  refine r_putI X dX8_init_84 fX8_57 wX8_57 (by (repeat (refine up1n (by omega) ?_)); assumption) rfl rfl ?_
  refine r_aload_n X dX8_init_87 rfl rfl ?_
  refine r_iconst (v := 0) X dX8_init_88 (by decide) ?_
  refine r_putI X dX8_init_89 fX8_60 wX8_60 (by (repeat (refine up1n (by omega) ?_)); assumption) rfl rfl ?_
  refine r_aload_n X dX8_init_92 rfl rfl ?_
  refine r_iconst (v := -1) X dX8_init_93 (by decide) ?_
  refine r_putI X dX8_init_94 fX8_63 wX8_63 (by (repeat (refine up1n (by omega) ?_)); assumption) rfl rfl ?_
  refine r_return X dX8_init_97 (by first | omega | decide | (simp only [rmL, rmA]; omega)) (by first | omega | decide | (simp only [rmL, rmA]; omega)) ?_
  refine ⟨rfl, _, _, _, _, rfl, ?_, ⟨?_, ?_, ?_, ?_, ?_, ?_, ?_, ?_, ?_⟩, ?_⟩
  · refine ⟨fun x hx => ?_, fun x hx => ⟨?_, ?_, ?_⟩⟩
    · exact up1n (by omega) (up1n (by omega) (n2.1 x hx))
    · refine Eq.trans ?_ (n2.2 x hx).1
      funext k
      simp only [up2, zr]
      repeat (rw [if_neg (by omega)])
    · refine Eq.trans ?_ (n2.2 x hx).2.1
      funext k
      simp only [up2, zr]
      repeat (rw [if_neg (by omega)])
    · refine Eq.trans ?_ (n2.2 x hx).2.2
      funext k
      simp only [zr]
      repeat (rw [if_neg (by omega)])
  · exact up1n (by omega) (up1n (by omega) b2)
  · simp [up2, zr, v2, Nat.add_assoc]
  · simp [up2, zr, Nat.add_assoc]
  · simp [up2, zr, Nat.add_assoc]
  · simp [up2, zr, Nat.add_assoc]
  · refine hD2.ag (fun x h1 h2 => ⟨up1n (by omega) (up1n (by omega) rfl), ?_⟩)
    funext k
    simp only [up2, zr]
    repeat (rw [if_neg (by omega)])
  · refine hG2.ag (fun x h1 h2 => ⟨up1n (by omega) (up1n (by omega) rfl), ?_⟩)
    funext k
    simp only [up2, zr]
    repeat (rw [if_neg (by omega)])
  · simp [up1, Nat.add_assoc]
  · simp [up1, Nat.add_assoc]
  · intro x k h1 h2
    have hzz : x < b + 8 → I2 x k = 0 := fun h3 => by
      rcases Nat.lt_or_ge x (b + 5) with y | y
      · rcases Nat.lt_or_ge x (b + 1) with y2 | y2
        · obtain rfl : x = b := by omega
          rw [z2]
          exact hz k
        · exact hd2 x k y2 y
      · exact hz2 x k (by omega) (by omega)
    by_cases hxb : x = b
    · subst hxb
      have hI := hzz (by omega)
      simp only [up2, zr]
      rw [if_neg (show ¬ x = x + 1 + 4 + 3 + 1 by omega), if_neg (show ¬ x = x + 1 + 4 + 3 by omega), hI]
      simp only [ite_self]
    · simp only [up2, zr, hxb, false_and, if_false]
      by_cases h9 : x = b + 1 + 4 + 3 + 1
      · rw [if_pos h9]
      · rw [if_neg h9]
        by_cases h8 : x = b + 1 + 4 + 3
        · rw [if_pos h8]
        · rw [if_neg h8]
          exact hzz (by omega)
/-- a team new made at t, its cells known -/
def TeamNew (I : Mem) (t : Nat) : Prop := ∀ x k, t ≤ x → x < t + 10 → I x k = if x = t ∧ k = 14 then -1 else 0
theorem TeamNew.keep {I I' : Mem} {t : Nat} (h : TeamNew I t) (hk : ∀ x, t ≤ x → x < t + 10 → I' x = I x) : TeamNew I' t := fun x k h1 h2 => (congrFun (hk x h1 h2) k).trans (h x k h1 h2)
set_option maxHeartbeats 2000000 in
set_option maxRecDepth 20000 in
/-- SledHouse$Race.<init> -/
theorem n_race {E : Ev} (GE : Glob E) (S : Nat → Option (Nat × Nat)) (I : Nat → Nat → Int32) (V : Nat → Nat → Option Nat) (J : Nat → Nat → Int64) (b : Nat) (hs : S b = some (4, 0)) (hz : ∀ k, I b k = 0) : Ct E yX5_init cX5_init 2 none (rmA 4 66 1018) [.ref b] (S, I, V, J, b + 1) (fun v w' => v = none ∧ ∃ S' I' V' J', w' = (S', I', V', J', b + 67) ∧ Nw b S I V J S' I' V' J' ∧ RaceSh S' V' b ∧ (∀ k, I' b k = if k = 4 then 6 else 0) ∧ (∀ x k, b + 1 ≤ x → x < b + 6 → I' x k = if x = b + 5 ∧ k < 334 then -20 else 0) ∧ ∀ i, i < 6 → TeamNew I' (b + 7 + 10 * i)) := by
  refine Ct.start GE (by decide) rfl (Nat.le_of_ble_eq_true rfl) (fun M X => ?_)
  have X : Cx E M RX5 cX5_init 2 (rmA 4 66 1018) none "<init>" := X
  refine r_loc (L' := [some (.ref b), none]) rfl ?_
  have H : ∀ j, j ≤ 6 → ∀ S' I' V' J', Nw b S I V J S' I' V' J' → S' b = some (4, 0) → V' b 0 = some (b + 1) → V' b 1 = some (b + 6) → TrailSh S' V' (b + 1) → S' (b + 6) = some (105, 6) → (∀ i, i < j → V' (b + 6) i = some (b + 7 + 10 * i) ∧ TeamSh S' V' (b + 7 + 10 * i)) → (∀ k, I' b k = if k = 4 then 6 else 0) → (∀ x k, b + 1 ≤ x → x < b + 6 → I' x k = if x = b + 5 ∧ k < 334 then -20 else 0) → (∀ i, i < j → TeamNew I' (b + 7 + 10 * i)) → G E M (6 + 10 * j) (382 + 106 * j) (qQ E M (rmA 4 66 1018) (fun v w' => v = none ∧ ∃ S' I' V' J', w' = (S', I', V', J', b + 67) ∧ Nw b S I V J S' I' V' J' ∧ RaceSh S' V' b ∧ (∀ k, I' b k = if k = 4 then 6 else 0) ∧ (∀ x k, b + 1 ≤ x → x < b + 6 → I' x k = if x = b + 5 ∧ k < 334 then -20 else 0) ∧ ∀ i, i < 6 → TeamNew I' (b + 7 + 10 * i))) 42 [some (.ref b), some (.int (nI j))] [] (S', I', V', J', b + 7 + 10 * j) := by
    refine loopN 6 (fun j hj ih => ?_)
    intro S' I' V' J' hn hb hv0 hv1 hT hs6 hte hb0 htr htn
    refine r_iload_n X dX5_init_42 rfl rfl ?_
    refine r_bipush (v := nI 6) X dX5_init_43 (by decide) ?_
    refine r_icmpN_ge (tgt := 67) X dX5_init_45 (by decide) (by omega) (by omega) (fun h45 => ?_) (fun h45 => ?_)
    · skip
      refine r_return X dX5_init_67 (by first | omega | decide | (simp only [rmL, rmA]; omega)) (by first | omega | decide | (simp only [rmL, rmA]; omega)) ?_
      obtain rfl : j = 6 := by omega
      exact ⟨rfl, _, _, _, _, rfl, hn, ⟨hb, hv0, hv1, hT, hs6, hte⟩, hb0, htr, htn⟩
    · skip
      refine r_aload_n X dX5_init_48 rfl rfl ?_
      refine r_getR X dX5_init_49 fX5_20 (by (repeat (refine up1n (by omega) ?_)); assumption) (by assumption) ?_
      refine r_iload_n X dX5_init_52 rfl rfl ?_
      refine t_new (ci := 7) X dX5_init_53 rfl kX5_18 inX8_s inX8_i (by first | omega | decide | (simp only [rmL, rmA]; omega)) (by first | omega | decide | (simp only [rmL, rmA]; omega)) ?_
      refine r_dup X dX5_init_56 rfl ?_
      refine q_callI X dX5_init_57 mX5_34 cwX8_init (n_team GE _ _ _ _ (b + 7 + 10 * j) (if_pos rfl) (fun k => if_pos rfl)) rfl rfl (Nat.le_of_ble_eq_true rfl) ⟨Nat.le_of_ble_eq_true rfl, Nat.le_of_ble_eq_true rfl⟩ ⟨(by first | omega | decide | (simp only [rmL, rmA]; omega)), (by first | omega | decide | (simp only [rmL, rmA]; omega))⟩ ?_
      rintro _ _ ⟨rfl, S1, I1, V1, J1, rfl, hN1, hT1, hz1⟩
      have s6 : S1 (b + 6) = some (105, 6) := (hN1.1 _ (by omega)).trans (up1n (by omega) hs6)
      have sj : S1 (b + 7 + 10 * j) = some (7, 0) := hT1.1
      refine r_aastN (k := 105) X dX5_init_60 (by decide) (by (repeat (refine up1n (by omega) ?_)); assumption) (by (repeat (refine up1n (by omega) ?_)); assumption) rfl rfl (by omega) (by omega) ?_
      first | refine r_iincN X dX5_init_61 rfl (by decide) rfl ?_ | refine r_iinc X dX5_init_61 rfl rfl (by decide) rfl ?_
      refine r_goto (tgt := 42) X dX5_init_64 (by decide) ?_
      refine ih (by omega) _ _ _ _ (((hn.fresh (by omega)).trans hN1 (by omega)).putV (by omega)) ?_ ?_ ?_ ?_ s6 ?_ ?_ ?_ ?_
      · exact (hN1.1 _ (by omega)).trans (up1n (by omega) hb)
      · exact (congrFun ((up2r (by omega)).trans ((hN1.2 _ (by omega)).2.1.trans (zrn (by omega)))) 0).trans hv0
      · exact (congrFun ((up2r (by omega)).trans ((hN1.2 _ (by omega)).2.1.trans (zrn (by omega)))) 1).trans hv1
      · exact hT.ag (fun x h1 h2 => ⟨(hN1.1 _ (by omega)).trans (up1n (by omega) rfl), (up2r (by omega)).trans ((hN1.2 _ (by omega)).2.1.trans (zrn (by omega)))⟩)
      · intro i hi
        rcases Nat.lt_or_ge i j with y | y
        · exact ⟨(up2_k (by omega)).trans ((congrFun ((hN1.2 _ (by omega)).2.1.trans (zrn (by omega))) i).trans (hte i y).1), (hte i y).2.ag (fun x h1 h2 => ⟨(hN1.1 _ (by omega)).trans (up1n (by omega) rfl), (up2r (by omega)).trans ((hN1.2 _ (by omega)).2.1.trans (zrn (by omega)))⟩)⟩
        · obtain rfl : i = j := by omega
          exact ⟨up2_same _ _ _ _, hT1.ag (fun x h1 h2 => ⟨rfl, up2r (by omega)⟩)⟩
      · intro k
        exact (congrFun ((hN1.2 _ (by omega)).1.trans (zrn (by omega))) k).trans (hb0 k)
      · intro x k h1 h2
        exact (congrFun ((hN1.2 _ (by omega)).1.trans (zrn (by omega))) k).trans (htr x k h1 h2)
      · intro i hi
        rcases Nat.lt_or_ge i j with y | y
        · exact (htn i y).keep (fun x h1 h2 => (hN1.2 _ (by omega)).1.trans (zrn (by omega)))
        · obtain rfl : i = j := by omega
          exact hz1
  refine r_aload_n X dX5_init_0 rfl rfl ?_
  refine r_objInit X dX5_init_1 mX5_3 (Nat.le_of_ble_eq_true rfl) (Nat.le_of_ble_eq_true rfl) ?_
  refine r_aload_n X dX5_init_4 rfl rfl ?_
  refine t_new (ci := 8) X dX5_init_5 rfl kX5_9 inX9_s inX9_i (by first | omega | decide | (simp only [rmL, rmA]; omega)) (by first | omega | decide | (simp only [rmL, rmA]; omega)) ?_
  refine r_dup X dX5_init_8 rfl ?_
  refine q_callI X dX5_init_9 mX5_11 cwX9_init (n_trail GE _ _ _ _ (b + 1) (if_pos rfl) (fun k => if_pos rfl)) rfl rfl (Nat.le_of_ble_eq_true rfl) ⟨Nat.le_of_ble_eq_true rfl, Nat.le_of_ble_eq_true rfl⟩ ⟨(by first | omega | decide | (simp only [rmL, rmA]; omega)), (by first | omega | decide | (simp only [rmL, rmA]; omega))⟩ ?_
  rintro _ _ ⟨rfl, S1, I1, V1, J1, rfl, hN1, hT1, hz1⟩
  have b1 : S1 b = some (4, 0) := (hN1.1 _ (by omega)).trans (up1n (by omega) hs)
  have z1 : I1 b = I b := (hN1.2 _ (by omega)).1.trans (zrn (by omega))
  have n1 : Nw b S I V J S1 I1 V1 J1 := (Nw.refl.fresh (by omega)).trans hN1 (by omega)
  refine r_putR (o := some _) X dX5_init_12 fX5_12 wX5_12 (by (repeat (refine up1n (by omega) ?_)); assumption) rfl rfl ?_
  refine r_aload_n X dX5_init_15 rfl rfl ?_
  refine r_bipush (v := nI 6) X dX5_init_16 (by decide) ?_
  refine t_anew (k := 105) X dX5_init_18 (by decide) rfl kX5_18 aoX8 rfl (by decide) (by first | omega | decide | (simp only [rmL, rmA]; omega)) (by first | omega | decide | (simp only [rmL, rmA]; omega)) ?_
  refine r_putR (o := some _) X dX5_init_21 fX5_20 wX5_20 (by (repeat (refine up1n (by omega) ?_)); assumption) rfl rfl ?_
  refine r_aload_n X dX5_init_24 rfl rfl ?_
  refine r_iconst (v := 0) X dX5_init_25 (by decide) ?_
  refine r_putI X dX5_init_26 fX5_24 wX5_24 (by (repeat (refine up1n (by omega) ?_)); assumption) rfl rfl ?_
  refine r_aload_n X dX5_init_29 rfl rfl ?_
  refine r_iconst (v := 0) X dX5_init_30 (by decide) ?_
  refine r_putI X dX5_init_31 fX5_28 wX5_28 (by (repeat (refine up1n (by omega) ?_)); assumption) rfl rfl ?_
  refine r_aload_n X dX5_init_34 rfl rfl ?_
  refine r_bipush (v := 6) X dX5_init_35 (by decide) ?_
  refine r_putI X dX5_init_37 fX5_31 wX5_31 (by (repeat (refine up1n (by omega) ?_)); assumption) rfl rfl ?_
  refine r_iconst (v := nI 0) X dX5_init_40 (by decide) ?_
  refine r_istore_n X dX5_init_41 rfl (by decide) rfl ?_
  refine H 0 (by omega) _ _ _ _ ?_ (up1n (by omega) b1) ?_ ?_ ?_ ?_ (fun i hi => absurd hi (by omega)) ?_ ?_ (fun i hi => absurd hi (by omega))
  · exact (((((n1.putV (Nat.le_refl b)).fresh (by omega)).putV (Nat.le_refl b)).putI (Nat.le_refl b)).putI (Nat.le_refl b)).putI (Nat.le_refl b)
  · simp [up2, zr, Nat.add_assoc]
  · simp [up2, zr, Nat.add_assoc]
  · refine hT1.ag (fun x h1 h2 => ⟨up1n (by omega) rfl, ?_⟩)
    funext k
    simp only [up2, zr]
    repeat (rw [if_neg (by omega)])
  · simp [up1, Nat.add_assoc]
  · intro k
    simp only [up2, zr]
    rw [if_neg (show ¬ b = b + 1 + 5 by omega), z1, hz k]
    simp only [ite_self, true_and]
  · intro x k h1 h2
    refine Eq.trans ?_ (hz1 x k h1 (by omega))
    simp only [up2, zr]
    repeat (rw [if_neg (by omega)])
