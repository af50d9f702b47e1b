/-! ===== the reference's constructor ===== -/
theorem MtSh.ag {S S' : Nat → Option (Nat × Nat)} {V V' : Nat → Nat → Option Nat} {t : Nat} (h : MtSh S V t) (hb : ∀ b, t ≤ b → b ≤ t + 9 → S' b = S b ∧ V' b = V b) : MtSh S' V' t := by
  unfold MtSh at h ⊢
  rw [(hb t (by omega) (by omega)).1, (hb t (by omega) (by omega)).2, (hb (t + 1) (by omega) (by omega)).1, (hb (t + 2) (by omega) (by omega)).1, (hb (t + 3) (by omega) (by omega)).1, (hb (t + 4) (by omega) (by omega)).1, (hb (t + 5) (by omega) (by omega)).1, (hb (t + 6) (by omega) (by omega)).1, (hb (t + 7) (by omega) (by omega)).1, (hb (t + 8) (by omega) (by omega)).1, (hb (t + 9) (by omega) (by omega)).1]
  exact h
/-- the reference but for its teams -/
def MB (S : Nat → Option (Nat × Nat)) (V : Nat → Nat → Option Nat) (g : Nat) : Prop :=
  (S g = some (12, 0) ∧ V g 8 = some (g + 1) ∧ V g 9 = some (g + 2) ∧ V g 10 = some (g + 3) ∧ V g 11 = some (g + 4) ∧ V g 16 = some (g + 5) ∧ V g 17 = some (g + 6) ∧ V g 18 = some (g + 7) ∧ V g 19 = some (g + 8) ∧ V g 20 = some (g + 9)) ∧
  (S (g + 1) = some (100, 12) ∧ S (g + 2) = some (100, 12) ∧ S (g + 3) = some (100, 334) ∧ S (g + 4) = some (106, 6) ∧ S (g + 5) = some (100, 12) ∧ S (g + 6) = some (100, 12) ∧ S (g + 7) = some (100, 334) ∧ S (g + 8) = some (106, 6)) ∧ MtSh S V (g + 9) ∧ MrSh S V g
theorem MB.ag {S S' : Nat → Option (Nat × Nat)} {V V' : Nat → Nat → Option Nat} {g : Nat} (H : MB S V g) (hS : ∀ x, g ≤ x → x < g + 28 → S' x = S x) (hV : ∀ x, g ≤ x → x < g + 28 → x ≠ g + 4 → x ≠ g + 8 → V' x = V x) : MB S' V' g := by
  obtain ⟨a, b, c, d⟩ := H
  refine ⟨?_, ?_, c.ag (fun x h1 h2 => ⟨hS x (by omega) (by omega), hV x (by omega) (by omega) (by omega) (by omega)⟩), ?_⟩
  · rw [hS g (by omega) (by omega), hV g (by omega) (by omega) (by omega) (by omega)]
    exact a
  · rw [hS _ (by omega) (by omega), hS _ (by omega) (by omega), hS _ (by omega) (by omega), hS _ (by omega) (by omega), hS _ (by omega) (by omega), hS _ (by omega) (by omega), hS _ (by omega) (by omega), hS _ (by omega) (by omega)]
    exact b
  · unfold MrSh at d ⊢
    rw [hV g (by omega) (by omega) (by omega) (by omega), hS (g + 19) (by omega) (by omega), hS (g + 20) (by omega) (by omega), hS (g + 21) (by omega) (by omega), hS (g + 22) (by omega) (by omega), hS (g + 23) (by omega) (by omega), hS (g + 24) (by omega) (by omega), hS (g + 25) (by omega) (by omega), hS (g + 26) (by omega) (by omega), hS (g + 27) (by omega) (by omega)]
    exact d
/-- the numbers of a new reference, as far as its teams before j -/
def MnI (I : Mem) (g j : Nat) : Prop := (∀ k, I g k = if k = 2 ∨ k = 12 then -1 else if k = 7 then 6 else 0) ∧ ∀ x k, g + 1 ≤ x → x < g + 28 + 20 * j → I x k = if x = g + 3 ∧ k < 334 then -20 else 0
def MnT (S : Nat → Option (Nat × Nat)) (V : Nat → Nat → Option Nat) (g j : Nat) : Prop := ∀ i, i < j → (V (g + 4) i = some (g + 28 + 20 * i) ∧ MtSh S V (g + 28 + 20 * i)) ∧ V (g + 8) i = some (g + 38 + 20 * i) ∧ MtSh S V (g + 38 + 20 * i)
theorem r_cnt {E : Ev} {M : Mc} {c c' s s' : Nat} {Q : State → Prop} {pc : Nat} {L : List (Option Value)} {st : List Value} {w : Wd} (hc : c = c') (hs : s = s') (kk : G E M c' s' Q pc L st w) : G E M c s Q pc L st w := by
  subst hc
  subst hs
  exact kk
set_option maxHeartbeats 2000000 in
set_option maxRecDepth 20000 in
/-- SledHouseModel.<init> -/
theorem n_model {E : Ev} (GE : Glob E) (S : Nat → Option (Nat × Nat)) (I : Nat → Nat → Int32) (V : Nat → Nat → Option Nat) (J : Nat → Nat → Int64) (g : Nat) (hz2 : Sta2 E) (hs : S g = some (12, 0)) (hz : ∀ k, I g k = 0) : Ct E yX13_init cX13_init 2 none (rmA 5 147 56079) [.ref g] (S, I, V, J, g + 1) (fun v w' => v = none ∧ ∃ S' I' V' J', w' = (S', I', V', J', g + 148) ∧ Nw g S I V J S' I' V' J' ∧ MdSh S' V' g ∧ MrSh S' V' g ∧ MnI I' g 6) := by
  refine Ct.start GE (by decide) rfl (Nat.le_of_ble_eq_true rfl) (fun M X => ?_)
  have X : Cx E M RX13 cX13_init 2 (rmA 5 147 56079) none "<init>" := X
  refine r_loc (L' := [some (.ref g), none]) rfl ?_
  have H2 : ∀ j, j ≤ 6 → ∀ S' I' V' J', Nw g S I V J S' I' V' J' → MB S' V' g → MnI I' g j → MnT S' V' g j → G E M (27 + 20 * j) (6807 + 8212 * j) (qQ E M (rmA 5 147 56079) (fun v w' => v = none ∧ ∃ S' I' V' J', w' = (S', I', V', J', g + 148) ∧ Nw g S I V J S' I' V' J' ∧ MdSh S' V' g ∧ MrSh S' V' g ∧ MnI I' g 6)) 203 [some (.ref g), some (.int (nI j))] [] (S', I', V', J', g + 28 + 20 * j) := by
    refine loopN 6 (fun j hj ih => ?_)
    intro S' I' V' J' hn hB hI hT
    have b0 := hB.1.1
    have v11 := hB.1.2.2.2.2.1
    have v19 := hB.1.2.2.2.2.2.2.2.2.1
    have s4 := hB.2.1.2.2.2.1
    have s8 := hB.2.1.2.2.2.2.2.2.2
    refine r_iload_n X dX13_init_203 rfl rfl ?_
    refine r_bipush (v := nI 6) X dX13_init_204 (by decide) ?_
    refine r_icmpN_ge (tgt := 241) X dX13_init_206 (by decide) (by omega) (by omega) (fun h206 => ?_) (fun h206 => ?_)
    · skip
      refine r_return X dX13_init_241 (by first | omega | decide | (simp only [rmL, rmA]; omega)) (by first | omega | decide | (simp only [rmL, rmA]; omega)) ?_
      obtain rfl : j = 6 := by omega
      obtain ⟨⟨a0, a1, a2, a3, a4, a5, a6, a7, a8, a9⟩, ⟨c1, c2, c3, c4, c5, c6, c7, c8⟩, d1, d2⟩ := hB
      exact ⟨rfl, _, _, _, _, rfl, hn, ⟨a0, a1, a2, a3, a4, a5, a6, a7, a8, a9, c1, c2, c3, c4, c5, c6, c7, c8, d1, fun i hi => (hT i hi).1, fun i hi => (hT i hi).2⟩, d2, hI⟩
    · skip
      refine r_aload_n X dX13_init_209 rfl rfl ?_
      refine r_getR X dX13_init_210 fX13_34 (by (repeat (refine up1n (by omega) ?_)); assumption) (by assumption) ?_
      refine r_iload_n X dX13_init_213 rfl rfl ?_
      refine t_new (ci := 11) X dX13_init_214 rfl kX13_32 inX12_s inX12_i (by first | omega | decide | (simp only [rmL, rmA]; omega)) (by first | omega | decide | (simp only [rmL, rmA]; omega)) ?_
      refine r_dup X dX13_init_217 rfl ?_
      refine q_callI X dX13_init_218 mX13_53 cwX12_init (n_mteam GE _ _ _ _ (g + 28 + 20 * j) (if_pos rfl) (fun k => if_pos rfl)) rfl rfl (Nat.le_of_ble_eq_true rfl) ⟨Nat.le_of_ble_eq_true rfl, Nat.le_of_ble_eq_true rfl⟩ ⟨(by first | omega | decide | (simp only [rmL, rmA]; omega)), (by first | omega | decide | (simp only [rmL, rmA]; omega))⟩ ?_
      rintro _ _ ⟨rfl, S1, I1, V1, J1, rfl, hN1, hT1, hz1⟩
      have hS1 : ∀ x, x < g + 28 + 20 * j → S1 x = S' x := fun x hx => (hN1.1 x (by omega)).trans (up1n (by omega) rfl)
      have hI1 : ∀ x, x < g + 28 + 20 * j → I1 x = I' x := fun x hx => (hN1.2 x hx).1.trans (zrn (by omega))
      have hV1 : ∀ x, x < g + 28 + 20 * j → V1 x = V' x := fun x hx => (hN1.2 x hx).2.1.trans (zrn (by omega))
      have b1 : S1 g = some (12, 0) := (hS1 _ (by omega)).trans b0
      have s41 : S1 (g + 4) = some (106, 6) := (hS1 _ (by omega)).trans s4
      have s81 : S1 (g + 8) = some (106, 6) := (hS1 _ (by omega)).trans s8
      have sj1 : S1 (g + 28 + 20 * j) = some (11, 0) := hT1.1
      have n1 : Nw g S I V J S1 I1 (up2 V1 (g + 4) j (some (g + 28 + 20 * j))) J1 := ((hn.fresh (by omega)).trans hN1 (by omega)).putV (by omega)
      have v191 : up2 V1 (g + 4) j (some (g + 28 + 20 * j)) g 19 = some (g + 8) := (up2_a (by omega)).trans ((congrFun (hV1 _ (by omega)) 19).trans v19)
      refine r_world (w' := (S1, I1, V1, J1, g + 38 + 20 * j)) (by rw [show g + 38 + 20 * j = g + 28 + 20 * j + 10 by omega]) ?_
      refine r_aastN (k := 106) X dX13_init_221 (by decide) (by (repeat (refine up1n (by omega) ?_)); assumption) (by (repeat (refine up1n (by omega) ?_)); assumption) rfl rfl (by omega) (by omega) ?_
      refine r_aload_n X dX13_init_222 rfl rfl ?_
      refine r_getR X dX13_init_223 fX13_50 (by (repeat (refine up1n (by omega) ?_)); assumption) (by assumption) ?_
      refine r_iload_n X dX13_init_226 rfl rfl ?_
      refine t_new (ci := 11) X dX13_init_227 rfl kX13_32 inX12_s inX12_i (by first | omega | decide | (simp only [rmL, rmA]; omega)) (by first | omega | decide | (simp only [rmL, rmA]; omega)) ?_
      refine r_dup X dX13_init_230 rfl ?_
      refine q_callI X dX13_init_231 mX13_53 cwX12_init (n_mteam GE _ _ _ _ (g + 38 + 20 * j) (if_pos rfl) (fun k => if_pos rfl)) rfl rfl (Nat.le_of_ble_eq_true rfl) ⟨Nat.le_of_ble_eq_true rfl, Nat.le_of_ble_eq_true rfl⟩ ⟨(by first | omega | decide | (simp only [rmL, rmA]; omega)), (by first | omega | decide | (simp only [rmL, rmA]; omega))⟩ ?_
      rintro _ _ ⟨rfl, S2, I2, V2, J2, rfl, hN2, hT2, hz2'⟩
      have hS2 : ∀ x, x < g + 38 + 20 * j → S2 x = S1 x := fun x hx => (hN2.1 x (by omega)).trans (up1n (by omega) rfl)
      have hI2 : ∀ x, x < g + 38 + 20 * j → I2 x = I1 x := fun x hx => (hN2.2 x hx).1.trans (zrn (by omega))
      have hV2 : ∀ x, x < g + 38 + 20 * j → V2 x = up2 V1 (g + 4) j (some (g + 28 + 20 * j)) x := fun x hx => (hN2.2 x hx).2.1.trans (zrn (by omega))
      have b2 : S2 g = some (12, 0) := (hS2 _ (by omega)).trans b1
      have s82 : S2 (g + 8) = some (106, 6) := (hS2 _ (by omega)).trans s81
      have sj2 : S2 (g + 38 + 20 * j) = some (11, 0) := hT2.1
      refine r_aastN (k := 106) X dX13_init_234 (by decide) (by (repeat (refine up1n (by omega) ?_)); assumption) (by (repeat (refine up1n (by omega) ?_)); assumption) rfl rfl (by omega) (by omega) ?_
      first | refine r_iincN X dX13_init_235 rfl (by decide) rfl ?_ | refine r_iinc X dX13_init_235 rfl rfl (by decide) rfl ?_
      refine r_goto (tgt := 203) X dX13_init_238 (by decide) ?_
      refine r_world (w' := (S2, I2, up2 V2 (g + 8) j (some (g + 38 + 20 * j)), J2, g + 28 + 20 * (j + 1))) (by rw [show g + 28 + 20 * (j + 1) = g + 38 + 20 * j + 10 by omega]) ?_
      refine r_cnt (c' := 27 + 20 * (j + 1)) (s' := 6807 + 8212 * (j + 1)) (by show 27 + 20 * j + 1 + 9 + 1 + 9 = 27 + 20 * (j + 1); omega) (by show 6807 + 8212 * j + 24 + 4082 + 24 + 4082 = 6807 + 8212 * (j + 1); omega) ?_
      refine ih (by omega) _ _ _ _ (((n1.fresh (by omega)).trans hN2 (by omega)).putV (by omega)) ?_ ?_ ?_
      · exact hB.ag (fun x h1 h2 => (hS2 x (by omega)).trans (hS1 x (by omega))) (fun x h1 h2 h3 h4 => (up2r h4).trans ((hV2 x (by omega)).trans ((up2r h3).trans (hV1 x (by omega)))))
      · refine ⟨fun k => (congrFun (hI2 g (by omega)) k).trans ((congrFun (hI1 g (by omega)) k).trans (hI.1 k)), fun x k h1 h2 => ?_⟩
        rcases Nat.lt_or_ge x (g + 28 + 20 * j) with y | y
        · exact (congrFun (hI2 x (by omega)) k).trans ((congrFun (hI1 x (by omega)) k).trans (hI.2 x k h1 y))
        · rw [if_neg (by omega)]
          rcases Nat.lt_or_ge x (g + 38 + 20 * j) with y2 | y2
          · exact (congrFun (hI2 x (by omega)) k).trans (hz1 x k (by omega) (by omega))
          · exact hz2' x k (by omega) (by omega)
      · intro i hi
        rcases Nat.lt_or_ge i j with y | y
        · obtain ⟨⟨q1, q2⟩, q3, q4⟩ := hT i y
          refine ⟨⟨?_, ?_⟩, ?_, ?_⟩
          · exact (up2_a (by omega)).trans ((congrFun (hV2 _ (by omega)) i).trans ((up2_k (by omega)).trans ((congrFun (hV1 _ (by omega)) i).trans q1)))
          · exact q2.ag (fun x h1 h2 => ⟨(hS2 x (by omega)).trans (hS1 x (by omega)), (up2r (by omega)).trans ((hV2 x (by omega)).trans ((up2r (by omega)).trans (hV1 x (by omega))))⟩)
          · exact (up2_k (by omega)).trans ((congrFun (hV2 _ (by omega)) i).trans ((up2_a (by omega)).trans ((congrFun (hV1 _ (by omega)) i).trans q3)))
          · exact q4.ag (fun x h1 h2 => ⟨(hS2 x (by omega)).trans (hS1 x (by omega)), (up2r (by omega)).trans ((hV2 x (by omega)).trans ((up2r (by omega)).trans (hV1 x (by omega))))⟩)
        · obtain rfl : i = j := by omega
          refine ⟨⟨?_, ?_⟩, up2_same _ _ _ _, ?_⟩
          · exact (up2_a (by omega)).trans ((congrFun (hV2 _ (by omega)) i).trans (up2_same _ _ _ _))
          · exact hT1.ag (fun x h1 h2 => ⟨hS2 x (by omega), (up2r (by omega)).trans ((hV2 x (by omega)).trans (up2r (by omega)))⟩)
          · exact hT2.ag (fun x h1 h2 => ⟨rfl, up2r (by omega)⟩)
  have H1 : ∀ j, j ≤ 334 → ∀ S' I' V' J', Nw g S I V J S' I' V' J' → MB S' V' g → (∀ k, I' g k = if k = 2 ∨ k = 12 then -1 else if k = 7 then 6 else 0) → (∀ x k, g + 1 ≤ x → x < g + 28 → I' x k = if x = g + 3 ∧ k < j then -20 else 0) → G E M 27 6807 (qQ E M (rmA 5 147 56079) (fun v w' => v = none ∧ ∃ S' I' V' J', w' = (S', I', V', J', g + 148) ∧ Nw g S I V J S' I' V' J' ∧ MdSh S' V' g ∧ MrSh S' V' g ∧ MnI I' g 6)) 180 [some (.ref g), some (.int (nI j))] [] (S', I', V', J', g + 28) := by
    refine loopN 334 (fun j hj ih => ?_)
    intro S' I' V' J' hn hB hI1 hI2
    have b0 := hB.1.1
    have v10 := hB.1.2.2.2.1
    have s3 := hB.2.1.2.2.1
    refine r_iload_n X dX13_init_180 rfl rfl ?_
    refine r_sipush (v := nI 334) X dX13_init_181 (by decide) ?_
    refine r_icmpN_ge (tgt := 201) X dX13_init_184 (by decide) (by omega) (by omega) (fun h184 => ?_) (fun h184 => ?_)
    · skip
      refine r_iconst (v := nI 0) X dX13_init_201 (by decide) ?_
      refine r_istore_n X dX13_init_202 rfl (by decide) rfl ?_
      obtain rfl : j = 334 := by omega
      exact H2 0 (by omega) _ _ _ _ hn hB ⟨hI1, fun x k h1 h2 => hI2 x k h1 (by omega)⟩ (fun i hi => absurd hi (by omega))
    · skip
      refine r_aload_n X dX13_init_187 rfl rfl ?_
      refine r_getR X dX13_init_188 fX13_29 (by assumption) (by assumption) ?_
      refine r_iload_n X dX13_init_191 rfl rfl ?_
      refine r_bipush (v := -20) X dX13_init_192 (by decide) ?_
      refine r_iastN X dX13_init_194 (by assumption) (by omega) (by omega) ?_
      first | refine r_iincN X dX13_init_195 rfl (by decide) rfl ?_ | refine r_iinc X dX13_init_195 rfl rfl (by decide) rfl ?_
      refine r_goto (tgt := 180) X dX13_init_198 (by decide) ?_
      refine ih (by omega) _ _ _ _ (hn.putI (by omega)) hB (fun k => (up2_a (by omega)).trans (hI1 k)) (fun x k h1 h2 => ?_)
      by_cases hx : x = g + 3
      · subst hx
        by_cases hk : k = j
        · subst hk
          rw [up2_same, if_pos (by omega)]
        · rw [up2_k hk, hI2 _ k h1 h2]
          by_cases hk2 : k < j
          · rw [if_pos (by omega), if_pos (by omega)]
          · rw [if_neg (by omega), if_neg (by omega)]
      · rw [up2_a hx, hI2 x k h1 h2, if_neg (by omega), if_neg (by omega)]
  refine r_aload_n X dX13_init_0 rfl rfl ?_
  refine r_objInit X dX13_init_1 mX13_13 (Nat.le_of_ble_eq_true rfl) (Nat.le_of_ble_eq_true rfl) ?_
  refine r_aload_n X dX13_init_4 rfl rfl ?_
  refine r_iconst (v := -1) X dX13_init_5 (by decide) ?_
  refine r_putI X dX13_init_6 fX13_10 wX13_10 (by (repeat (refine up1n (by omega) ?_)); assumption) rfl rfl ?_
  refine r_aload_n X dX13_init_9 rfl rfl ?_
  refine r_bipush (v := 6) X dX13_init_10 (by decide) ?_
  refine r_putI X dX13_init_12 fX13_19 wX13_19 (by (repeat (refine up1n (by omega) ?_)); assumption) rfl rfl ?_
  refine r_aload_n X dX13_init_15 rfl rfl ?_
  refine r_bipush (v := nI 12) X dX13_init_16 (by decide) ?_
  refine t_newI X dX13_init_18 rfl (by decide) (by first | omega | decide | (simp only [rmL, rmA]; omega)) (by first | omega | decide | (simp only [rmL, rmA]; omega)) ?_
  refine r_putR (o := some _) X dX13_init_20 fX13_22 wX13_22 (by (repeat (refine up1n (by omega) ?_)); assumption) rfl rfl ?_
  refine r_aload_n X dX13_init_23 rfl rfl ?_
  refine r_bipush (v := nI 12) X dX13_init_24 (by decide) ?_
  refine t_newI X dX13_init_26 rfl (by decide) (by first | omega | decide | (simp only [rmL, rmA]; omega)) (by first | omega | decide | (simp only [rmL, rmA]; omega)) ?_
  refine r_putR (o := some _) X dX13_init_28 fX13_26 wX13_26 (by (repeat (refine up1n (by omega) ?_)); assumption) rfl rfl ?_
  refine r_aload_n X dX13_init_31 rfl rfl ?_
  refine r_sipush (v := nI 334) X dX13_init_32 (by decide) ?_
  refine t_newI X dX13_init_35 rfl (by decide) (by first | omega | decide | (simp only [rmL, rmA]; omega)) (by first | omega | decide | (simp only [rmL, rmA]; omega)) ?_
  refine r_putR (o := some _) X dX13_init_37 fX13_29 wX13_29 (by (repeat (refine up1n (by omega) ?_)); assumption) rfl rfl ?_
  refine r_aload_n X dX13_init_40 rfl rfl ?_
  refine r_bipush (v := nI 6) X dX13_init_41 (by decide) ?_
  refine t_anew (k := 106) X dX13_init_43 (by decide) rfl kX13_32 aoX12 rfl (by decide) (by first | omega | decide | (simp only [rmL, rmA]; omega)) (by first | omega | decide | (simp only [rmL, rmA]; omega)) ?_
  refine r_putR (o := some _) X dX13_init_46 fX13_34 wX13_34 (by (repeat (refine up1n (by omega) ?_)); assumption) rfl rfl ?_
  refine r_aload_n X dX13_init_49 rfl rfl ?_
  refine r_iconst (v := -1) X dX13_init_50 (by decide) ?_
  refine r_putI X dX13_init_51 fX13_38 wX13_38 (by (repeat (refine up1n (by omega) ?_)); assumption) rfl rfl ?_
  refine r_aload_n X dX13_init_54 rfl rfl ?_
  refine r_bipush (v := nI 12) X dX13_init_55 (by decide) ?_
  refine t_newI X dX13_init_57 rfl (by decide) (by first | omega | decide | (simp only [rmL, rmA]; omega)) (by first | omega | decide | (simp only [rmL, rmA]; omega)) ?_
  refine r_putR (o := some _) X dX13_init_59 fX13_41 wX13_41 (by (repeat (refine up1n (by omega) ?_)); assumption) rfl rfl ?_
  refine r_aload_n X dX13_init_62 rfl rfl ?_
  refine r_bipush (v := nI 12) X dX13_init_63 (by decide) ?_
  refine t_newI X dX13_init_65 rfl (by decide) (by first | omega | decide | (simp only [rmL, rmA]; omega)) (by first | omega | decide | (simp only [rmL, rmA]; omega)) ?_
  refine r_putR (o := some _) X dX13_init_67 fX13_44 wX13_44 (by (repeat (refine up1n (by omega) ?_)); assumption) rfl rfl ?_
  refine r_aload_n X dX13_init_70 rfl rfl ?_
  refine r_sipush (v := nI 334) X dX13_init_71 (by decide) ?_
  refine t_newI X dX13_init_74 rfl (by decide) (by first | omega | decide | (simp only [rmL, rmA]; omega)) (by first | omega | decide | (simp only [rmL, rmA]; omega)) ?_
  refine r_putR (o := some _) X dX13_init_76 fX13_47 wX13_47 (by (repeat (refine up1n (by omega) ?_)); assumption) rfl rfl ?_
  refine r_aload_n X dX13_init_79 rfl rfl ?_
  refine r_bipush (v := nI 6) X dX13_init_80 (by decide) ?_
  refine t_anew (k := 106) X dX13_init_82 (by decide) rfl kX13_32 aoX12 rfl (by decide) (by first | omega | decide | (simp only [rmL, rmA]; omega)) (by first | omega | decide | (simp only [rmL, rmA]; omega)) ?_
  refine r_putR (o := some _) X dX13_init_85 fX13_50 wX13_50 (by (repeat (refine up1n (by omega) ?_)); assumption) rfl rfl ?_
  refine r_aload_n X dX13_init_88 rfl rfl ?_
  refine t_new (ci := 11) X dX13_init_89 rfl kX13_32 inX12_s inX12_i (by first | omega | decide | (simp only [rmL, rmA]; omega)) (by first | omega | decide | (simp only [rmL, rmA]; omega)) ?_
  refine r_dup X dX13_init_92 rfl ?_
  refine q_callI X dX13_init_93 mX13_53 cwX12_init (n_mteam GE _ _ _ _ (g + 9) (if_pos rfl) (fun k => if_pos rfl)) rfl rfl (Nat.le_of_ble_eq_true rfl) ⟨Nat.le_of_ble_eq_true rfl, Nat.le_of_ble_eq_true rfl⟩ ⟨(by first | omega | decide | (simp only [rmL, rmA]; omega)), (by first | omega | decide | (simp only [rmL, rmA]; omega))⟩ ?_
  rintro _ _ ⟨rfl, S1, I1, V1, J1, rfl, hN1, hT1, hz1⟩
  have b1 : S1 g = some (12, 0) := (hN1.1 _ (by omega)).trans (by simp [up1, hs, Nat.add_assoc])
  have s11 : S1 (g + 1) = some (100, 12) := (hN1.1 _ (by omega)).trans (by simp [up1, Nat.add_assoc])
  have s12 : S1 (g + 2) = some (100, 12) := (hN1.1 _ (by omega)).trans (by simp [up1, Nat.add_assoc])
  have s13 : S1 (g + 3) = some (100, 334) := (hN1.1 _ (by omega)).trans (by simp [up1, Nat.add_assoc])
  have s14 : S1 (g + 4) = some (106, 6) := (hN1.1 _ (by omega)).trans (by simp [up1, Nat.add_assoc])
  have s15 : S1 (g + 5) = some (100, 12) := (hN1.1 _ (by omega)).trans (by simp [up1, Nat.add_assoc])
  have s16 : S1 (g + 6) = some (100, 12) := (hN1.1 _ (by omega)).trans (by simp [up1, Nat.add_assoc])
  have s17 : S1 (g + 7) = some (100, 334) := (hN1.1 _ (by omega)).trans (by simp [up1, Nat.add_assoc])
  have s18 : S1 (g + 8) = some (106, 6) := (hN1.1 _ (by omega)).trans (by simp [up1, Nat.add_assoc])
  have w1 : V1 g 8 = some (g + 1) ∧ V1 g 9 = some (g + 2) ∧ V1 g 10 = some (g + 3) ∧ V1 g 11 = some (g + 4) ∧ V1 g 16 = some (g + 5) ∧ V1 g 17 = some (g + 6) ∧ V1 g 18 = some (g + 7) ∧ V1 g 19 = some (g + 8) := by
    have e : V1 g = _ := (hN1.2 _ (by omega)).2.1
    rw [e]
    simp [up2, zr, Nat.add_assoc]
  have i1 : ∀ k, I1 g k = if k = 2 ∨ k = 12 then -1 else if k = 7 then 6 else 0 := fun k => by
    have e : I1 g = _ := (hN1.2 _ (by omega)).1
    rw [e]
    by_cases k2 : k = 2
    · simp [up2, zr, k2, Nat.add_assoc]
    · by_cases k12 : k = 12
      · simp [up2, zr, k12, Nat.add_assoc]
      · by_cases k7 : k = 7
        · simp [up2, zr, k7, Nat.add_assoc]
        · simp [up2, zr, k2, k12, k7, hz, Nat.add_assoc]
  have z1 : ∀ x k, g + 1 ≤ x → x < g + 19 → I1 x k = 0 := fun x k h1 h2 => by
    rcases Nat.lt_or_ge x (g + 9) with y | y
    · have e : I1 x = _ := (hN1.2 x (by omega)).1
      rw [e]
      simp only [up2, zr]
      repeat' split
      all_goals first | rfl | (exfalso; omega)
    · exact hz1 x k y (by omega)
  have n1 : Nw g S I V J S1 I1 V1 J1 := (((((((((((((((((((((Nw.refl.putI (Nat.le_refl g)).putI (Nat.le_refl g)).fresh (by omega)).putV (Nat.le_refl g)).fresh (by omega)).putV (Nat.le_refl g)).fresh (by omega)).putV (Nat.le_refl g)).fresh (by omega)).putV (Nat.le_refl g)).putI (Nat.le_refl g)).fresh (by omega)).putV (Nat.le_refl g)).fresh (by omega)).putV (Nat.le_refl g)).fresh (by omega)).putV (Nat.le_refl g)).fresh (by omega)).putV (Nat.le_refl g)).fresh (by omega)).trans hN1 (by omega))
  refine r_world (w' := (S1, I1, V1, J1, g + 19)) rfl ?_
  refine r_putR (o := some _) X dX13_init_96 fX13_54 wX13_54 (by (repeat (refine up1n (by omega) ?_)); assumption) rfl rfl ?_
  refine r_aload_n X dX13_init_99 rfl rfl ?_
  refine t_new (ci := 10) X dX13_init_100 rfl kX13_58 inX11_s inX11_i (by first | omega | decide | (simp only [rmL, rmA]; omega)) (by first | omega | decide | (simp only [rmL, rmA]; omega)) ?_
  refine r_dup X dX13_init_103 rfl ?_
  refine q_callI X dX13_init_104 mX13_60 cwX11_init (c_stop0 GE _ _ _ _ _ (g + 19) hz2 (if_pos rfl) (fun k => if_pos rfl)) rfl rfl (Nat.le_of_ble_eq_true rfl) ⟨Nat.le_of_ble_eq_true rfl, Nat.le_of_ble_eq_true rfl⟩ ⟨(by first | omega | decide | (simp only [rmL, rmA]; omega)), (by first | omega | decide | (simp only [rmL, rmA]; omega))⟩ ?_
  rintro _ _ ⟨rfl, rfl⟩
  refine r_putR (o := some _) X dX13_init_107 fX13_61 wX13_61 (by (repeat (refine up1n (by omega) ?_)); assumption) rfl rfl ?_
  refine r_aload_n X dX13_init_110 rfl rfl ?_
  refine r_sipush (v := nI 400) X dX13_init_111 (by decide) ?_
  refine t_newB X dX13_init_114 rfl (by decide) (by first | omega | decide | (simp only [rmL, rmA]; omega)) (by first | omega | decide | (simp only [rmL, rmA]; omega)) ?_
  refine r_putR (o := some _) X dX13_init_116 fX13_65 wX13_65 (by (repeat (refine up1n (by omega) ?_)); assumption) rfl rfl ?_
  refine r_aload_n X dX13_init_119 rfl rfl ?_
  refine r_bipush (v := nI 9) X dX13_init_120 (by decide) ?_
  refine t_newI X dX13_init_122 rfl (by decide) (by first | omega | decide | (simp only [rmL, rmA]; omega)) (by first | omega | decide | (simp only [rmL, rmA]; omega)) ?_
  refine r_putR (o := some _) X dX13_init_124 fX13_69 wX13_69 (by (repeat (refine up1n (by omega) ?_)); assumption) rfl rfl ?_
  refine r_aload_n X dX13_init_127 rfl rfl ?_
  refine r_bipush (v := nI 108) X dX13_init_128 (by decide) ?_
  refine t_newI X dX13_init_130 rfl (by decide) (by first | omega | decide | (simp only [rmL, rmA]; omega)) (by first | omega | decide | (simp only [rmL, rmA]; omega)) ?_
  refine r_putR (o := some _) X dX13_init_132 fX13_72 wX13_72 (by (repeat (refine up1n (by omega) ?_)); assumption) rfl rfl ?_
  refine r_aload_n X dX13_init_135 rfl rfl ?_
  refine r_bipush (v := nI 108) X dX13_init_136 (by decide) ?_
  refine t_newI X dX13_init_138 rfl (by decide) (by first | omega | decide | (simp only [rmL, rmA]; omega)) (by first | omega | decide | (simp only [rmL, rmA]; omega)) ?_
  refine r_putR (o := some _) X dX13_init_140 fX13_75 wX13_75 (by (repeat (refine up1n (by omega) ?_)); assumption) rfl rfl ?_
  refine r_aload_n X dX13_init_143 rfl rfl ?_
  refine r_sipush (v := nI 432) X dX13_init_144 (by decide) ?_
  refine t_newI X dX13_init_147 rfl (by decide) (by first | omega | decide | (simp only [rmL, rmA]; omega)) (by first | omega | decide | (simp only [rmL, rmA]; omega)) ?_
  refine r_putR (o := some _) X dX13_init_149 fX13_78 wX13_78 (by (repeat (refine up1n (by omega) ?_)); assumption) rfl rfl ?_
  refine r_aload_n X dX13_init_152 rfl rfl ?_
  refine r_sipush (v := nI 432) X dX13_init_153 (by decide) ?_
  refine t_newI X dX13_init_156 rfl (by decide) (by first | omega | decide | (simp only [rmL, rmA]; omega)) (by first | omega | decide | (simp only [rmL, rmA]; omega)) ?_
  refine r_putR (o := some _) X dX13_init_158 fX13_81 wX13_81 (by (repeat (refine up1n (by omega) ?_)); assumption) rfl rfl ?_
  refine r_aload_n X dX13_init_161 rfl rfl ?_
  refine r_sipush (v := nI 432) X dX13_init_162 (by decide) ?_
  refine t_newZ X dX13_init_165 rfl (by decide) (by first | omega | decide | (simp only [rmL, rmA]; omega)) (by first | omega | decide | (simp only [rmL, rmA]; omega)) ?_
  refine r_putR (o := some _) X dX13_init_167 fX13_84 wX13_84 (by (repeat (refine up1n (by omega) ?_)); assumption) rfl rfl ?_
  refine r_aload_n X dX13_init_170 rfl rfl ?_
  refine r_bipush (v := nI 44) X dX13_init_171 (by decide) ?_
  refine t_newI X dX13_init_173 rfl (by decide) (by first | omega | decide | (simp only [rmL, rmA]; omega)) (by first | omega | decide | (simp only [rmL, rmA]; omega)) ?_
  refine r_putR (o := some _) X dX13_init_175 fX13_88 wX13_88 (by (repeat (refine up1n (by omega) ?_)); assumption) rfl rfl ?_
  refine r_iconst (v := nI 0) X dX13_init_178 (by decide) ?_
  refine r_istore_n X dX13_init_179 rfl (by decide) rfl ?_
  refine H1 0 (by omega) _ _ _ _ ?_ ?_ ?_ ?_
  · exact ((((((((((((((((((n1.putV (Nat.le_refl g)).fresh (by omega)).putV (Nat.le_refl g)).fresh (by omega)).putV (Nat.le_refl g)).fresh (by omega)).putV (Nat.le_refl g)).fresh (by omega)).putV (Nat.le_refl g)).fresh (by omega)).putV (Nat.le_refl g)).fresh (by omega)).putV (Nat.le_refl g)).fresh (by omega)).putV (Nat.le_refl g)).fresh (by omega)).putV (Nat.le_refl g)).fresh (by omega)).putV (Nat.le_refl g)
  · obtain ⟨y8, y9, y10, y11, y16, y17, y18, y19⟩ := w1
    refine ⟨?_, ?_, ?_, ?_⟩
    · simp [up1, up2, zr, Nat.add_assoc, b1, y8, y9, y10, y11, y16, y17, y18, y19]
    · simp [up1, Nat.add_assoc, s11, s12, s13, s14, s15, s16, s17, s18]
    · refine hT1.ag (fun x h1 h2 => ⟨?_, ?_⟩)
      · simp only [up1]
        repeat (rw [if_neg (by omega)])
      · funext k
        simp only [up2, zr]
        repeat (rw [if_neg (by omega)])
    · simp [MrSh, up1, up2, zr, Nat.add_assoc]
  · intro k
    simp only [zr]
    repeat (rw [if_neg (by omega)])
    exact i1 k
  · intro x k h1 h2
    rw [if_neg (by omega)]
    simp only [zr]
    repeat' split
    all_goals first | rfl | (exact z1 x k (by omega) (by omega))
