/-! ===== SignRow.tell where the row must grow ===== -/
theorem DogsSh.ag {S S' : Nat → Option (Nat × Nat)} {V V' : Nat → Nat → Option Nat} {d : Nat} (h : DogsSh S V d) (hb : ∀ b, d ≤ b → b ≤ d + 3 → S' b = S b ∧ V' b = V b) : DogsSh S' V' d := by
  obtain ⟨h0, h1, h2, h3, h4, h5, h6⟩ := h
  have e0 := hb d (by omega) (by omega)
  have e1 := hb (d + 1) (by omega) (by omega)
  have e2 := hb (d + 2) (by omega) (by omega)
  have e3 := hb (d + 3) (by omega) (by omega)
  unfold DogsSh
  rw [e0.1, e0.2, e1.1, e2.1, e3.1]
  exact ⟨h0, h1, h2, h3, h4, h5, h6⟩
theorem GapsSh.ag {S S' : Nat → Option (Nat × Nat)} {V V' : Nat → Nat → Option Nat} {g : Nat} (h : GapsSh S V g) (hb : ∀ b, g ≤ b → b ≤ g + 2 → S' b = S b ∧ V' b = V b) : GapsSh S' V' g := by
  obtain ⟨h0, h1, h2, h3, h4⟩ := h
  have e0 := hb g (by omega) (by omega)
  have e1 := hb (g + 1) (by omega) (by omega)
  have e2 := hb (g + 2) (by omega) (by omega)
  unfold GapsSh
  rw [e0.1, e0.2, e1.1, e2.1]
  exact ⟨h0, h1, h2, h3, h4⟩
theorem TeamSh.ag {S S' : Nat → Option (Nat × Nat)} {V V' : Nat → Nat → Option Nat} {t : Nat} (h : TeamSh S V t) (hb : ∀ b, t ≤ b → b ≤ t + 9 → S' b = S b ∧ V' b = V b) : TeamSh S' V' t := by
  obtain ⟨h0, h1, h2, h3, h4, h5, h6, h7, h8⟩ := h
  have e0 := hb t (by omega) (by omega)
  have e8 := hb (t + 8) (by omega) (by omega)
  have e9 := hb (t + 9) (by omega) (by omega)
  refine ⟨by rw [e0.1]; exact h0, by rw [e0.2]; exact h1, by rw [e0.2]; exact h2, by rw [e0.2]; exact h3, by rw [e0.2]; exact h4, h5.ag (fun b a1 a2 => hb b (by omega) (by omega)), h6.ag (fun b a1 a2 => hb b (by omega) (by omega)), by rw [e8.1]; exact h7, by rw [e9.1]; exact h8⟩
theorem TrailSh.ag {S S' : Nat → Option (Nat × Nat)} {V V' : Nat → Nat → Option Nat} {r : Nat} (h : TrailSh S V r) (hb : ∀ b, r ≤ b → b ≤ r + 4 → S' b = S b ∧ V' b = V b) : TrailSh S' V' r := by
  obtain ⟨h0, h1, h2, h3, h4, h5, h6, h7, h8⟩ := h
  have e0 := hb r (by omega) (by omega)
  have e1 := hb (r + 1) (by omega) (by omega)
  have e2 := hb (r + 2) (by omega) (by omega)
  have e3 := hb (r + 3) (by omega) (by omega)
  have e4 := hb (r + 4) (by omega) (by omega)
  unfold TrailSh
  rw [e0.1, e0.2, e1.1, e2.1, e3.1, e4.1]
  exact ⟨h0, h1, h2, h3, h4, h5, h6, h7, h8⟩
/-- the world behind a row's growth: row g has k places, at N, the first n as at a -/
abbrev growW (S : Nat → Option (Nat × Nat)) (I : Nat → Nat → Int32) (V : Nat → Nat → Option Nat) (J : Nat → Nat → Int64) (N g a n k : Nat) : Wd := (up1 S N (some (100, k)), cpyI (zr I N 0) a N 0 0 n, up2 (zr V N none) g 0 (some N), zr J N 0, N + 1)
theorem grow_S {S : Nat → Option (Nat × Nat)} {N k b : Nat} (h : b ≠ N) : up1 S N (some (100, k)) b = S b := by rw [up1, if_neg h]
theorem grow_V {V : Nat → Nat → Option Nat} {N g b : Nat} (h : b ≠ N) (hg : b ≠ g) : up2 (zr V N none) g 0 (some N) b = V b := by
  rw [up2_row hg]
  funext j
  rw [zr, if_neg h]
theorem grow_I {I : Mem} {N a n b k : Nat} (h : b ≠ N) : cpyI (zr I N 0) a N 0 0 n b k = I b k := by rw [cpyI_a h, zr, if_neg h]
set_option maxHeartbeats 2000000 in
set_option maxRecDepth 20000 in
/-- SledHouse$SignRow.tell -/
theorem c_tellG {E : Ev} (GE : Glob E) (S : Nat → Option (Nat × Nat)) (I : Nat → Nat → Int32) (V : Nat → Nat → Option Nat) (J : Nat → Nat → Int64) (N : Nat) (g a n t r l gm e s : Nat) (hW : RowSh S V g a n) (hT : TeamSh S V t) (hR : TrailSh S V r) (hl : I t 10 = nI l) (hl12 : l ≤ 12) (hgm : I (t + 5) 2 = nI gm) (hg4 : gm ≤ 4) (he : 0 < e) (he48 : e ≤ 48) (hs : s < 2000) (hm : s % e = 0) (hgr : n < rowMost e) (haN : a < N) (hgN : g < N) (htN : t + 9 < N) (hrN : r + 4 < N) (hgt : g < t ∨ t + 9 < g) (hgr2 : g < r ∨ r + 4 < g) : Ct E yX6_tell cX6_tell 7 none (rmA 2 1 2000) [.ref g, .ref t, .ref r, .int (nI s), .int (nI e)] (S, I, V, J, N) (fun v w' => v = none ∧ w' = (up1 S N (some (100, rowMost e)), up2 (cpyI (zr I N 0) a N 0 0 n) N (s / e) (tTold (cpyI (zr I N 0) a N 0 0 n) t r l gm (nI s)), up2 (zr V N none) g 0 (some N), zr J N 0, N + 1)) := by
  refine Ct.start GE (by decide) rfl (Nat.le_of_ble_eq_true rfl) (fun M X => ?_)
  have X : Cx E M RX6 cX6_tell 7 (rmA 2 1 2000) none "tell" := X
  refine r_loc (L' := [some (.ref g), some (.ref t), some (.ref r), some (.int (nI s)), some (.int (nI e)), none, none]) rfl ?_
  obtain ⟨hs0, hv0, hsa, hn⟩ := hW
  have hse : s / e ≤ 1999 / e := Nat.div_le_div_right (by omega)
  have h1999 : 1999 / e ≤ 1999 := Nat.div_le_self _ _
  have hmo : rowMost e ≤ 2000 := by unfold rowMost; omega
  have hlt : s / e < rowMost e := by unfold rowMost; omega
  have hT' : TeamSh (up1 S N (some (100, rowMost e))) (up2 (zr V N none) g 0 (some N)) t := hT.ag (fun b a1 a2 => ⟨grow_S (by omega), grow_V (by omega) (by omega)⟩)
  have hR' : TrailSh (up1 S N (some (100, rowMost e))) (up2 (zr V N none) g 0 (some N)) r := hR.ag (fun b a1 a2 => ⟨grow_S (by omega), grow_V (by omega) (by omega)⟩)
  have hl' : cpyI (zr I N 0) a N 0 0 n t 10 = nI l := (grow_I (by omega)).trans hl
  have hgm' : cpyI (zr I N 0) a N 0 0 n (t + 5) 2 = nI gm := (grow_I (by omega)).trans hgm
  have hs0' : up1 S N (some (100, rowMost e)) g = some (5, 0) := (grow_S (by omega)).trans hs0
  have hsN : up1 S N (some (100, rowMost e)) N = some (100, rowMost e) := by rw [up1, if_pos rfl]
  have hvN : up2 (zr V N none) g 0 (some N) g 0 = some N := up2_same _ _ _ _
  have H70 : ∀ (b : Bool) (x5 : Option Value), (b = true ↔ ¬ (cpyI (zr I N 0) a N 0 0 n t 8 = 0 ∨ gHide (cpyI (zr I N 0) a N 0 0 n) (t + 5) gm (nI s) = true)) → G E M (0 + 1) (0 + rowMost e) (qQ E M (rmA 2 1 2000) (fun v w' => v = none ∧ w' = ((up1 S N (some (100, rowMost e))), up2 (cpyI (zr I N 0) a N 0 0 n) N (s / e) (tTold (cpyI (zr I N 0) a N 0 0 n) t r l gm (nI s)), up2 (zr V N none) g 0 (some N), zr J N 0, N + 1))) 70 [some (.ref g), some (.ref t), some (.ref r), some (.int (nI s)), some (.int (nI e)), some (.int (nI (rowMost e))), x5] [.int (bI b)] ((up1 S N (some (100, rowMost e))), cpyI (zr I N 0) a N 0 0 n, up2 (zr V N none) g 0 (some N), zr J N 0, N + 1) := by
    obtain ⟨ts0, tv0, tv1, tv2, tv3, tD, tG, ts8, ts9⟩ := id hT'
    intro b x5 hb
    cases b with
    | false =>
      have hb' := Classical.not_not.mp (fun q => absurd (hb.mpr q) (by decide))
      refine r_topi 0 rfl ?_
      refine r_istore X dX6_tell_70 (by decide) rfl ?_
      refine r_aload_n X dX6_tell_72 rfl rfl ?_
      refine r_getR X dX6_tell_73 fX6_9 (by assumption) (by assumption) ?_
      refine r_iload_n X dX6_tell_76 rfl rfl ?_
      refine r_iload X dX6_tell_77 rfl ?_
      refine r_idiv X dX6_tell_79 (nI_ne0 he (by omega)) ?_
      refine r_topi (nI (s / e)) (pk_div (by omega) he (by omega)) ?_
      refine r_iload X dX6_tell_80 rfl ?_
      refine r_if_eq (tgt := 93) X dX6_tell_82 (by decide) (fun h82 => ?_) (fun h82 => ?_)
      · skip
        refine r_iconst (v := -1) X dX6_tell_93 (by decide) ?_
        refine r_iastN X dX6_tell_94 (by assumption) (by omega) (by omega) ?_
        refine r_return X dX6_tell_95 (Nat.le_of_ble_eq_true rfl) (by simp only [rmL, rmA]; omega) ?_
        exact ⟨rfl, by rw [tTold, if_pos hb']⟩
      · skip
        exact absurd rfl h82
    | true =>
      have hb' := hb.mp rfl
      refine r_topi 1 rfl ?_
      refine r_istore X dX6_tell_70 (by decide) rfl ?_
      refine r_aload_n X dX6_tell_72 rfl rfl ?_
      refine r_getR X dX6_tell_73 fX6_9 (by assumption) (by assumption) ?_
      refine r_iload_n X dX6_tell_76 rfl rfl ?_
      refine r_iload X dX6_tell_77 rfl ?_
      refine r_idiv X dX6_tell_79 (nI_ne0 he (by omega)) ?_
      refine r_topi (nI (s / e)) (pk_div (by omega) he (by omega)) ?_
      refine r_iload X dX6_tell_80 rfl ?_
      refine r_if_eq (tgt := 93) X dX6_tell_82 (by decide) (fun h82 => ?_) (fun h82 => ?_)
      · skip
        exact absurd h82 (by decide)
      · skip
        refine r_aload_n X dX6_tell_85 rfl rfl ?_
        refine r_aload_n X dX6_tell_86 rfl rfl ?_
        refine q_callV X dX6_tell_87 mX6_37 cwX8_way (c_tWay GE _ _ _ _ _ t r l hT' hR' hl' hl12) rfl (by assumption) rfl rfl rfl (Nat.le_of_ble_eq_true rfl) ⟨Nat.le_of_ble_eq_true rfl, Nat.le_of_ble_eq_true rfl⟩ ⟨(Nat.le_of_ble_eq_true rfl), (by simp only [rmL, rmA]; omega)⟩ ?_
        rintro _ _ ⟨rfl, rfl⟩
        refine r_goto (tgt := 94) X dX6_tell_90 (by decide) ?_
        refine r_iastN X dX6_tell_94 (by assumption) (by omega) (by omega) ?_
        refine r_return X dX6_tell_95 (Nat.le_of_ble_eq_true rfl) (by simp only [rmL, rmA]; omega) ?_
        exact ⟨rfl, by rw [tTold, if_neg hb']⟩
  have H47 : ∀ x5 : Option Value, G E M (0 + 1) (0 + rowMost e) (qQ E M (rmA 2 1 2000) (fun v w' => v = none ∧ w' = ((up1 S N (some (100, rowMost e))), up2 (cpyI (zr I N 0) a N 0 0 n) N (s / e) (tTold (cpyI (zr I N 0) a N 0 0 n) t r l gm (nI s)), up2 (zr V N none) g 0 (some N), zr J N 0, N + 1))) 47 [some (.ref g), some (.ref t), some (.ref r), some (.int (nI s)), some (.int (nI e)), some (.int (nI (rowMost e))), x5] [] ((up1 S N (some (100, rowMost e))), cpyI (zr I N 0) a N 0 0 n, up2 (zr V N none) g 0 (some N), zr J N 0, N + 1) := by
    obtain ⟨ts0, tv0, tv1, tv2, tv3, tD, tG, ts8, ts9⟩ := id hT'
    intro x5
    have hG0 := tG.1
    refine r_aload_n X dX6_tell_47 rfl rfl ?_
    refine r_getI X dX6_tell_48 fX6_21 (by assumption) (by first | assumption | rfl) ?_
    refine r_if_eq (tgt := 69) X dX6_tell_51 (by decide) (fun h51 => ?_) (fun h51 => ?_)
    · skip
      refine r_iconst (v := nI 0) X dX6_tell_69 (by decide) ?_
      first | exact H70 true _ ⟨fun _ q => q.elim (fun z => h51 z) (fun z => by rw [z] at h62; exact absurd h62 (by decide)), fun _ => rfl⟩ | exact H70 false _ ⟨fun q => absurd q (by decide), fun q => absurd (Or.inl h51) q⟩ | exact H70 false _ ⟨fun q => absurd q (by decide), fun q => absurd (Or.inr (bI_1 h62)) q⟩
    · skip
      refine r_aload_n X dX6_tell_54 rfl rfl ?_
      refine r_getR X dX6_tell_55 fX6_27 (by assumption) (by assumption) ?_
      refine r_iload_n X dX6_tell_58 rfl rfl ?_
      refine q_callV X dX6_tell_59 mX6_31 cwX1_hide (c_gHide GE _ _ _ _ _ (t + 5) gm _ tG hgm' hg4) rfl (by assumption) rfl rfl rfl (Nat.le_of_ble_eq_true rfl) ⟨Nat.le_of_ble_eq_true rfl, Nat.le_of_ble_eq_true rfl⟩ ⟨(Nat.le_of_ble_eq_true rfl), (by simp only [rmL, rmA]; omega)⟩ ?_
      rintro _ _ ⟨rfl, rfl⟩
      refine r_if_ne (tgt := 69) X dX6_tell_62 (by decide) (fun h62 => ?_) (fun h62 => ?_)
      · skip
        refine r_iconst (v := nI 0) X dX6_tell_69 (by decide) ?_
        first | exact H70 true _ ⟨fun _ q => q.elim (fun z => h51 z) (fun z => by rw [z] at h62; exact absurd h62 (by decide)), fun _ => rfl⟩ | exact H70 false _ ⟨fun q => absurd q (by decide), fun q => absurd (Or.inl h51) q⟩ | exact H70 false _ ⟨fun q => absurd q (by decide), fun q => absurd (Or.inr (bI_1 h62)) q⟩
      · skip
        refine r_iconst (v := 1) X dX6_tell_65 (by decide) ?_
        refine r_goto (tgt := 70) X dX6_tell_66 (by decide) ?_
        first | exact H70 true _ ⟨fun _ q => q.elim (fun z => h51 z) (fun z => by rw [z] at h62; exact absurd h62 (by decide)), fun _ => rfl⟩ | exact H70 false _ ⟨fun q => absurd q (by decide), fun q => absurd (Or.inl h51) q⟩ | exact H70 false _ ⟨fun q => absurd q (by decide), fun q => absurd (Or.inr (bI_1 h62)) q⟩
  refine r_iload X dX6_tell_0 rfl ?_
  refine r_iconst (v := nI 1) X dX6_tell_2 (by decide) ?_
  refine r_icmpN_lt (tgt := 13) X dX6_tell_3 (by decide) (by omega) (by omega) (fun h3 => ?_) (fun h3 => ?_)
  · skip
    omega
  · skip
    refine r_iload_n X dX6_tell_6 rfl rfl ?_
    refine r_iload X dX6_tell_7 rfl ?_
    refine r_irem X dX6_tell_9 (nI_ne0 he (by omega)) ?_
    refine r_topi (nI (s % e)) (pk_rem (by omega) he (by omega)) ?_
    refine r_if_eq (tgt := 14) X dX6_tell_10 (by decide) (fun h10 => ?_) (fun h10 => ?_)
    · skip
      refine r_sipush (v := nI 1999) X dX6_tell_14 (by decide) ?_
      refine r_iload X dX6_tell_17 rfl ?_
      refine r_idiv X dX6_tell_19 (nI_ne0 he (by omega)) ?_
      refine r_topi (nI (1999 / e)) (pk_div (by decide) he (by omega)) ?_
      refine r_iconst (v := 1) X dX6_tell_20 (by decide) ?_
      refine r_iadd X dX6_tell_21 ?_
      refine r_topi (nI (rowMost e)) (nI_1 _) ?_
      refine r_istore X dX6_tell_22 (by decide) rfl ?_
      refine r_aload_n X dX6_tell_24 rfl rfl ?_
      refine r_getR X dX6_tell_25 fX6_9 (by assumption) (by assumption) ?_
      refine r_alen X dX6_tell_28 (by assumption) (by decide) rfl ?_
      refine r_iload X dX6_tell_29 rfl ?_
      refine r_icmpN_ge (tgt := 47) X dX6_tell_31 (by decide) (by omega) (by omega) (fun h31 => ?_) (fun h31 => ?_)
      · skip
        omega
      · skip
        refine r_aload_n X dX6_tell_34 rfl rfl ?_
        refine r_aload_n X dX6_tell_35 rfl rfl ?_
        refine r_getR X dX6_tell_36 fX6_9 (by assumption) (by assumption) ?_
        refine r_iload X dX6_tell_39 rfl ?_
        refine q_callS X dX6_tell_41 mX6_15 cwJ7_copyOf_59c91 (c_copyOf GE S I V J N a n (rowMost e) hsa haN hgr hmo) rfl rfl (Nat.le_of_ble_eq_true rfl) ⟨Nat.le_of_ble_eq_true rfl, Nat.le_of_ble_eq_true rfl⟩ ⟨(Nat.le_of_ble_eq_true rfl), (by simp only [rmL, rmA]; omega)⟩ ?_
        rintro _ _ ⟨rfl, rfl⟩
        refine r_putR (o := some _) X dX6_tell_44 fX6_9 wX6_9 (by assumption) rfl rfl ?_
        exact H47 none
    · skip
      exact absurd (by rw [hm]; rfl) h10
