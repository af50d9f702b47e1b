/-! ===== the reference: plan, laws ===== -/
theorem strt_o {I : Mem} {g : Nat} {x : Int32} {b k : Nat} (h : b ≠ g ∨ (k ≠ 24 ∧ k ≠ 23 ∧ k ≠ 25 ∧ k ≠ 3)) : strt I g x b k = I b k := by
  unfold strt up2
  rw [if_neg (by omega), if_neg (by omega), if_neg (by omega), if_neg (by omega)]
theorem strt_ok {I : Mem} {g n : Nat} (hn : n ≤ 400) (hB : ∀ k, k < 400 → ByOK (I (g + 20) k)) : MkOK (strt I g (nI n)) g := by
  have e1 : strt I g (nI n) g 24 = nI n := by rw [strt, up2_k (by decide), up2_k (by decide), up2_k (by decide), up2_same]
  have e2 : strt I g (nI n) g 25 = 0 := by rw [strt, up2_k (by decide), up2_same]
  have f1 : mEn (strt I g (nI n)) g = n := by rw [mEn, e1]; exact nI_clamp (by omega)
  have f2 : mAt (strt I g (nI n)) g = 0 := by rw [mAt, e2]; rfl
  refine ⟨by rw [f1]; exact e1, by rw [f1]; exact hn, by rw [f2]; exact e2, by rw [f1, f2]; omega, fun k hk => ?_⟩
  rw [strt_o (by omega)]
  exact hB k hk
/-- what a reading of a plan leaves -/
abbrev Rk2 (g : Nat) (I I' : Mem) : Prop := ∀ b k, (b ≠ g ∨ k < 25 ∨ 29 < k) → b ≠ g + 19 → (b < g + 21 ∨ g + 26 < b) → I' b k = I b k
theorem Rk2.tr {g : Nat} {I I1 I2 : Mem} (h : Rk2 g I I1) (h2 : Rk2 g I1 I2) : Rk2 g I I2 := fun b k a c d => (h2 b k a c d).trans (h b k a c d)
theorem Rk.to2 {g : Nat} {I I1 : Mem} (h : Rk g I I1) : Rk2 g I I1 := fun b k a c d => h b k a c (by omega)
theorem Rk2.u {g a j : Nat} {I : Mem} {x : Int32} (h : g + 21 ≤ a ∧ a ≤ g + 26) : Rk2 g I (up2 I a j x) := fun b k _ _ d => up2_a (by omega)
theorem rk_Ts {g r : Nat} : ∀ (f : Nat) (K : MJ) (x : Nat), Rk g K.1 (rTs K g r x f).2.1
  | 0, K, x => fun _ _ _ _ _ => rfl
  | f + 1, K, x => by
    rw [rTs]
    have h1 : Rk g K.1 (rT (nxt K g) g r x).2.1 := Rk.nx.tr rk_T
    split
    · split
      · exact h1.tr (rk_Ts f _ _)
      · exact h1
    · exact h1
theorem rk_End {K : MJ} {g p r nr : Nat} : Rk2 g K.1 (rEnd K g p r nr).2.1 := by
  unfold rEnd
  split
  · exact (Rk2.u (by omega)).tr (Rk.st (K := (up2 K.1 (g + 22) r (wAct (mIsW K.1 K.2 g)), K.2))).to2
  · exact ((Rk2.u (by omega)).tr (Rk.nx (K := (up2 K.1 (g + 22) r (wAct (mIsW K.1 K.2 g)), K.2))).to2).tr (Rk2.u (by omega))
theorem rk_Rl {K : MJ} {g p nr : Nat} : Rk2 g K.1 (rRl K g p nr).2.1 := by
  unfold rRl
  split
  · exact Rk.st.to2
  · split
    · exact Rk.st.to2
    · have h1 : Rk2 g K.1 (rTs (up2 K.1 (g + 23) (12 * p + nr) 0, K.2) g (12 * p + nr) 0 5).2.1 := (Rk2.u (by omega)).tr (rk_Ts 5 (up2 K.1 (g + 23) (12 * p + nr) 0, K.2) 0).to2
      split
      · split
        · exact h1.tr rk_End
        · exact h1
      · exact (Rk2.u (by omega)).tr (rk_End (K := (up2 K.1 (g + 23) (12 * p + nr) 0, K.2)))
theorem rk_Rs {g p : Nat} : ∀ (f : Nat) (K : MJ) (nr : Nat), Rk2 g K.1 (rRs K g p nr f).2.1
  | 0, K, x => fun _ _ _ _ _ => rfl
  | f + 1, K, nr => by
    rw [rRs]
    split
    · split
      · exact (rk_Rl.tr Rk.nx.to2).tr (rk_Rs f _ _)
      · split
        · exact rk_Rl
        · exact rk_Rl.tr Rk.st.to2
    · exact rk_Rl
theorem rk_Pl {K : MJ} {g p : Nat} : Rk2 g K.1 (rPl K g p).2.1 := (Rk2.u (by omega)).tr (rk_Rs 13 (up2 K.1 (g + 21) p 0, K.2) 0)
def mWr (K : MJ) (g : Nat) : MJ := (up2 (up2 (up2 K.1 g 3 (K.1 (g + 19) 6)) g 1 4) g 2 (K.1 (g + 19) 7), K.2)
def mOpn (K : MJ) (g n : Nat) : MJ := nxt (strt K.1 g (nI n), K.2) g
def mPlF (K : MJ) (g z np : Nat) (x : Int32) : Int32 × MJ := match ixI x (z + 1) with
  | none => (-1, (mTrb K.1 g 2, K.2))
  | some n => if (rPl (mOpn K g n) g np).1 = true then (if np = 8 then (-1, (mTrb (rPl (mOpn K g n) g np).2.1 g 3, (rPl (mOpn K g n) g np).2.2)) else (nI np, (mTrb (up2 (rPl (mOpn K g n) g np).2.1 g 31 (nI (np + 1))) g 0, (rPl (mOpn K g n) g np).2.2)))
    else (-1, mWr (rPl (mOpn K g n) g np).2 g)
set_option maxHeartbeats 2000000 in
set_option maxRecDepth 20000 in
/-- SledHouseModel.plan -/
theorem c_mPlF {E : Ev} (GE : Glob E) (S : Nat → Option (Nat × Nat)) (K : MJ) (V : Nat → Nat → Option Nat) (N g z np : Nat) (x : Int32) (hZ : Strs E) (hM : MdSh S V g) (hR : MrSh S V g) (h0 : K.1 g 0 = 0) (hz : K.1 g 23 = nI z) (hz4 : z ≤ 400) (hB : ∀ k, k < 400 → ByOK (K.1 (g + 20) k)) (hp : K.1 g 31 = nI np) (hp8 : np ≤ 8) : CtW E yX13_plan cX13_plan 3 (some .int) [(28, 32, 35, 58)] (rmL 9) [.ref g, .int x] (S, K.1, V, K.2, N) (fun v w' => v = some (.int (mPlF K g z np x).1) ∧ w' = (S, (mPlF K g z np x).2.1, V, (mPlF K g z np x).2.2, N)) := by
  refine CtW.start GE (by decide) rfl (Nat.le_of_ble_eq_true rfl) (fun M X hx0 => ?_)
  have X : Cx E M RX13 cX13_plan 3 (rmL 9) (some .int) "plan" := X
  refine r_loc (L' := [some (.ref g), some (.int x), none]) rfl ?_
  obtain ⟨hs0, v8, v9, v10, v11, v16, v17, v18, v19, v20, s1, s2, s3, s4, s5, s6, s7, s8, hOt, hTe, hKt⟩ := id hM
  obtain ⟨v21, v22, v32, v33, v34, v35, v36, v37, v39, s19, s20, s21, s22, s23, s24, s25, s26, s27⟩ := id hR
  rcases hx : ixI x (z + 1) with _ | n
  · skip
    have eR : mPlF K g z np x = (-1, (mTrb K.1 g 2, K.2)) := by simp only [mPlF, hx]
    rw [eR]
    refine r_aload_n X dX13_plan_0 rfl rfl ?_
    refine r_iconst (v := 0) X dX13_plan_1 (by decide) ?_
    refine r_putI X dX13_plan_2 fX13_1 wX13_1 (by assumption) rfl rfl ?_
    refine r_world (w' := (S, K.1, V, K.2, N)) (by rw [up2_id K.1 h0]) ?_
    refine r_iload_n X dX13_plan_5 rfl rfl ?_
    refine r_if_lt (tgt := 17) X dX13_plan_6 (by decide) (fun h6 => ?_) (fun h6 => ?_)
    · skip
      refine r_aload_n X dX13_plan_17 rfl rfl ?_
      refine r_iconst (v := 2) X dX13_plan_18 (by decide) ?_
      refine q_callV X dX13_plan_19 mX13_121 cwX13_refused (c_mRefused GE S _ V _ N g _ hs0) rfl (by assumption) rfl rfl rfl (Nat.le_of_ble_eq_true rfl) ⟨Nat.le_of_ble_eq_true rfl, Nat.le_of_ble_eq_true rfl⟩ ⟨(by first | omega | decide | (simp only [rmL, rmA]; omega)), (by first | omega | decide | (simp only [rmL, rmA]; omega))⟩ ?_
      rintro _ _ ⟨rfl, rfl⟩
      refine r_ireturn X dX13_plan_22 rfl (by first | omega | decide | (simp only [rmL, rmA]; omega)) (by first | omega | decide | (simp only [rmL, rmA]; omega)) ?_
      exact ⟨rfl, rfl⟩
    · skip
      refine r_iload_n X dX13_plan_9 rfl rfl ?_
      refine r_aload_n X dX13_plan_10 rfl rfl ?_
      refine r_getI X dX13_plan_11 fX13_221 (by assumption) (by first | assumption | rfl) ?_
      refine r_icmp_le (tgt := 23) X dX13_plan_14 (by decide) (fun h14 => ?_) (fun h14 => ?_)
      · skip
        exact absurd h14 (ixp_none (by omega) hx h6)
      · skip
        refine r_aload_n X dX13_plan_17 rfl rfl ?_
        refine r_iconst (v := 2) X dX13_plan_18 (by decide) ?_
        refine q_callV X dX13_plan_19 mX13_121 cwX13_refused (c_mRefused GE S _ V _ N g _ hs0) rfl (by assumption) rfl rfl rfl (Nat.le_of_ble_eq_true rfl) ⟨Nat.le_of_ble_eq_true rfl, Nat.le_of_ble_eq_true rfl⟩ ⟨(by first | omega | decide | (simp only [rmL, rmA]; omega)), (by first | omega | decide | (simp only [rmL, rmA]; omega))⟩ ?_
        rintro _ _ ⟨rfl, rfl⟩
        refine r_ireturn X dX13_plan_22 rfl (by first | omega | decide | (simp only [rmL, rmA]; omega)) (by first | omega | decide | (simp only [rmL, rmA]; omega)) ?_
        exact ⟨rfl, rfl⟩
  · obtain ⟨hn, rfl⟩ := ixI_some (by omega) hx
    have eR : mPlF K g z np (nI n) = if (rPl (mOpn K g n) g np).1 = true then (if np = 8 then (-1, (mTrb (rPl (mOpn K g n) g np).2.1 g 3, (rPl (mOpn K g n) g np).2.2)) else (nI np, (mTrb (up2 (rPl (mOpn K g n) g np).2.1 g 31 (nI (np + 1))) g 0, (rPl (mOpn K g n) g np).2.2))) else (-1, mWr (rPl (mOpn K g n) g np).2 g) := by simp only [mPlF, hx]
    rw [eR]
    have hKo : MkOK (mOpn K g n).1 g := MkOK_nxt (K := (strt K.1 g (nI n), K.2)) (strt_ok (by omega) hB)
    have hp1 : (mOpn K g n).1 g 31 = nI np := (nxt_o (K := (strt K.1 g (nI n), K.2)) (by omega)).trans ((strt_o (by omega)).trans hp)
    have hp2 : (rPl (mOpn K g n) g np).2.1 g 31 = nI np := (rk_Pl _ _ (by omega) (by omega) (by omega)).trans hp1
    refine r_aload_n X dX13_plan_0 rfl rfl ?_
    refine r_iconst (v := 0) X dX13_plan_1 (by decide) ?_
    refine r_putI X dX13_plan_2 fX13_1 wX13_1 (by assumption) rfl rfl ?_
    refine r_world (w' := (S, K.1, V, K.2, N)) (by rw [up2_id K.1 h0]) ?_
    refine r_iload_n X dX13_plan_5 rfl rfl ?_
    refine r_if_lt (tgt := 17) X dX13_plan_6 (by decide) (fun h6 => ?_) (fun h6 => ?_)
    · skip
      exact absurd h6 (nI_pos (by omega))
    · skip
      refine r_iload_n X dX13_plan_9 rfl rfl ?_
      refine r_aload_n X dX13_plan_10 rfl rfl ?_
      refine r_getI X dX13_plan_11 fX13_221 (by assumption) (by first | assumption | rfl) ?_
      refine r_icmpN_le (tgt := 23) X dX13_plan_14 (by decide) (by omega) (by omega) (fun h14 => ?_) (fun h14 => ?_)
      · skip
        refine r_aload_n X dX13_plan_23 rfl rfl ?_
        refine r_iload_n X dX13_plan_24 rfl rfl ?_
        refine q_callV X dX13_plan_25 mX13_266 cwX13_start (c_strt GE S K V N g n hs0 hR (by omega) hB) rfl (by assumption) rfl rfl rfl (Nat.le_of_ble_eq_true rfl) ⟨Nat.le_of_ble_eq_true rfl, Nat.le_of_ble_eq_true rfl⟩ ⟨(by first | omega | decide | (simp only [rmL, rmA]; omega)), (by first | omega | decide | (simp only [rmL, rmA]; omega))⟩ ?_
        rintro _ _ ⟨rfl, rfl⟩
        refine r_aload_n X dX13_plan_28 rfl rfl ?_
        refine q_callX X dX13_plan_29 nX13_269.1 nX13_269.2.1 nX13_269.2.2 cwX13_readPlan (c_rPl GE S (mOpn K g n) V N g np hZ hs0 hR hKo hp1 hp8) rfl (by assumption) rfl rfl rfl (Nat.le_of_ble_eq_true rfl) ⟨Nat.le_of_ble_eq_true rfl, Nat.le_of_ble_eq_true rfl⟩ ⟨(by decide), (by decide)⟩ ?_ ?_
        rotate_left
        · rintro x9 w9 ⟨ho, rfl⟩
          obtain ⟨hb29, rfl⟩ := oc_t ho
          refine t_catch (ci := 10) X hx0 ⟨by decide, by decide⟩ (by decide) rfl kX13_58 s19 ?_
          rw [if_neg (show ¬ (rPl (mOpn K g n) g np).1 = true by rw [hb29]; decide)]
          refine r_astore_n X dX13_plan_35 rfl (by decide) rfl ?_
          refine r_aload_n X dX13_plan_36 rfl rfl ?_
          refine r_aload_n X dX13_plan_37 rfl rfl ?_
          refine q_callV X dX13_plan_38 mX13_272 cwX13_wrong (c_mWrong GE S _ V _ N g hs0 hR) rfl (by assumption) rfl rfl rfl (Nat.le_of_ble_eq_true rfl) ⟨Nat.le_of_ble_eq_true rfl, Nat.le_of_ble_eq_true rfl⟩ ⟨(by first | omega | decide | (simp only [rmL, rmA]; omega)), (by first | omega | decide | (simp only [rmL, rmA]; omega))⟩ ?_
          rintro _ _ ⟨rfl, rfl⟩
          refine r_ireturn X dX13_plan_41 rfl (by first | omega | decide | (simp only [rmL, rmA]; omega)) (by first | omega | decide | (simp only [rmL, rmA]; omega)) ?_
          exact ⟨rfl, rfl⟩
        rintro v9 w9 ⟨ho, rfl⟩
        obtain ⟨hb29, rfl⟩ := oc_r ho
        rw [if_pos hb29]
        refine r_goto (tgt := 42) X dX13_plan_32 (by decide) ?_
        refine r_aload_n X dX13_plan_42 rfl rfl ?_
        refine r_getI X dX13_plan_43 fX13_227 (by assumption) hp2 ?_
        refine r_bipush (v := nI 8) X dX13_plan_46 (by decide) ?_
        refine r_icmpN_ne (tgt := 57) X dX13_plan_48 (by decide) (by omega) (by omega) (fun h48 => ?_) (fun h48 => ?_)
        · skip
          refine r_aload_n X dX13_plan_57 rfl rfl ?_
          refine r_dup X dX13_plan_58 rfl ?_
          refine r_getI X dX13_plan_59 fX13_227 (by assumption) hp2 ?_
          refine r_iconst (v := 1) X dX13_plan_62 (by decide) ?_
          refine r_iadd X dX13_plan_63 ?_
          refine r_topi (nI (np + 1)) (nI_1 np) ?_
          refine r_putI X dX13_plan_64 fX13_227 wX13_227 (by assumption) rfl rfl ?_
          refine r_aload_n X dX13_plan_67 rfl rfl ?_
          refine r_aload_n X dX13_plan_68 rfl rfl ?_
          refine r_getI X dX13_plan_69 fX13_227 (by assumption) (up2_same _ _ _ _) ?_
          refine r_iconst (v := 1) X dX13_plan_72 (by decide) ?_
          refine r_isub X dX13_plan_73 ?_
          refine r_topi (nI np) (pk_sub (a := np + 1) (b := 1) (by omega)) ?_
          refine q_callV X dX13_plan_74 mX13_129 cwX13_done (c_mDone GE S _ V _ N g _ hs0) rfl (by assumption) rfl rfl rfl (Nat.le_of_ble_eq_true rfl) ⟨Nat.le_of_ble_eq_true rfl, Nat.le_of_ble_eq_true rfl⟩ ⟨(by first | omega | decide | (simp only [rmL, rmA]; omega)), (by first | omega | decide | (simp only [rmL, rmA]; omega))⟩ ?_
          rintro _ _ ⟨rfl, rfl⟩
          refine r_ireturn X dX13_plan_77 rfl (by first | omega | decide | (simp only [rmL, rmA]; omega)) (by first | omega | decide | (simp only [rmL, rmA]; omega)) ?_
          rw [if_neg (by omega)]
          exact ⟨rfl, rfl⟩
        · skip
          refine r_aload_n X dX13_plan_51 rfl rfl ?_
          refine r_iconst (v := 3) X dX13_plan_52 (by decide) ?_
          refine q_callV X dX13_plan_53 mX13_121 cwX13_refused (c_mRefused GE S _ V _ N g _ hs0) rfl (by assumption) rfl rfl rfl (Nat.le_of_ble_eq_true rfl) ⟨Nat.le_of_ble_eq_true rfl, Nat.le_of_ble_eq_true rfl⟩ ⟨(by first | omega | decide | (simp only [rmL, rmA]; omega)), (by first | omega | decide | (simp only [rmL, rmA]; omega))⟩ ?_
          rintro _ _ ⟨rfl, rfl⟩
          refine r_ireturn X dX13_plan_56 rfl (by first | omega | decide | (simp only [rmL, rmA]; omega)) (by first | omega | decide | (simp only [rmL, rmA]; omega)) ?_
          rw [if_pos (by omega)]
          exact ⟨rfl, rfl⟩
      · skip
        omega
def mLaF (K : MJ) (g z k : Nat) (x : Int32) : Int32 × MJ := match ixI x (z + 1) with
  | none => (-1, (mTrb K.1 g 2, K.2))
  | some n => if (rLa (mOpn K g n) g k).1.1 = true then (nI (rLa (mOpn K g n) g k).2, (mTrb (up2 (rLa (mOpn K g n) g k).1.2.1 g 38 (nI (rLa (mOpn K g n) g k).2)) g 0, (rLa (mOpn K g n) g k).1.2.2))
    else (-1, mWr (rLa (mOpn K g n) g k).1.2 g)
set_option maxHeartbeats 2000000 in
set_option maxRecDepth 20000 in
/-- SledHouseModel.laws -/
theorem c_mLaF {E : Ev} (GE : Glob E) (S : Nat → Option (Nat × Nat)) (K : MJ) (V : Nat → Nat → Option Nat) (N g z k : Nat) (x : Int32) (hZ : Strs E) (hM : MdSh S V g) (hR : MrSh S V g) (h0 : K.1 g 0 = 0) (hz : K.1 g 23 = nI z) (hz4 : z ≤ 400) (hB : ∀ k, k < 400 → ByOK (K.1 (g + 20) k)) (hk : K.1 g 38 = nI k) (hk10 : k ≤ 10) : CtW E yX13_laws cX13_laws 4 (some .int) [(28, 33, 36, 58)] (rmL 9) [.ref g, .int x] (S, K.1, V, K.2, N) (fun v w' => v = some (.int (mLaF K g z k x).1) ∧ w' = (S, (mLaF K g z k x).2.1, V, (mLaF K g z k x).2.2, N)) := by
  refine CtW.start GE (by decide) rfl (Nat.le_of_ble_eq_true rfl) (fun M X hx0 => ?_)
  have X : Cx E M RX13 cX13_laws 4 (rmL 9) (some .int) "laws" := X
  refine r_loc (L' := [some (.ref g), some (.int x), none, none]) rfl ?_
  obtain ⟨hs0, v8, v9, v10, v11, v16, v17, v18, v19, v20, s1, s2, s3, s4, s5, s6, s7, s8, hOt, hTe, hKt⟩ := id hM
  obtain ⟨v21, v22, v32, v33, v34, v35, v36, v37, v39, s19, s20, s21, s22, s23, s24, s25, s26, s27⟩ := id hR
  rcases hx : ixI x (z + 1) with _ | n
  · skip
    have eR : mLaF K g z k x = (-1, (mTrb K.1 g 2, K.2)) := by simp only [mLaF, hx]
    rw [eR]
    refine r_aload_n X dX13_laws_0 rfl rfl ?_
    refine r_iconst (v := 0) X dX13_laws_1 (by decide) ?_
    refine r_putI X dX13_laws_2 fX13_1 wX13_1 (by assumption) rfl rfl ?_
    refine r_world (w' := (S, K.1, V, K.2, N)) (by rw [up2_id K.1 h0]) ?_
    refine r_iload_n X dX13_laws_5 rfl rfl ?_
    refine r_if_lt (tgt := 17) X dX13_laws_6 (by decide) (fun h6 => ?_) (fun h6 => ?_)
    · skip
      refine r_aload_n X dX13_laws_17 rfl rfl ?_
      refine r_iconst (v := 2) X dX13_laws_18 (by decide) ?_
      refine q_callV X dX13_laws_19 mX13_121 cwX13_refused (c_mRefused GE S _ V _ N g _ hs0) rfl (by assumption) rfl rfl rfl (Nat.le_of_ble_eq_true rfl) ⟨Nat.le_of_ble_eq_true rfl, Nat.le_of_ble_eq_true rfl⟩ ⟨(by first | omega | decide | (simp only [rmL, rmA]; omega)), (by first | omega | decide | (simp only [rmL, rmA]; omega))⟩ ?_
      rintro _ _ ⟨rfl, rfl⟩
      refine r_ireturn X dX13_laws_22 rfl (by first | omega | decide | (simp only [rmL, rmA]; omega)) (by first | omega | decide | (simp only [rmL, rmA]; omega)) ?_
      exact ⟨rfl, rfl⟩
    · skip
      refine r_iload_n X dX13_laws_9 rfl rfl ?_
      refine r_aload_n X dX13_laws_10 rfl rfl ?_
      refine r_getI X dX13_laws_11 fX13_221 (by assumption) (by first | assumption | rfl) ?_
      refine r_icmp_le (tgt := 23) X dX13_laws_14 (by decide) (fun h14 => ?_) (fun h14 => ?_)
      · skip
        exact absurd h14 (ixp_none (by omega) hx h6)
      · skip
        refine r_aload_n X dX13_laws_17 rfl rfl ?_
        refine r_iconst (v := 2) X dX13_laws_18 (by decide) ?_
        refine q_callV X dX13_laws_19 mX13_121 cwX13_refused (c_mRefused GE S _ V _ N g _ hs0) rfl (by assumption) rfl rfl rfl (Nat.le_of_ble_eq_true rfl) ⟨Nat.le_of_ble_eq_true rfl, Nat.le_of_ble_eq_true rfl⟩ ⟨(by first | omega | decide | (simp only [rmL, rmA]; omega)), (by first | omega | decide | (simp only [rmL, rmA]; omega))⟩ ?_
        rintro _ _ ⟨rfl, rfl⟩
        refine r_ireturn X dX13_laws_22 rfl (by first | omega | decide | (simp only [rmL, rmA]; omega)) (by first | omega | decide | (simp only [rmL, rmA]; omega)) ?_
        exact ⟨rfl, rfl⟩
  · obtain ⟨hn, rfl⟩ := ixI_some (by omega) hx
    have eR : mLaF K g z k (nI n) = if (rLa (mOpn K g n) g k).1.1 = true then (nI (rLa (mOpn K g n) g k).2, (mTrb (up2 (rLa (mOpn K g n) g k).1.2.1 g 38 (nI (rLa (mOpn K g n) g k).2)) g 0, (rLa (mOpn K g n) g k).1.2.2)) else (-1, mWr (rLa (mOpn K g n) g k).1.2 g) := by simp only [mLaF, hx]
    rw [eR]
    have hKo : MkOK (mOpn K g n).1 g := MkOK_nxt (K := (strt K.1 g (nI n), K.2)) (strt_ok (by omega) hB)
    have hp1 : (mOpn K g n).1 g 38 = nI k := (nxt_o (K := (strt K.1 g (nI n), K.2)) (by omega)).trans ((strt_o (by omega)).trans hk)
    refine r_aload_n X dX13_laws_0 rfl rfl ?_
    refine r_iconst (v := 0) X dX13_laws_1 (by decide) ?_
    refine r_putI X dX13_laws_2 fX13_1 wX13_1 (by assumption) rfl rfl ?_
    refine r_world (w' := (S, K.1, V, K.2, N)) (by rw [up2_id K.1 h0]) ?_
    refine r_iload_n X dX13_laws_5 rfl rfl ?_
    refine r_if_lt (tgt := 17) X dX13_laws_6 (by decide) (fun h6 => ?_) (fun h6 => ?_)
    · skip
      exact absurd h6 (nI_pos (by omega))
    · skip
      refine r_iload_n X dX13_laws_9 rfl rfl ?_
      refine r_aload_n X dX13_laws_10 rfl rfl ?_
      refine r_getI X dX13_laws_11 fX13_221 (by assumption) (by first | assumption | rfl) ?_
      refine r_icmpN_le (tgt := 23) X dX13_laws_14 (by decide) (by omega) (by omega) (fun h14 => ?_) (fun h14 => ?_)
      · skip
        refine r_aload_n X dX13_laws_23 rfl rfl ?_
        refine r_iload_n X dX13_laws_24 rfl rfl ?_
        refine q_callV X dX13_laws_25 mX13_266 cwX13_start (c_strt GE S K V N g n hs0 hR (by omega) hB) rfl (by assumption) rfl rfl rfl (Nat.le_of_ble_eq_true rfl) ⟨Nat.le_of_ble_eq_true rfl, Nat.le_of_ble_eq_true rfl⟩ ⟨(by first | omega | decide | (simp only [rmL, rmA]; omega)), (by first | omega | decide | (simp only [rmL, rmA]; omega))⟩ ?_
        rintro _ _ ⟨rfl, rfl⟩
        refine r_aload_n X dX13_laws_28 rfl rfl ?_
        refine q_callX X dX13_laws_29 nX13_276.1 nX13_276.2.1 nX13_276.2.2 cwX13_readLaws (c_rLa GE S (mOpn K g n) V N g k hZ hs0 hR hKo hp1 hk10) rfl (by assumption) rfl rfl rfl (Nat.le_of_ble_eq_true rfl) ⟨Nat.le_of_ble_eq_true rfl, Nat.le_of_ble_eq_true rfl⟩ ⟨(by decide), (by decide)⟩ ?_ ?_
        rotate_left
        · rintro x9 w9 ⟨ho, rfl⟩
          obtain ⟨hb29, rfl⟩ := oc_t ho
          refine t_catch (ci := 10) X hx0 ⟨by decide, by decide⟩ (by decide) rfl kX13_58 s19 ?_
          rw [if_neg (show ¬ (rLa (mOpn K g n) g k).1.1 = true by rw [hb29]; decide)]
          refine r_astore_n X dX13_laws_36 rfl (by decide) rfl ?_
          refine r_aload_n X dX13_laws_37 rfl rfl ?_
          refine r_aload_n X dX13_laws_38 rfl rfl ?_
          refine q_callV X dX13_laws_39 mX13_272 cwX13_wrong (c_mWrong GE S _ V _ N g hs0 hR) rfl (by assumption) rfl rfl rfl (Nat.le_of_ble_eq_true rfl) ⟨Nat.le_of_ble_eq_true rfl, Nat.le_of_ble_eq_true rfl⟩ ⟨(by first | omega | decide | (simp only [rmL, rmA]; omega)), (by first | omega | decide | (simp only [rmL, rmA]; omega))⟩ ?_
          rintro _ _ ⟨rfl, rfl⟩
          refine r_ireturn X dX13_laws_42 rfl (by first | omega | decide | (simp only [rmL, rmA]; omega)) (by first | omega | decide | (simp only [rmL, rmA]; omega)) ?_
          exact ⟨rfl, rfl⟩
        rintro v9 w9 ⟨ho, rfl⟩
        obtain ⟨hb29, rfl⟩ := oc_r ho
        rw [if_pos hb29]
        refine r_istore_n X dX13_laws_32 rfl (by decide) rfl ?_
        refine r_goto (tgt := 43) X dX13_laws_33 (by decide) ?_
        refine r_aload_n X dX13_laws_43 rfl rfl ?_
        refine r_iload_n X dX13_laws_44 rfl rfl ?_
        refine r_putI X dX13_laws_45 fX13_250 wX13_250 (by assumption) rfl rfl ?_
        refine r_aload_n X dX13_laws_48 rfl rfl ?_
        refine r_aload_n X dX13_laws_49 rfl rfl ?_
        refine r_getI X dX13_laws_50 fX13_250 (by assumption) (up2_same _ _ _ _) ?_
        refine q_callV X dX13_laws_53 mX13_129 cwX13_done (c_mDone GE S _ V _ N g _ hs0) rfl (by assumption) rfl rfl rfl (Nat.le_of_ble_eq_true rfl) ⟨Nat.le_of_ble_eq_true rfl, Nat.le_of_ble_eq_true rfl⟩ ⟨(by first | omega | decide | (simp only [rmL, rmA]; omega)), (by first | omega | decide | (simp only [rmL, rmA]; omega))⟩ ?_
        rintro _ _ ⟨rfl, rfl⟩
        refine r_ireturn X dX13_laws_56 rfl (by first | omega | decide | (simp only [rmL, rmA]; omega)) (by first | omega | decide | (simp only [rmL, rmA]; omega)) ?_
        exact ⟨rfl, rfl⟩
      · skip
        omega
