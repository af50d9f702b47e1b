/-! ===== the reference: readPlan ===== -/
/-- what a reading leaves: but its token, the stop, the rows from act to testLess -/
abbrev Rk (g : Nat) (I I' : Mem) : Prop := ∀ b k, (b ≠ g ∨ k < 25 ∨ 29 < k) → b ≠ g + 19 → (b < g + 22 ∨ g + 26 < b) → I' b k = I b k
theorem Rk.tr {g : Nat} {I I1 I2 : Mem} (h : Rk g I I1) (h2 : Rk g I1 I2) : Rk g I I2 := fun b k a c d => (h2 b k a c d).trans (h b k a c d)
theorem Rk.nx {g : Nat} {K : MJ} : Rk g K.1 (nxt K g).1 := fun b k a _ _ => nxt_o a
theorem Rk.st {g : Nat} {K : MJ} {x : Int32} : Rk g K.1 (stp K g x).1 := fun b k a c d => by
  show mStp K.1 g x b k = K.1 b k
  rw [mStp, up2_a c, up2_a c]
theorem Rk.u {g a j : Nat} {I : Mem} {x : Int32} (h : g + 22 ≤ a ∧ a ≤ g + 26) : Rk g I (up2 I a j x) := fun b k _ _ d => up2_a (by omega)
theorem rk_T2 {K : MJ} {g r x : Nat} : Rk g K.1 (rT2 K g r x).2.1 := by
  unfold rT2
  split
  · exact (Rk.nx.tr (Rk.u (by omega))).tr (Rk.u (by omega))
  · exact Rk.st
theorem rk_T1 {K : MJ} {g r x : Nat} : Rk g K.1 (rT1 K g r x).2.1 := by
  unfold rT1
  split
  · exact ((Rk.u (by omega)).tr (Rk.nx (K := (up2 K.1 (g + 26) (4 * r + x) (bI (mIs K.1 g 60)), K.2)))).tr rk_T2
  · exact Rk.st
theorem rk_T {K : MJ} {g r x : Nat} : Rk g K.1 (rT K g r x).2.1 := by
  unfold rT
  split
  · split
    · exact Rk.st
    · split
      · exact Rk.st
      · exact ((Rk.u (by omega)).tr (Rk.nx (K := (up2 K.1 (g + 24) (4 * r + x) (wName (mIsW K.1 K.2 g)), K.2)))).tr rk_T1
  · exact Rk.st
theorem rT2_ok {K : MJ} {g r x : Nat} (h : (rT2 K g r x).1 = true) (hK : MkOK K.1 g) : MkOK (rT2 K g r x).2.1 g ∧ (rT2 K g r x).2.1 (g + 23) r = nI (x + 1) := by
  unfold rT2 at *
  split at h
  · rename_i q
    rw [if_pos q]
    exact ⟨(MkOK_nxt hK).keep ((up2_a (by omega)).trans (up2_a (by omega))) ((up2_a (by omega)).trans (up2_a (by omega))) (fun k => (up2_a (by omega)).trans (up2_a (by omega))), up2_same _ _ _ _⟩
  · cases h
theorem rT1_ok {K : MJ} {g r x : Nat} (h : (rT1 K g r x).1 = true) (hK : MkOK K.1 g) : MkOK (rT1 K g r x).2.1 g ∧ (rT1 K g r x).2.1 (g + 23) r = nI (x + 1) := by
  unfold rT1 at *
  split at h
  · rename_i q
    rw [if_pos q]
    exact rT2_ok h (MkOK_nxt (K := (up2 K.1 (g + 26) (4 * r + x) (bI (mIs K.1 g 60)), K.2)) (hK.keep (up2_a (by omega)) (up2_a (by omega)) (fun k => up2_a (by omega))))
  · cases h
theorem rT_ok {K : MJ} {g r x : Nat} (h : (rT K g r x).1 = true) (hK : MkOK K.1 g) : MkOK (rT K g r x).2.1 g ∧ (rT K g r x).2.1 (g + 23) r = nI (x + 1) ∧ ¬ x = 4 := by
  unfold rT at *
  split at h
  · rename_i q
    rw [if_pos q]
    split at h
    · cases h
    · rename_i q2
      rw [if_neg q2]
      split at h
      · cases h
      · rename_i q3
        rw [if_neg q3]
        obtain ⟨a, b⟩ := rT1_ok h (MkOK_nxt (K := (up2 K.1 (g + 24) (4 * r + x) (wName (mIsW K.1 K.2 g)), K.2)) (hK.keep (up2_a (by omega)) (up2_a (by omega)) (fun k => up2_a (by omega))))
        exact ⟨a, b, q3⟩
  · cases h
def rTs (K : MJ) (g r x : Nat) : Nat → Bool × MJ
  | 0 => (true, K)
  | f + 1 => if (rT (nxt K g) g r x).1 = true then (if mIsW (rT (nxt K g) g r x).2.1 (rT (nxt K g) g r x).2.2 g kw_and = true then rTs (rT (nxt K g) g r x).2 g r (x + 1) f else rT (nxt K g) g r x) else rT (nxt K g) g r x
def rEnd (K : MJ) (g p r nr : Nat) : Bool × MJ :=
  if wAct (mIsW K.1 K.2 g) = -1 then (false, stp (up2 K.1 (g + 22) r (wAct (mIsW K.1 K.2 g)), K.2) g 1)
  else (true, (up2 (nxt (up2 K.1 (g + 22) r (wAct (mIsW K.1 K.2 g)), K.2) g).1 (g + 21) p (nI (nr + 1)), (nxt (up2 K.1 (g + 22) r (wAct (mIsW K.1 K.2 g)), K.2) g).2))
def rRl (K : MJ) (g p nr : Nat) : Bool × MJ :=
  if mIsW K.1 K.2 g kw_when = false ∧ wAct (mIsW K.1 K.2 g) = -1 then (false, stp K g 1)
  else if nr = 12 then (false, stp K g 3)
  else if mIsW K.1 K.2 g kw_when = true then
    (if (rTs (up2 K.1 (g + 23) (12 * p + nr) 0, K.2) g (12 * p + nr) 0 5).1 = true then rEnd (rTs (up2 K.1 (g + 23) (12 * p + nr) 0, K.2) g (12 * p + nr) 0 5).2 g p (12 * p + nr) nr else rTs (up2 K.1 (g + 23) (12 * p + nr) 0, K.2) g (12 * p + nr) 0 5)
  else rEnd (up2 K.1 (g + 23) (12 * p + nr) 0, K.2) g p (12 * p + nr) nr
def rRs (K : MJ) (g p nr : Nat) : Nat → Bool × MJ
  | 0 => (true, K)
  | f + 1 => if (rRl K g p nr).1 = true then
      (if mIs (rRl K g p nr).2.1 g 59 = true then rRs (nxt (rRl K g p nr).2 g) g p (nr + 1) f
       else if (rRl K g p nr).2.1 g 26 = 1 then (true, (rRl K g p nr).2) else (false, stp (rRl K g p nr).2 g 1))
    else rRl K g p nr
def rPl (K : MJ) (g p : Nat) : Bool × MJ := rRs (up2 K.1 (g + 21) p 0, K.2) g p 0 13
/-- what comes behind a rule -/
def rCon (R : Bool × MJ) (g p nr f : Nat) : Bool × MJ := if R.1 = true then (if mIs R.2.1 g 59 = true then rRs (nxt R.2 g) g p (nr + 1) f else if R.2.1 g 26 = 1 then (true, R.2) else (false, stp R.2 g 1)) else R
theorem rCon_f {R : Bool × MJ} {g p nr f : Nat} (h : R.1 = false) : rCon R g p nr f = R := by rw [rCon, if_neg (by rw [h]; decide)]
set_option maxHeartbeats 2000000 in
set_option maxRecDepth 20000 in
/-- SledHouseModel.readPlan -/
theorem c_rPl {E : Ev} (GE : Glob E) (S : Nat → Option (Nat × Nat)) (K : MJ) (V : Nat → Nat → Option Nat) (N g p : Nat) (hZ : Strs E) (hs0 : S g = some (12, 0)) (hR : MrSh S V g) (hK : MkOK K.1 g) (hp : K.1 g 31 = nI p) (hp8 : p ≤ 8) : CtX E yX13_readPlan cX13_readPlan 6 none (rmL 8) [.ref g] (S, K.1, V, K.2, N) (PX S V N g (rPl K g p) none) := by
  refine CtX.start GE (by decide) rfl (Nat.le_of_ble_eq_true rfl) (fun M X hx0 => ?_)
  have X : Cx E M RX13 cX13_readPlan 6 (rmL 8) none "readPlan" := X
  refine r_loc (L' := [some (.ref g), none, none, none, none, none]) rfl ?_
  obtain ⟨v21, v22, v32, v33, v34, v35, v36, v37, v39, s19, s20, s21, s22, s23, s24, s25, s26, s27⟩ := id hR
  generalize hRR : rPl K g p = RR
  rw [rPl] at hRR
  have H170 : ∀ (K1 : MJ) (m : Int32) (x3 x4 x5 : Option Value), m = 0 → (if K1.1 g 26 = 1 then (true, K1) else (false, stp K1 g 1)) = RR → G E M 0 0 (qX E M (rmL 8) (PX S V N g RR none)) 14 [some (.ref g), some (.int (nI p)), some (.int m), x3, x4, x5] [] (S, K1.1, V, K1.2, N) := by
    intro K1 m x3 x4 x5 hm he
    refine r_iload_n X dX13_readPlan_14 rfl rfl ?_
    refine r_if_eq (tgt := 170) X dX13_readPlan_15 (by decide) (fun h15 => ?_) (fun h15 => ?_)
    · skip
      refine r_aload_n X dX13_readPlan_170 rfl rfl ?_
      refine r_getI X dX13_readPlan_171 fX13_159 (by assumption) (by first | assumption | rfl) ?_
      refine r_iconst (v := 1) X dX13_readPlan_174 (by decide) ?_
      refine r_icmp_eq (tgt := 184) X dX13_readPlan_175 (by decide) (fun h175 => ?_) (fun h175 => ?_)
      · skip
        refine G.toX ?_
        refine r_return X dX13_readPlan_184 (by first | omega | decide | (simp only [rmL, rmA]; omega)) (by first | omega | decide | (simp only [rmL, rmA]; omega)) ?_
        have z1 : K1.1 g 26 = 1 := h175
        rw [if_pos z1] at he
        rw [← he]
        exact ⟨rfl, rfl⟩
      · skip
        refine r_aload_n X dX13_readPlan_178 rfl rfl ?_
        refine r_iconst (v := 1) X dX13_readPlan_179 (by decide) ?_
        refine q_callV X dX13_readPlan_180 mX13_186 cwX13_stop (c_mStp GE S _ V _ N g _ hs0 hR) rfl (by assumption) rfl rfl rfl (Nat.le_of_ble_eq_true rfl) ⟨Nat.le_of_ble_eq_true rfl, Nat.le_of_ble_eq_true rfl⟩ ⟨(by first | omega | decide | (simp only [rmL, rmA]; omega)), (by first | omega | decide | (simp only [rmL, rmA]; omega))⟩ ?_
        rintro _ _ ⟨rfl, rfl⟩
        refine t_athrow X dX13_readPlan_183 hx0 (by first | omega | decide | (simp only [rmL, rmA]; omega)) (by first | omega | decide | (simp only [rmL, rmA]; omega)) ?_
        have z1 : ¬ K1.1 g 26 = 1 := h175
        rw [if_neg z1] at he
        rw [← he]
        exact ⟨rfl, rfl⟩
    · skip
      exact absurd hm h15
  have H14 : ∀ nr, nr ≤ 13 → nr ≤ 12 → ∀ (K1 : MJ) (x3 x4 x5 : Option Value), MkOK K1.1 g → K1.1 (g + 21) p = nI nr → rRs K1 g p nr (13 - nr) = RR → G E M 0 0 (qX E M (rmL 8) (PX S V N g RR none)) 14 [some (.ref g), some (.int (nI p)), some (.int 1), x3, x4, x5] [] (S, K1.1, V, K1.2, N) := by
    refine loopN 13 (fun nr _ ih => ?_)
    intro hnr K1 x3 x4 x5 hK1 hn1 he
    rw [show 13 - nr = (12 - nr) + 1 by omega, rRs] at he
    have he : rCon (rRl K1 g p nr) g p nr (12 - nr) = RR := he
    have H110 : ∀ (K2 : MJ) (x3 : Int32) (x5 : Int32), nr < 12 → MkOK K2.1 g → K2.1 (g + 21) p = nI nr → rCon (rEnd K2 g p (12 * p + nr) nr) g p nr (12 - nr) = RR → G E M 0 0 (qX E M (rmL 8) (PX S V N g RR none)) 110 [some (.ref g), some (.int (nI p)), some (.int 1), some (.int x3), some (.int (nI (12 * p + nr))), some (.int x5)] [] (S, K2.1, V, K2.2, N) := by
      intro K2 x3 x5 hnr2 hK2 hn2 he2
      rw [rEnd] at he2
      generalize hK3 : ((up2 K2.1 (g + 22) (12 * p + nr) (wAct (mIsW K2.1 K2.2 g)), K2.2) : MJ) = K3 at he2
      have hK3o : MkOK K3.1 g := by
        rw [← hK3]
        exact hK2.keep (up2_a (by omega)) (up2_a (by omega)) (fun k => up2_a (by omega))
      have hn3 : K3.1 (g + 21) p = nI nr := by rw [← hK3]; exact (up2_a (by omega)).trans hn2
      have hn4 : (nxt K3 g).1 (g + 21) p = nI nr := (nxt_o (by omega)).trans hn3
      have ha3 : K3.1 (g + 22) (12 * p + nr) = wAct (mIsW K2.1 K2.2 g) := by rw [← hK3]; exact up2_same _ _ _ _
      refine r_aload_n X dX13_readPlan_110 rfl rfl ?_
      refine r_getR X dX13_readPlan_111 fX13_72 (by assumption) (by assumption) ?_
      refine r_iload X dX13_readPlan_114 rfl ?_
      refine r_aload_n X dX13_readPlan_116 rfl rfl ?_
      refine q_callV X dX13_readPlan_117 mX13_232 cwX13_actHere (c_mActH GE S _ V _ N g hZ hs0) rfl (by assumption) rfl rfl rfl (Nat.le_of_ble_eq_true rfl) ⟨Nat.le_of_ble_eq_true rfl, Nat.le_of_ble_eq_true rfl⟩ ⟨(by first | omega | decide | (simp only [rmL, rmA]; omega)), (by first | omega | decide | (simp only [rmL, rmA]; omega))⟩ ?_
      rintro _ _ ⟨rfl, rfl⟩
      refine r_iastN X dX13_readPlan_120 (by assumption) (by omega) (by omega) ?_
      refine r_world (w' := (S, K3.1, V, K3.2, N)) (by rw [← hK3]) ?_
      refine r_aload_n X dX13_readPlan_121 rfl rfl ?_
      refine r_getR X dX13_readPlan_122 fX13_72 (by assumption) (by assumption) ?_
      refine r_iload X dX13_readPlan_125 rfl ?_
      refine r_ialdN X dX13_readPlan_127 (by assumption) (by omega) (by omega) ha3 ?_
      refine r_iconst (v := -1) X dX13_readPlan_128 (by decide) ?_
      refine r_icmp_ne (tgt := 138) X dX13_readPlan_129 (by decide) (fun h129 => ?_) (fun h129 => ?_)
      · skip
        refine r_aload_n X dX13_readPlan_138 rfl rfl ?_
        refine q_callV X dX13_readPlan_139 mX13_189 cwX13_next (c_nxt GE S K3 V N g hs0 hR hK3o) rfl (by assumption) rfl rfl rfl (Nat.le_of_ble_eq_true rfl) ⟨Nat.le_of_ble_eq_true rfl, Nat.le_of_ble_eq_true rfl⟩ ⟨(by first | omega | decide | (simp only [rmL, rmA]; omega)), (by first | omega | decide | (simp only [rmL, rmA]; omega))⟩ ?_
        rintro _ _ ⟨rfl, rfl⟩
        refine r_aload_n X dX13_readPlan_142 rfl rfl ?_
        refine r_getR X dX13_readPlan_143 fX13_69 (by assumption) (by assumption) ?_
        refine r_iload_n X dX13_readPlan_146 rfl rfl ?_
        refine r_dup2 X dX13_readPlan_147 rfl rfl ?_
        refine r_ialdN X dX13_readPlan_148 (by assumption) (by omega) (by omega) hn4 ?_
        refine r_iconst (v := 1) X dX13_readPlan_149 (by decide) ?_
        refine r_iadd X dX13_readPlan_150 ?_
        refine r_topi (nI (nr + 1)) (nI_1 nr) ?_
        refine r_iastN X dX13_readPlan_151 (by assumption) (by omega) (by omega) ?_
        refine r_aload_n X dX13_readPlan_152 rfl rfl ?_
        refine r_bipush (v := 59) X dX13_readPlan_153 (by decide) ?_
        refine q_callV X dX13_readPlan_155 mX13_241 cwX13_is (c_mIs GE S _ V _ N g _ hs0) rfl (by assumption) rfl rfl rfl (Nat.le_of_ble_eq_true rfl) ⟨Nat.le_of_ble_eq_true rfl, Nat.le_of_ble_eq_true rfl⟩ ⟨(by first | omega | decide | (simp only [rmL, rmA]; omega)), (by first | omega | decide | (simp only [rmL, rmA]; omega))⟩ ?_
        rintro _ _ ⟨rfl, rfl⟩
        refine r_istore_n X dX13_readPlan_158 rfl (by decide) rfl ?_
        refine r_iload_n X dX13_readPlan_159 rfl rfl ?_
        refine r_if_eq (tgt := 167) X dX13_readPlan_160 (by decide) (fun h160 => ?_) (fun h160 => ?_)
        · skip
          refine r_goto (tgt := 14) X dX13_readPlan_167 (by decide) ?_
          first
            | (have z2 := bI_1 h160
               rw [e59] at z2
               rw [if_pos z2] at he2
               refine r_loc (L' := [some (.ref g), some (.int (nI p)), some (.int 1), some (.int x3), some (.int (nI (12 * p + nr))), some (.int x5)]) (by rw [e59, z2]; rfl) ?_
               refine ih (by omega) (by omega) (nxt K4 g) _ _ _ (MkOK_nxt hK4o) ?_ ?_
               · rw [nxt_o (by omega), ← hK4]; exact up2_same _ _ _ _
               · rw [show 13 - (nr + 1) = 12 - nr by omega]; exact he2)
            | (have z1 : ¬ wAct (mIsW K2.1 K2.2 g) = -1 := h129
               rw [if_neg z1, rCon, if_pos rfl] at he2
               have z2 := bI_0 h160
               rw [if_neg (by show ¬ mIs (up2 (nxt K3 g).1 (g + 21) p (nI (nr + 1))) g 59 = true; rw [z2]; decide)] at he2
               exact H170 (up2 (nxt K3 g).1 (g + 21) p (nI (nr + 1)), (nxt K3 g).2) _ _ _ _ h160 he2)
        · skip
          have z1 : ¬ wAct (mIsW K2.1 K2.2 g) = -1 := h129
          rw [if_neg z1, rCon, if_pos rfl] at he2
          generalize hK4 : ((up2 (nxt K3 g).1 (g + 21) p (nI (nr + 1)), (nxt K3 g).2) : MJ) = K4 at he2
          have hK4o : MkOK K4.1 g := by
            rw [← hK4]
            exact (MkOK_nxt hK3o).keep (up2_a (by omega)) (up2_a (by omega)) (fun k => up2_a (by omega))
          have hw4 : (S, up2 (nxt K3 g).1 (g + 21) p (nI (nr + 1)), V, (nxt K3 g).2, N) = (S, K4.1, V, K4.2, N) := by rw [← hK4]
          have e59 : mIs (up2 (nxt K3 g).1 (g + 21) p (nI (nr + 1))) g 59 = mIs K4.1 g 59 := by rw [← hK4]
          refine r_world hw4 ?_
          refine r_aload_n X dX13_readPlan_163 rfl rfl ?_
          refine q_callV X dX13_readPlan_164 mX13_189 cwX13_next (c_nxt GE S K4 V N g hs0 hR hK4o) rfl (by assumption) rfl rfl rfl (Nat.le_of_ble_eq_true rfl) ⟨Nat.le_of_ble_eq_true rfl, Nat.le_of_ble_eq_true rfl⟩ ⟨(by first | omega | decide | (simp only [rmL, rmA]; omega)), (by first | omega | decide | (simp only [rmL, rmA]; omega))⟩ ?_
          rintro _ _ ⟨rfl, rfl⟩
          refine r_goto (tgt := 14) X dX13_readPlan_167 (by decide) ?_
          first
            | (have z2 := bI_1 h160
               rw [e59] at z2
               rw [if_pos z2] at he2
               refine r_loc (L' := [some (.ref g), some (.int (nI p)), some (.int 1), some (.int x3), some (.int (nI (12 * p + nr))), some (.int x5)]) (by rw [e59, z2]; rfl) ?_
               refine ih (by omega) (by omega) (nxt K4 g) _ _ _ (MkOK_nxt hK4o) ?_ ?_
               · rw [nxt_o (by omega), ← hK4]; exact up2_same _ _ _ _
               · rw [show 13 - (nr + 1) = 12 - nr by omega]; exact he2)
            | (have z1 : ¬ wAct (mIsW K2.1 K2.2 g) = -1 := h129
               rw [if_neg z1, rCon, if_pos rfl] at he2
               have z2 := bI_0 h160
               rw [if_neg (by show ¬ mIs (up2 (nxt K3 g).1 (g + 21) p (nI (nr + 1))) g 59 = true; rw [z2]; decide)] at he2
               exact H170 (up2 (nxt K3 g).1 (g + 21) p (nI (nr + 1)), (nxt K3 g).2) _ _ _ _ h160 he2)
      · skip
        refine r_aload_n X dX13_readPlan_132 rfl rfl ?_
        refine r_iconst (v := 1) X dX13_readPlan_133 (by decide) ?_
        refine q_callV X dX13_readPlan_134 mX13_186 cwX13_stop (c_mStp GE S _ V _ N g _ hs0 hR) rfl (by assumption) rfl rfl rfl (Nat.le_of_ble_eq_true rfl) ⟨Nat.le_of_ble_eq_true rfl, Nat.le_of_ble_eq_true rfl⟩ ⟨(by first | omega | decide | (simp only [rmL, rmA]; omega)), (by first | omega | decide | (simp only [rmL, rmA]; omega))⟩ ?_
        rintro _ _ ⟨rfl, rfl⟩
        refine t_athrow X dX13_readPlan_137 hx0 (by first | omega | decide | (simp only [rmL, rmA]; omega)) (by first | omega | decide | (simp only [rmL, rmA]; omega)) ?_
        have z1 : wAct (mIsW K2.1 K2.2 g) = -1 := h129
        rw [if_pos z1, rCon_f rfl] at he2
        rw [← he2]
        exact ⟨rfl, rfl⟩
    have H84 : ∀ x, x ≤ 5 → ∀ (K2 : MJ) (x3 : Int32), x ≤ 4 → nr < 12 → MkOK K2.1 g → K2.1 (g + 21) p = nI nr → K2.1 (g + 23) (12 * p + nr) = nI x → rCon (if (rTs K2 g (12 * p + nr) x (5 - x)).1 = true then rEnd (rTs K2 g (12 * p + nr) x (5 - x)).2 g p (12 * p + nr) nr else rTs K2 g (12 * p + nr) x (5 - x)) g p nr (12 - nr) = RR → G E M 0 0 (qX E M (rmL 8) (PX S V N g RR none)) 84 [some (.ref g), some (.int (nI p)), some (.int 1), some (.int x3), some (.int (nI (12 * p + nr))), some (.int 1)] [] (S, K2.1, V, K2.2, N) := by
      refine loopN 5 (fun x _ ihx => ?_)
      intro K2 x3 hx4 hnr2 hK2 hn2 hx2 he2
      rw [show 5 - x = (4 - x) + 1 by omega, rTs] at he2
      have hxn : (nxt K2 g).1 (g + 23) (12 * p + nr) = nI x := (nxt_o (by omega)).trans hx2
      refine r_iload X dX13_readPlan_84 rfl ?_
      refine r_if_eq (tgt := 110) X dX13_readPlan_86 (by decide) (fun h86 => ?_) (fun h86 => ?_)
      · skip
        exact absurd h86 (by decide)
      · skip
        refine r_aload_n X dX13_readPlan_89 rfl rfl ?_
        refine q_callV X dX13_readPlan_90 mX13_189 cwX13_next (c_nxt GE S K2 V N g hs0 hR hK2) rfl (by assumption) rfl rfl rfl (Nat.le_of_ble_eq_true rfl) ⟨Nat.le_of_ble_eq_true rfl, Nat.le_of_ble_eq_true rfl⟩ ⟨(by first | omega | decide | (simp only [rmL, rmA]; omega)), (by first | omega | decide | (simp only [rmL, rmA]; omega))⟩ ?_
        rintro _ _ ⟨rfl, rfl⟩
        refine r_aload_n X dX13_readPlan_93 rfl rfl ?_
        refine r_iload X dX13_readPlan_94 rfl ?_
        refine q_callX X dX13_readPlan_96 nX13_235.1 nX13_235.2.1 nX13_235.2.2 cwX13_readTest (c_rT GE S (nxt K2 g) V N g (12 * p + nr) x hZ hs0 hR (MkOK_nxt hK2) (by omega) hxn hx4) rfl (by assumption) rfl rfl rfl (Nat.le_of_ble_eq_true rfl) ⟨Nat.le_of_ble_eq_true rfl, Nat.le_of_ble_eq_true rfl⟩ ⟨(by first | omega | decide | (simp only [rmL, rmA]; omega)), (by first | omega | decide | (simp only [rmL, rmA]; omega))⟩ ?_ ?_
        rotate_left
        · rintro x9 w9 ⟨ho, rfl⟩
          obtain ⟨hb96, rfl⟩ := oc_t ho
          refine t_leave X hx0 (by first | omega | decide | (simp only [rmL, rmA]; omega)) (by first | omega | decide | (simp only [rmL, rmA]; omega)) ?_
          rw [if_neg (show ¬ (rT (nxt K2 g) g (12 * p + nr) x).1 = true by rw [hb96]; decide), if_neg (show ¬ (rT (nxt K2 g) g (12 * p + nr) x).1 = true by rw [hb96]; decide), rCon_f hb96] at he2
          rw [← he2]
          exact ⟨by rw [hb96]; rfl, rfl⟩
        rintro v9 w9 ⟨ho, rfl⟩
        obtain ⟨hb96, rfl⟩ := oc_r ho
        obtain ⟨hK5, hx5, hx6⟩ := rT_ok hb96 (MkOK_nxt hK2)
        have hn5 : (rT (nxt K2 g) g (12 * p + nr) x).2.1 (g + 21) p = nI nr := (rk_T _ _ (by omega) (by omega) (by omega)).trans ((nxt_o (by omega)).trans hn2)
        rw [if_pos hb96] at he2
        refine r_aload_n X dX13_readPlan_99 rfl rfl ?_
        refine r_ldcS X dX13_readPlan_100 (sX13_239 hZ) (fun u100 hu100 => ?_)
        refine q_callV X dX13_readPlan_102 mX13_182 cwX13_isWord (c_mIsW GE S _ V _ N g _ kw_and hZ hs0 (by assumption)) rfl (by assumption) rfl rfl rfl (Nat.le_of_ble_eq_true rfl) ⟨Nat.le_of_ble_eq_true rfl, Nat.le_of_ble_eq_true rfl⟩ ⟨(by first | omega | decide | (simp only [rmL, rmA]; omega)), (by first | omega | decide | (simp only [rmL, rmA]; omega))⟩ ?_
        rintro _ _ ⟨rfl, rfl⟩
        refine r_istore X dX13_readPlan_105 (by decide) rfl ?_
        refine r_goto (tgt := 84) X dX13_readPlan_107 (by decide) ?_
        rcases hA : mIsW (rT (nxt K2 g) g (12 * p + nr) x).2.1 (rT (nxt K2 g) g (12 * p + nr) x).2.2 g kw_and with _ | _
        · rw [if_neg (show ¬ mIsW (rT (nxt K2 g) g (12 * p + nr) x).2.1 (rT (nxt K2 g) g (12 * p + nr) x).2.2 g kw_and = true by rw [hA]; decide), if_pos hb96] at he2
          refine r_loc (L' := [some (.ref g), some (.int (nI p)), some (.int 1), some (.int x3), some (.int (nI (12 * p + nr))), some (.int 0)]) rfl ?_
          refine r_iload X dX13_readPlan_84 rfl ?_
          refine r_if_eq (tgt := 110) X dX13_readPlan_86 (by decide) (fun h86 => ?_) (fun h86 => ?_)
          · skip
            exact H110 _ _ _ hnr2 hK5 hn5 he2
          · skip
            exact absurd rfl h86
        · rw [if_pos hA] at he2
          refine r_loc (L' := [some (.ref g), some (.int (nI p)), some (.int 1), some (.int x3), some (.int (nI (12 * p + nr))), some (.int 1)]) rfl ?_
          exact ihx (by omega) _ _ (by omega) hnr2 hK5 hn5 hx5 (by rw [show 5 - (x + 1) = 4 - x by omega]; exact he2)
    rw [rRl] at he
    have hw0 : ∀ j x, up2 K1.1 (g + 23) j x (g + 21) p = nI nr := fun j x => (up2_a (by omega)).trans hn1
    refine r_iload_n X dX13_readPlan_14 rfl rfl ?_
    refine r_if_eq (tgt := 170) X dX13_readPlan_15 (by decide) (fun h15 => ?_) (fun h15 => ?_)
    · skip
      exact absurd h15 (by decide)
    · skip
      refine r_aload_n X dX13_readPlan_18 rfl rfl ?_
      refine r_ldcS X dX13_readPlan_19 (sX13_230 hZ) (fun u19 hu19 => ?_)
      refine q_callV X dX13_readPlan_21 mX13_182 cwX13_isWord (c_mIsW GE S _ V _ N g _ kw_when hZ hs0 (by assumption)) rfl (by assumption) rfl rfl rfl (Nat.le_of_ble_eq_true rfl) ⟨Nat.le_of_ble_eq_true rfl, Nat.le_of_ble_eq_true rfl⟩ ⟨(by first | omega | decide | (simp only [rmL, rmA]; omega)), (by first | omega | decide | (simp only [rmL, rmA]; omega))⟩ ?_
      rintro _ _ ⟨rfl, rfl⟩
      refine r_istore_n X dX13_readPlan_24 rfl (by decide) rfl ?_
      refine r_iload_n X dX13_readPlan_25 rfl rfl ?_
      refine r_if_ne (tgt := 43) X dX13_readPlan_26 (by decide) (fun h26 => ?_) (fun h26 => ?_)
      · skip
        refine r_aload_n X dX13_readPlan_43 rfl rfl ?_
        refine r_getR X dX13_readPlan_44 fX13_69 (by assumption) (by assumption) ?_
        refine r_iload_n X dX13_readPlan_47 rfl rfl ?_
        refine r_ialdN X dX13_readPlan_48 (by assumption) (by omega) (by omega) hn1 ?_
        refine r_bipush (v := nI 12) X dX13_readPlan_49 (by decide) ?_
        refine r_icmpN_ne (tgt := 60) X dX13_readPlan_51 (by decide) (by omega) (by omega) (fun h51 => ?_) (fun h51 => ?_)
        · skip
          refine r_bipush (v := 12) X dX13_readPlan_60 (by decide) ?_
          refine r_iload_n X dX13_readPlan_62 rfl rfl ?_
          refine r_imul X dX13_readPlan_63 ?_
          refine r_topi (nI (12 * p)) (pk_mul 12 p) ?_
          refine r_aload_n X dX13_readPlan_64 rfl rfl ?_
          refine r_getR X dX13_readPlan_65 fX13_69 (by assumption) (by assumption) ?_
          refine r_iload_n X dX13_readPlan_68 rfl rfl ?_
          refine r_ialdN X dX13_readPlan_69 (by assumption) (by omega) (by omega) hn1 ?_
          refine r_iadd X dX13_readPlan_70 ?_
          refine r_topi (nI (12 * p + nr)) (nI_add _ _) ?_
          refine r_istore X dX13_readPlan_71 (by decide) rfl ?_
          refine r_aload_n X dX13_readPlan_73 rfl rfl ?_
          refine r_getR X dX13_readPlan_74 fX13_75 (by assumption) (by assumption) ?_
          refine r_iload X dX13_readPlan_77 rfl ?_
          refine r_iconst (v := 0) X dX13_readPlan_79 (by decide) ?_
          refine r_iastN X dX13_readPlan_80 (by assumption) (by omega) (by omega) ?_
          refine r_iload_n X dX13_readPlan_81 rfl rfl ?_
          refine r_istore X dX13_readPlan_82 (by decide) rfl ?_
          have hno : ¬ (mIsW K1.1 K1.2 g kw_when = false ∧ wAct (mIsW K1.1 K1.2 g) = -1) := by
            rintro ⟨q1, q2⟩
            first | exact absurd ((bI_1 h26).symm.trans q1) (by decide) | exact h34 q2
          rw [if_neg hno, if_neg (by omega)] at he
          have hK6 : MkOK (up2 K1.1 (g + 23) (12 * p + nr) 0) g := hK1.keep (up2_a (by omega)) (up2_a (by omega)) (fun k => up2_a (by omega))
          first
            | (have z1 := bI_1 h26
               rw [if_pos z1] at he
               refine r_loc (L' := [some (.ref g), some (.int (nI p)), some (.int 1), some (.int 1), some (.int (nI (12 * p + nr))), some (.int 1)]) (by rw [z1]; rfl) ?_
               exact H84 0 (by omega) (up2 K1.1 (g + 23) (12 * p + nr) 0, K1.2) _ (by omega) (by omega) hK6 (hw0 _ _) (up2_same _ _ _ _) he)
            | (have z1 := bI_0 h26
               rw [if_neg (show ¬ mIsW K1.1 K1.2 g kw_when = true by rw [z1]; decide)] at he
               refine r_loc (L' := [some (.ref g), some (.int (nI p)), some (.int 1), some (.int 0), some (.int (nI (12 * p + nr))), some (.int 0)]) (by rw [z1]; rfl) ?_
               refine r_iload X dX13_readPlan_84 rfl ?_
               refine r_if_eq (tgt := 110) X dX13_readPlan_86 (by decide) (fun h86 => ?_) (fun h86 => absurd rfl h86)
               exact H110 (up2 K1.1 (g + 23) (12 * p + nr) 0, K1.2) _ _ (by omega) hK6 (hw0 _ _) he)
        · skip
          refine r_aload_n X dX13_readPlan_54 rfl rfl ?_
          refine r_iconst (v := 3) X dX13_readPlan_55 (by decide) ?_
          refine q_callV X dX13_readPlan_56 mX13_186 cwX13_stop (c_mStp GE S _ V _ N g _ hs0 hR) rfl (by assumption) rfl rfl rfl (Nat.le_of_ble_eq_true rfl) ⟨Nat.le_of_ble_eq_true rfl, Nat.le_of_ble_eq_true rfl⟩ ⟨(by first | omega | decide | (simp only [rmL, rmA]; omega)), (by first | omega | decide | (simp only [rmL, rmA]; omega))⟩ ?_
          rintro _ _ ⟨rfl, rfl⟩
          refine t_athrow X dX13_readPlan_59 hx0 (by first | omega | decide | (simp only [rmL, rmA]; omega)) (by first | omega | decide | (simp only [rmL, rmA]; omega)) ?_
          have hno : ¬ (mIsW K1.1 K1.2 g kw_when = false ∧ wAct (mIsW K1.1 K1.2 g) = -1) := by
            rintro ⟨q1, q2⟩
            first | exact absurd ((bI_1 h26).symm.trans q1) (by decide) | exact h34 q2
          rw [if_neg hno, if_pos (by omega), rCon_f rfl] at he
          rw [← he]
          exact ⟨rfl, rfl⟩
      · skip
        refine r_aload_n X dX13_readPlan_29 rfl rfl ?_
        refine q_callV X dX13_readPlan_30 mX13_232 cwX13_actHere (c_mActH GE S _ V _ N g hZ hs0) rfl (by assumption) rfl rfl rfl (Nat.le_of_ble_eq_true rfl) ⟨Nat.le_of_ble_eq_true rfl, Nat.le_of_ble_eq_true rfl⟩ ⟨(by first | omega | decide | (simp only [rmL, rmA]; omega)), (by first | omega | decide | (simp only [rmL, rmA]; omega))⟩ ?_
        rintro _ _ ⟨rfl, rfl⟩
        refine r_iconst (v := -1) X dX13_readPlan_33 (by decide) ?_
        refine r_icmp_ne (tgt := 43) X dX13_readPlan_34 (by decide) (fun h34 => ?_) (fun h34 => ?_)
        · skip
          refine r_aload_n X dX13_readPlan_43 rfl rfl ?_
          refine r_getR X dX13_readPlan_44 fX13_69 (by assumption) (by assumption) ?_
          refine r_iload_n X dX13_readPlan_47 rfl rfl ?_
          refine r_ialdN X dX13_readPlan_48 (by assumption) (by omega) (by omega) hn1 ?_
          refine r_bipush (v := nI 12) X dX13_readPlan_49 (by decide) ?_
          refine r_icmpN_ne (tgt := 60) X dX13_readPlan_51 (by decide) (by omega) (by omega) (fun h51 => ?_) (fun h51 => ?_)
          · skip
            refine r_bipush (v := 12) X dX13_readPlan_60 (by decide) ?_
            refine r_iload_n X dX13_readPlan_62 rfl rfl ?_
            refine r_imul X dX13_readPlan_63 ?_
            refine r_topi (nI (12 * p)) (pk_mul 12 p) ?_
            refine r_aload_n X dX13_readPlan_64 rfl rfl ?_
            refine r_getR X dX13_readPlan_65 fX13_69 (by assumption) (by assumption) ?_
            refine r_iload_n X dX13_readPlan_68 rfl rfl ?_
            refine r_ialdN X dX13_readPlan_69 (by assumption) (by omega) (by omega) hn1 ?_
            refine r_iadd X dX13_readPlan_70 ?_
            refine r_topi (nI (12 * p + nr)) (nI_add _ _) ?_
            refine r_istore X dX13_readPlan_71 (by decide) rfl ?_
            refine r_aload_n X dX13_readPlan_73 rfl rfl ?_
            refine r_getR X dX13_readPlan_74 fX13_75 (by assumption) (by assumption) ?_
            refine r_iload X dX13_readPlan_77 rfl ?_
            refine r_iconst (v := 0) X dX13_readPlan_79 (by decide) ?_
            refine r_iastN X dX13_readPlan_80 (by assumption) (by omega) (by omega) ?_
            refine r_iload_n X dX13_readPlan_81 rfl rfl ?_
            refine r_istore X dX13_readPlan_82 (by decide) rfl ?_
            have hno : ¬ (mIsW K1.1 K1.2 g kw_when = false ∧ wAct (mIsW K1.1 K1.2 g) = -1) := by
              rintro ⟨q1, q2⟩
              first | exact absurd ((bI_1 h26).symm.trans q1) (by decide) | exact h34 q2
            rw [if_neg hno, if_neg (by omega)] at he
            have hK6 : MkOK (up2 K1.1 (g + 23) (12 * p + nr) 0) g := hK1.keep (up2_a (by omega)) (up2_a (by omega)) (fun k => up2_a (by omega))
            first
              | (have z1 := bI_1 h26
                 rw [if_pos z1] at he
                 refine r_loc (L' := [some (.ref g), some (.int (nI p)), some (.int 1), some (.int 1), some (.int (nI (12 * p + nr))), some (.int 1)]) (by rw [z1]; rfl) ?_
                 exact H84 0 (by omega) (up2 K1.1 (g + 23) (12 * p + nr) 0, K1.2) _ (by omega) (by omega) hK6 (hw0 _ _) (up2_same _ _ _ _) he)
              | (have z1 := bI_0 h26
                 rw [if_neg (show ¬ mIsW K1.1 K1.2 g kw_when = true by rw [z1]; decide)] at he
                 refine r_loc (L' := [some (.ref g), some (.int (nI p)), some (.int 1), some (.int 0), some (.int (nI (12 * p + nr))), some (.int 0)]) (by rw [z1]; rfl) ?_
                 refine r_iload X dX13_readPlan_84 rfl ?_
                 refine r_if_eq (tgt := 110) X dX13_readPlan_86 (by decide) (fun h86 => ?_) (fun h86 => absurd rfl h86)
                 exact H110 (up2 K1.1 (g + 23) (12 * p + nr) 0, K1.2) _ _ (by omega) hK6 (hw0 _ _) he)
          · skip
            refine r_aload_n X dX13_readPlan_54 rfl rfl ?_
            refine r_iconst (v := 3) X dX13_readPlan_55 (by decide) ?_
            refine q_callV X dX13_readPlan_56 mX13_186 cwX13_stop (c_mStp GE S _ V _ N g _ hs0 hR) rfl (by assumption) rfl rfl rfl (Nat.le_of_ble_eq_true rfl) ⟨Nat.le_of_ble_eq_true rfl, Nat.le_of_ble_eq_true rfl⟩ ⟨(by first | omega | decide | (simp only [rmL, rmA]; omega)), (by first | omega | decide | (simp only [rmL, rmA]; omega))⟩ ?_
            rintro _ _ ⟨rfl, rfl⟩
            refine t_athrow X dX13_readPlan_59 hx0 (by first | omega | decide | (simp only [rmL, rmA]; omega)) (by first | omega | decide | (simp only [rmL, rmA]; omega)) ?_
            have hno : ¬ (mIsW K1.1 K1.2 g kw_when = false ∧ wAct (mIsW K1.1 K1.2 g) = -1) := by
              rintro ⟨q1, q2⟩
              first | exact absurd ((bI_1 h26).symm.trans q1) (by decide) | exact h34 q2
            rw [if_neg hno, if_pos (by omega), rCon_f rfl] at he
            rw [← he]
            exact ⟨rfl, rfl⟩
        · skip
          refine r_aload_n X dX13_readPlan_37 rfl rfl ?_
          refine r_iconst (v := 1) X dX13_readPlan_38 (by decide) ?_
          refine q_callV X dX13_readPlan_39 mX13_186 cwX13_stop (c_mStp GE S _ V _ N g _ hs0 hR) rfl (by assumption) rfl rfl rfl (Nat.le_of_ble_eq_true rfl) ⟨Nat.le_of_ble_eq_true rfl, Nat.le_of_ble_eq_true rfl⟩ ⟨(by first | omega | decide | (simp only [rmL, rmA]; omega)), (by first | omega | decide | (simp only [rmL, rmA]; omega))⟩ ?_
          rintro _ _ ⟨rfl, rfl⟩
          refine t_athrow X dX13_readPlan_42 hx0 (by first | omega | decide | (simp only [rmL, rmA]; omega)) (by first | omega | decide | (simp only [rmL, rmA]; omega)) ?_
          have hyes : mIsW K1.1 K1.2 g kw_when = false ∧ wAct (mIsW K1.1 K1.2 g) = -1 := ⟨bI_0 h26, h34⟩
          rw [if_pos hyes, rCon_f rfl] at he
          rw [← he]
          exact ⟨rfl, rfl⟩
  have hK0 : MkOK (up2 K.1 (g + 21) p 0) g := hK.keep (up2_a (by omega)) (up2_a (by omega)) (fun k => up2_a (by omega))
  refine r_aload_n X dX13_readPlan_0 rfl rfl ?_
  refine r_getI X dX13_readPlan_1 fX13_227 (by assumption) hp ?_
  refine r_istore_n X dX13_readPlan_4 rfl (by decide) rfl ?_
  refine r_aload_n X dX13_readPlan_5 rfl rfl ?_
  refine r_getR X dX13_readPlan_6 fX13_69 (by assumption) (by assumption) ?_
  refine r_iload_n X dX13_readPlan_9 rfl rfl ?_
  refine r_iconst (v := 0) X dX13_readPlan_10 (by decide) ?_
  refine r_iastN X dX13_readPlan_11 (by assumption) (by omega) (by omega) ?_
  refine r_iconst (v := 1) X dX13_readPlan_12 (by decide) ?_
  refine r_istore_n X dX13_readPlan_13 rfl (by decide) rfl ?_
  exact H14 0 (by omega) (by omega) (up2 K.1 (g + 21) p 0, K.2) _ _ _ hK0 (up2_same _ _ _ _) hRR
