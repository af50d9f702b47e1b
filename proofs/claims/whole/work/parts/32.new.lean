/-! ===== constructors ===== -/
section TN
variable {E : Ev} {M : Mc} {own : String} {cc : ByteArray} {nL : Nat} {rm : Room} {ret : Option FieldType} {nm : String} {cells slots : Nat} {Q : State → Prop} {pc : Nat} {L : List (Option Value)} {st : List Value}
variable {S : Nat → Option (Nat × Nat)} {I : Nat → Nat → Int32} {V : Nat → Nat → Option Nat} {J : Nat → Nat → Int64} {N : Nat} {n idx ci k : Nat}
theorem t_newI {x : Int32} (X : Cx E M own cc nL rm ret nm) (hd : decode cc pc = .ok (.newarray .int, 2)) (hx : x = nI n) (hn : n < 100000) (hc : cells + 1 ≤ rm.cells) (hs : slots + n ≤ rm.slots) (kk : G E M (cells + 1) (slots + n) Q (pc + 2) L (.ref N :: st) (up1 S N (some (100, n)), zr I N 0, zr V N none, zr J N 0, N + 1)) : G E M cells slots Q pc L (.int x :: st) (S, I, V, J, N) := r_newI X hd hx hn hc hs kk
theorem t_newB {x : Int32} (X : Cx E M own cc nL rm ret nm) (hd : decode cc pc = .ok (.newarray .byte, 2)) (hx : x = nI n) (hn : n < 100000) (hc : cells + 1 ≤ rm.cells) (hs : slots + n ≤ rm.slots) (kk : G E M (cells + 1) (slots + n) Q (pc + 2) L (.ref N :: st) (up1 S N (some (101, n)), zr I N 0, zr V N none, zr J N 0, N + 1)) : G E M cells slots Q pc L (.int x :: st) (S, I, V, J, N) := r_newB X hd hx hn hc hs kk
theorem t_newZ {x : Int32} (X : Cx E M own cc nL rm ret nm) (hd : decode cc pc = .ok (.newarray .boolean, 2)) (hx : x = nI n) (hn : n < 100000) (hc : cells + 1 ≤ rm.cells) (hs : slots + n ≤ rm.slots) (kk : G E M (cells + 1) (slots + n) Q (pc + 2) L (.ref N :: st) (up1 S N (some (102, n)), zr I N 0, zr V N none, zr J N 0, N + 1)) : G E M cells slots Q pc L (.int x :: st) (S, I, V, J, N) := r_newZ X hd hx hn hc hs kk
theorem t_new {r : vw_C} {nS : Nat} (X : Cx E M own cc nL rm ret nm) (hd : decode cc pc = .ok (.new idx, 3)) (hr : kCl[ci]? = some r) (hcl : Cond.classLink own idx r.1 ∈ lw_tbl) (hins : Cond.instantiable r.1 nS ∈ lw_tbl) (hini : Cond.initialized r.1 ∈ lw_tbl) (hc : cells + 1 ≤ rm.cells) (hs : slots + nS ≤ rm.slots)
    (kk : G E M (cells + 1) (slots + nS) Q (pc + 3) L (.ref N :: st) (up1 S N (some (ci, 0)), zr I N 0, zr V N none, zr J N 0, N + 1)) : G E M cells slots Q pc L st (S, I, V, J, N) := r_new X hd hr hcl hins hini hc hs kk
theorem t_anew {x : Int32} {C : String} (X : Cx E M own cc nL rm ret nm) (hd : decode cc pc = .ok (.anewarray idx, 3)) (hk : 103 ≤ k) (ht : akT k = some (.object C)) (hcl : Cond.classLink own idx C ∈ lw_tbl) (hov : Cond.arrayOver (.object C) ∈ lw_tbl) (hx : x = nI n) (hn : n < 100000) (hc : cells + 1 ≤ rm.cells) (hs : slots + n ≤ rm.slots)
    (kk : G E M (cells + 1) (slots + n) Q (pc + 3) L (.ref N :: st) (up1 S N (some (k, n)), zr I N 0, zr V N none, zr J N 0, N + 1)) : G E M cells slots Q pc L (.int x :: st) (S, I, V, J, N) := r_anew X hd hk ht hcl hov hx hn hc hs kk
end TN
theorem aoX4 : Cond.arrayOver (.object RX4) ∈ lw_tbl := by decide +kernel
theorem aoX6 : Cond.arrayOver (.object RX6) ∈ lw_tbl := by decide +kernel
theorem aoX8 : Cond.arrayOver (.object RX8) ∈ lw_tbl := by decide +kernel
theorem aoX12 : Cond.arrayOver (.object RX12) ∈ lw_tbl := by decide +kernel
theorem up1n {α : Type} {f : Nat → α} {a b : Nat} {x y : α} (h : b ≠ a) (g : f b = y) : up1 f a x b = y := by rw [up1, if_neg h]; exact g
/-- what lay below b stands as it was, and b is what it was -/
def Nw (b : Nat) (S : Nat → Option (Nat × Nat)) (I : Mem) (V : Nat → Nat → Option Nat) (J : Nat → Nat → Int64) (S' : Nat → Option (Nat × Nat)) (I' : Mem) (V' : Nat → Nat → Option Nat) (J' : Nat → Nat → Int64) : Prop :=
  (∀ x, x ≤ b → S' x = S x) ∧ ∀ x, x < b → I' x = I x ∧ V' x = V x ∧ J' x = J x
set_option maxHeartbeats 2000000 in
set_option maxRecDepth 20000 in
/-- SledHouse$Dogs.<init> -/
theorem n_dogs {E : Ev} (GE : Glob E) (S : Nat → Option (Nat × Nat)) (I : Nat → Nat → Int32) (V : Nat → Nat → Option Nat) (J : Nat → Nat → Int64) (b : Nat) (hs : S b = some (0, 0)) (hz : ∀ k, I b k = 0) : Ct E yX0_init cX0_init 1 none (rmA 1 3 48) [.ref b] (S, I, V, J, b + 1) (fun v w' => v = none ∧ ∃ S' I' V' J', w' = (S', I', V', J', b + 4) ∧ Nw b S I V J S' I' V' J' ∧ DogsSh S' V' b ∧ ∀ x k, b ≤ x → x < b + 4 → I' x k = 0) := by
  refine Ct.start GE (by decide) rfl (Nat.le_of_ble_eq_true rfl) (fun M X => ?_)
  have X : Cx E M RX0 cX0_init 1 (rmA 1 3 48) none "<init>" := X
  refine r_loc (L' := [some (.ref b)]) rfl ?_
  refine r_aload_n X dX0_init_0 rfl rfl ?_
  refine r_objInit X dX0_init_1 mX0_3 (Nat.le_of_ble_eq_true rfl) (Nat.le_of_ble_eq_true rfl) ?_
  refine r_aload_n X dX0_init_4 rfl rfl ?_
  refine r_bipush (v := nI 16) X dX0_init_5 (by decide) ?_
  refine t_newI X dX0_init_7 rfl (by decide) (by first | omega | decide | (simp only [rmL, rmA]; omega)) (by first | omega | decide | (simp only [rmL, rmA]; omega)) ?_
  refine r_putR (o := some _) X dX0_init_9 fX0_9 wX0_9 (by (repeat (refine up1n (by omega) ?_)); assumption) rfl rfl ?_
  refine r_aload_n X dX0_init_12 rfl rfl ?_
  refine r_bipush (v := nI 16) X dX0_init_13 (by decide) ?_
  refine t_newI X dX0_init_15 rfl (by decide) (by first | omega | decide | (simp only [rmL, rmA]; omega)) (by first | omega | decide | (simp only [rmL, rmA]; omega)) ?_
  refine r_putR (o := some _) X dX0_init_17 fX0_15 wX0_15 (by (repeat (refine up1n (by omega) ?_)); assumption) rfl rfl ?_
  refine r_aload_n X dX0_init_20 rfl rfl ?_
  refine r_bipush (v := nI 16) X dX0_init_21 (by decide) ?_
  refine t_newI X dX0_init_23 rfl (by decide) (by first | omega | decide | (simp only [rmL, rmA]; omega)) (by first | omega | decide | (simp only [rmL, rmA]; omega)) ?_
  refine r_putR (o := some _) X dX0_init_25 fX0_18 wX0_18 (by (repeat (refine up1n (by omega) ?_)); assumption) rfl rfl ?_
  refine r_aload_n X dX0_init_28 rfl rfl ?_
  refine r_iconst (v := 0) X dX0_init_29 (by decide) ?_
  refine r_putI X dX0_init_30 fX0_21 wX0_21 (by (repeat (refine up1n (by omega) ?_)); assumption) rfl rfl ?_
  refine r_aload_n X dX0_init_33 rfl rfl ?_
  refine r_iconst (v := 0) X dX0_init_34 (by decide) ?_
  refine r_putI X dX0_init_35 fX0_25 wX0_25 (by (repeat (refine up1n (by omega) ?_)); assumption) rfl rfl ?_
  refine r_aload_n X dX0_init_38 rfl rfl ?_
  refine r_iconst (v := 0) X dX0_init_39 (by decide) ?_
  refine r_putI X dX0_init_40 fX0_28 wX0_28 (by (repeat (refine up1n (by omega) ?_)); assumption) rfl rfl ?_
  refine r_return X dX0_init_43 (by first | omega | decide | (simp only [rmL, rmA]; omega)) (by first | omega | decide | (simp only [rmL, rmA]; omega)) ?_
  refine ⟨rfl, _, _, _, _, rfl, ⟨fun x hx => ?_, fun x hx => ⟨?_, ?_, ?_⟩⟩, ?_, ?_⟩
  · simp only [up1]
    repeat (rw [if_neg (by omega)])
  · funext k
    simp only [up2, zr]
    repeat (rw [if_neg (by omega)])
  · funext k
    simp only [up2, zr]
    repeat (rw [if_neg (by omega)])
  · funext k
    simp only [zr]
    repeat (rw [if_neg (by omega)])
  · simp [DogsSh, up1, up2, zr, hs, Nat.add_assoc]
  · intro x k h1 h2
    simp only [up2, zr]
    repeat' split
    all_goals first | rfl | (exfalso; omega) | (obtain rfl : x = b := (by omega); exact hz k)
set_option maxHeartbeats 2000000 in
set_option maxRecDepth 20000 in
/-- SledHouse$Gaps.<init> -/
theorem n_gaps {E : Ev} (GE : Glob E) (S : Nat → Option (Nat × Nat)) (I : Nat → Nat → Int32) (V : Nat → Nat → Option Nat) (J : Nat → Nat → Int64) (b : Nat) (hs : S b = some (1, 0)) (hz : ∀ k, I b k = 0) : Ct E yX1_init cX1_init 1 none (rmA 1 2 8) [.ref b] (S, I, V, J, b + 1) (fun v w' => v = none ∧ ∃ S' I' V' J', w' = (S', I', V', J', b + 3) ∧ Nw b S I V J S' I' V' J' ∧ GapsSh S' V' b ∧ ∀ x k, b ≤ x → x < b + 3 → I' x k = 0) := by
  refine Ct.start GE (by decide) rfl (Nat.le_of_ble_eq_true rfl) (fun M X => ?_)
  have X : Cx E M RX1 cX1_init 1 (rmA 1 2 8) none "<init>" := X
  refine r_loc (L' := [some (.ref b)]) rfl ?_
  refine r_aload_n X dX1_init_0 rfl rfl ?_
  refine r_objInit X dX1_init_1 mX1_3 (Nat.le_of_ble_eq_true rfl) (Nat.le_of_ble_eq_true rfl) ?_
  refine r_aload_n X dX1_init_4 rfl rfl ?_
  refine r_iconst (v := nI 4) X dX1_init_5 (by decide) ?_
  refine t_newI X dX1_init_6 rfl (by decide) (by first | omega | decide | (simp only [rmL, rmA]; omega)) (by first | omega | decide | (simp only [rmL, rmA]; omega)) ?_
  refine r_putR (o := some _) X dX1_init_8 fX1_9 wX1_9 (by (repeat (refine up1n (by omega) ?_)); assumption) rfl rfl ?_
  refine r_aload_n X dX1_init_11 rfl rfl ?_
  refine r_iconst (v := nI 4) X dX1_init_12 (by decide) ?_
  refine t_newI X dX1_init_13 rfl (by decide) (by first | omega | decide | (simp only [rmL, rmA]; omega)) (by first | omega | decide | (simp only [rmL, rmA]; omega)) ?_
  refine r_putR (o := some _) X dX1_init_15 fX1_15 wX1_15 (by (repeat (refine up1n (by omega) ?_)); assumption) rfl rfl ?_
  refine r_aload_n X dX1_init_18 rfl rfl ?_
  refine r_iconst (v := 0) X dX1_init_19 (by decide) ?_
  refine r_putI X dX1_init_20 fX1_18 wX1_18 (by (repeat (refine up1n (by omega) ?_)); assumption) rfl rfl ?_
  refine r_return X dX1_init_23 (by first | omega | decide | (simp only [rmL, rmA]; omega)) (by first | omega | decide | (simp only [rmL, rmA]; omega)) ?_
  refine ⟨rfl, _, _, _, _, rfl, ⟨fun x hx => ?_, fun x hx => ⟨?_, ?_, ?_⟩⟩, ?_, ?_⟩
  · simp only [up1]
    repeat (rw [if_neg (by omega)])
  · funext k
    simp only [up2, zr]
    repeat (rw [if_neg (by omega)])
  · funext k
    simp only [up2, zr]
    repeat (rw [if_neg (by omega)])
  · funext k
    simp only [zr]
    repeat (rw [if_neg (by omega)])
  · simp [GapsSh, up1, up2, zr, hs, Nat.add_assoc]
  · intro x k h1 h2
    simp only [up2, zr]
    repeat' split
    all_goals first | rfl | (exfalso; omega) | (obtain rfl : x = b := (by omega); exact hz k)
set_option maxHeartbeats 2000000 in
set_option maxRecDepth 20000 in
/-- SledHouse$LawBook.<init> -/
theorem n_law {E : Ev} (GE : Glob E) (S : Nat → Option (Nat × Nat)) (I : Nat → Nat → Int32) (V : Nat → Nat → Option Nat) (J : Nat → Nat → Int64) (b : Nat) (hs : S b = some (2, 0)) (hz : ∀ k, I b k = 0) : Ct E yX2_init cX2_init 1 none (rmA 1 4 40) [.ref b] (S, I, V, J, b + 1) (fun v w' => v = none ∧ ∃ S' I' V' J', w' = (S', I', V', J', b + 5) ∧ Nw b S I V J S' I' V' J' ∧ LawSh S' V' b ∧ ∀ x k, b ≤ x → x < b + 5 → I' x k = 0) := by
  refine Ct.start GE (by decide) rfl (Nat.le_of_ble_eq_true rfl) (fun M X => ?_)
  have X : Cx E M RX2 cX2_init 1 (rmA 1 4 40) none "<init>" := X
  refine r_loc (L' := [some (.ref b)]) rfl ?_
  refine r_aload_n X dX2_init_0 rfl rfl ?_
  refine r_objInit X dX2_init_1 mX2_3 (Nat.le_of_ble_eq_true rfl) (Nat.le_of_ble_eq_true rfl) ?_
  refine r_aload_n X dX2_init_4 rfl rfl ?_
  refine r_bipush (v := nI 10) X dX2_init_5 (by decide) ?_
  refine t_newI X dX2_init_7 rfl (by decide) (by first | omega | decide | (simp only [rmL, rmA]; omega)) (by first | omega | decide | (simp only [rmL, rmA]; omega)) ?_
  refine r_putR (o := some _) X dX2_init_9 fX2_9 wX2_9 (by (repeat (refine up1n (by omega) ?_)); assumption) rfl rfl ?_
  refine r_aload_n X dX2_init_12 rfl rfl ?_
  refine r_bipush (v := nI 10) X dX2_init_13 (by decide) ?_
  refine t_newI X dX2_init_15 rfl (by decide) (by first | omega | decide | (simp only [rmL, rmA]; omega)) (by first | omega | decide | (simp only [rmL, rmA]; omega)) ?_
  refine r_putR (o := some _) X dX2_init_17 fX2_15 wX2_15 (by (repeat (refine up1n (by omega) ?_)); assumption) rfl rfl ?_
  refine r_aload_n X dX2_init_20 rfl rfl ?_
  refine r_bipush (v := nI 10) X dX2_init_21 (by decide) ?_
  refine t_newI X dX2_init_23 rfl (by decide) (by first | omega | decide | (simp only [rmL, rmA]; omega)) (by first | omega | decide | (simp only [rmL, rmA]; omega)) ?_
  refine r_putR (o := some _) X dX2_init_25 fX2_18 wX2_18 (by (repeat (refine up1n (by omega) ?_)); assumption) rfl rfl ?_
  refine r_aload_n X dX2_init_28 rfl rfl ?_
  refine r_bipush (v := nI 10) X dX2_init_29 (by decide) ?_
  refine t_newI X dX2_init_31 rfl (by decide) (by first | omega | decide | (simp only [rmL, rmA]; omega)) (by first | omega | decide | (simp only [rmL, rmA]; omega)) ?_
  refine r_putR (o := some _) X dX2_init_33 fX2_21 wX2_21 (by (repeat (refine up1n (by omega) ?_)); assumption) rfl rfl ?_
  refine r_aload_n X dX2_init_36 rfl rfl ?_
  refine r_iconst (v := 0) X dX2_init_37 (by decide) ?_
  refine r_putI X dX2_init_38 fX2_24 wX2_24 (by (repeat (refine up1n (by omega) ?_)); assumption) rfl rfl ?_
  refine r_return X dX2_init_41 (by first | omega | decide | (simp only [rmL, rmA]; omega)) (by first | omega | decide | (simp only [rmL, rmA]; omega)) ?_
  refine ⟨rfl, _, _, _, _, rfl, ⟨fun x hx => ?_, fun x hx => ⟨?_, ?_, ?_⟩⟩, ?_, ?_⟩
  · simp only [up1]
    repeat (rw [if_neg (by omega)])
  · funext k
    simp only [up2, zr]
    repeat (rw [if_neg (by omega)])
  · funext k
    simp only [up2, zr]
    repeat (rw [if_neg (by omega)])
  · funext k
    simp only [zr]
    repeat (rw [if_neg (by omega)])
  · simp [LawSh, up1, up2, zr, hs, Nat.add_assoc]
  · intro x k h1 h2
    simp only [up2, zr]
    repeat' split
    all_goals first | rfl | (exfalso; omega) | (obtain rfl : x = b := (by omega); exact hz k)
set_option maxHeartbeats 2000000 in
set_option maxRecDepth 20000 in
/-- SledHouse$Plan.<init> -/
theorem n_plan {E : Ev} (GE : Glob E) (S : Nat → Option (Nat × Nat)) (I : Nat → Nat → Int32) (V : Nat → Nat → Option Nat) (J : Nat → Nat → Int64) (b : Nat) (hs : S b = some (3, 0)) (hz : ∀ k, I b k = 0) : Ct E yX4_init cX4_init 1 none (rmA 1 6 180) [.ref b] (S, I, V, J, b + 1) (fun v w' => v = none ∧ ∃ S' I' V' J', w' = (S', I', V', J', b + 7) ∧ Nw b S I V J S' I' V' J' ∧ PlanSh S' V' b ∧ ∀ x k, b ≤ x → x < b + 7 → I' x k = 0) := by
  refine Ct.start GE (by decide) rfl (Nat.le_of_ble_eq_true rfl) (fun M X => ?_)
  have X : Cx E M RX4 cX4_init 1 (rmA 1 6 180) none "<init>" := X
  refine r_loc (L' := [some (.ref b)]) rfl ?_
  refine r_aload_n X dX4_init_0 rfl rfl ?_
  refine r_objInit X dX4_init_1 mX4_3 (Nat.le_of_ble_eq_true rfl) (Nat.le_of_ble_eq_true rfl) ?_
  refine r_aload_n X dX4_init_4 rfl rfl ?_
  refine r_bipush (v := nI 12) X dX4_init_5 (by decide) ?_
  refine t_newI X dX4_init_7 rfl (by decide) (by first | omega | decide | (simp only [rmL, rmA]; omega)) (by first | omega | decide | (simp only [rmL, rmA]; omega)) ?_
  refine r_putR (o := some _) X dX4_init_9 fX4_9 wX4_9 (by (repeat (refine up1n (by omega) ?_)); assumption) rfl rfl ?_
  refine r_aload_n X dX4_init_12 rfl rfl ?_
  refine r_bipush (v := nI 12) X dX4_init_13 (by decide) ?_
  refine t_newI X dX4_init_15 rfl (by decide) (by first | omega | decide | (simp only [rmL, rmA]; omega)) (by first | omega | decide | (simp only [rmL, rmA]; omega)) ?_
  refine r_putR (o := some _) X dX4_init_17 fX4_15 wX4_15 (by (repeat (refine up1n (by omega) ?_)); assumption) rfl rfl ?_
  refine r_aload_n X dX4_init_20 rfl rfl ?_
  refine r_bipush (v := nI 12) X dX4_init_21 (by decide) ?_
  refine t_newI X dX4_init_23 rfl (by decide) (by first | omega | decide | (simp only [rmL, rmA]; omega)) (by first | omega | decide | (simp only [rmL, rmA]; omega)) ?_
  refine r_putR (o := some _) X dX4_init_25 fX4_18 wX4_18 (by (repeat (refine up1n (by omega) ?_)); assumption) rfl rfl ?_
  refine r_aload_n X dX4_init_28 rfl rfl ?_
  refine r_bipush (v := nI 48) X dX4_init_29 (by decide) ?_
  refine t_newI X dX4_init_31 rfl (by decide) (by first | omega | decide | (simp only [rmL, rmA]; omega)) (by first | omega | decide | (simp only [rmL, rmA]; omega)) ?_
  refine r_putR (o := some _) X dX4_init_33 fX4_21 wX4_21 (by (repeat (refine up1n (by omega) ?_)); assumption) rfl rfl ?_
  refine r_aload_n X dX4_init_36 rfl rfl ?_
  refine r_bipush (v := nI 48) X dX4_init_37 (by decide) ?_
  refine t_newI X dX4_init_39 rfl (by decide) (by first | omega | decide | (simp only [rmL, rmA]; omega)) (by first | omega | decide | (simp only [rmL, rmA]; omega)) ?_
  refine r_putR (o := some _) X dX4_init_41 fX4_24 wX4_24 (by (repeat (refine up1n (by omega) ?_)); assumption) rfl rfl ?_
  refine r_aload_n X dX4_init_44 rfl rfl ?_
  refine r_bipush (v := nI 48) X dX4_init_45 (by decide) ?_
  refine t_newZ X dX4_init_47 rfl (by decide) (by first | omega | decide | (simp only [rmL, rmA]; omega)) (by first | omega | decide | (simp only [rmL, rmA]; omega)) ?_
  refine r_putR (o := some _) X dX4_init_49 fX4_27 wX4_27 (by (repeat (refine up1n (by omega) ?_)); assumption) rfl rfl ?_
  refine r_aload_n X dX4_init_52 rfl rfl ?_
  refine r_iconst (v := 0) X dX4_init_53 (by decide) ?_
  refine r_putI X dX4_init_54 fX4_31 wX4_31 (by (repeat (refine up1n (by omega) ?_)); assumption) rfl rfl ?_
  refine r_aload_n X dX4_init_57 rfl rfl ?_
  refine r_iconst (v := 0) X dX4_init_58 (by decide) ?_
  refine r_putI X dX4_init_59 fX4_35 wX4_35 (by (repeat (refine up1n (by omega) ?_)); assumption) rfl rfl ?_
  refine r_return X dX4_init_62 (by first | omega | decide | (simp only [rmL, rmA]; omega)) (by first | omega | decide | (simp only [rmL, rmA]; omega)) ?_
  refine ⟨rfl, _, _, _, _, rfl, ⟨fun x hx => ?_, fun x hx => ⟨?_, ?_, ?_⟩⟩, ?_, ?_⟩
  · simp only [up1]
    repeat (rw [if_neg (by omega)])
  · funext k
    simp only [up2, zr]
    repeat (rw [if_neg (by omega)])
  · funext k
    simp only [up2, zr]
    repeat (rw [if_neg (by omega)])
  · funext k
    simp only [zr]
    repeat (rw [if_neg (by omega)])
  · simp [PlanSh, up1, up2, zr, hs, Nat.add_assoc]
  · intro x k h1 h2
    simp only [up2, zr]
    repeat' split
    all_goals first | rfl | (exfalso; omega) | (obtain rfl : x = b := (by omega); exact hz k)
set_option maxHeartbeats 2000000 in
set_option maxRecDepth 20000 in
/-- SledHouse$SignRow.<init> -/
theorem n_row {E : Ev} (GE : Glob E) (S : Nat → Option (Nat × Nat)) (I : Nat → Nat → Int32) (V : Nat → Nat → Option Nat) (J : Nat → Nat → Int64) (b : Nat) (hs : S b = some (5, 0)) (hz : ∀ k, I b k = 0) : Ct E yX6_init cX6_init 1 none (rmA 1 1 0) [.ref b] (S, I, V, J, b + 1) (fun v w' => v = none ∧ ∃ S' I' V' J', w' = (S', I', V', J', b + 2) ∧ Nw b S I V J S' I' V' J' ∧ RowSh S' V' b (b + 1) 0 ∧ ∀ x k, b ≤ x → x < b + 2 → I' x k = 0) := by
  refine Ct.start GE (by decide) rfl (Nat.le_of_ble_eq_true rfl) (fun M X => ?_)
  have X : Cx E M RX6 cX6_init 1 (rmA 1 1 0) none "<init>" := X
  refine r_loc (L' := [some (.ref b)]) rfl ?_
  refine r_aload_n X dX6_init_0 rfl rfl ?_
  refine r_objInit X dX6_init_1 mX6_3 (Nat.le_of_ble_eq_true rfl) (Nat.le_of_ble_eq_true rfl) ?_
  refine r_aload_n X dX6_init_4 rfl rfl ?_
  refine r_iconst (v := nI 0) X dX6_init_5 (by decide) ?_
  refine t_newI X dX6_init_6 rfl (by decide) (by first | omega | decide | (simp only [rmL, rmA]; omega)) (by first | omega | decide | (simp only [rmL, rmA]; omega)) ?_
  refine r_putR (o := some _) X dX6_init_8 fX6_9 wX6_9 (by (repeat (refine up1n (by omega) ?_)); assumption) rfl rfl ?_
  refine r_return X dX6_init_11 (by first | omega | decide | (simp only [rmL, rmA]; omega)) (by first | omega | decide | (simp only [rmL, rmA]; omega)) ?_
  refine ⟨rfl, _, _, _, _, rfl, ⟨fun x hx => ?_, fun x hx => ⟨?_, ?_, ?_⟩⟩, ?_, ?_⟩
  · simp only [up1]
    repeat (rw [if_neg (by omega)])
  · funext k
    simp only [up2, zr]
    repeat (rw [if_neg (by omega)])
  · funext k
    simp only [up2, zr]
    repeat (rw [if_neg (by omega)])
  · funext k
    simp only [zr]
    repeat (rw [if_neg (by omega)])
  · simp [RowSh, up1, up2, zr, hs, Nat.add_assoc]
  · intro x k h1 h2
    simp only [up2, zr]
    repeat' split
    all_goals first | rfl | (exfalso; omega) | (obtain rfl : x = b := (by omega); exact hz k)
set_option maxHeartbeats 2000000 in
set_option maxRecDepth 20000 in
/-- SledHouse$Tape.<init> -/
theorem n_tape {E : Ev} (GE : Glob E) (S : Nat → Option (Nat × Nat)) (I : Nat → Nat → Int32) (V : Nat → Nat → Option Nat) (J : Nat → Nat → Int64) (b : Nat) (hs : S b = some (6, 0)) (hz : ∀ k, I b k = 0) : Ct E yX7_init cX7_init 1 none (rmA 1 1 400) [.ref b] (S, I, V, J, b + 1) (fun v w' => v = none ∧ ∃ S' I' V' J', w' = (S', I', V', J', b + 2) ∧ Nw b S I V J S' I' V' J' ∧ TapeSh S' V' b ∧ ∀ x k, b ≤ x → x < b + 2 → I' x k = if x = b ∧ k = 8 then -1 else 0) := by
  refine Ct.start GE (by decide) rfl (Nat.le_of_ble_eq_true rfl) (fun M X => ?_)
  have X : Cx E M RX7 cX7_init 1 (rmA 1 1 400) none "<init>" := X
  refine r_loc (L' := [some (.ref b)]) rfl ?_
  refine r_aload_n X dX7_init_0 rfl rfl ?_
  refine r_objInit X dX7_init_1 mX7_3 (Nat.le_of_ble_eq_true rfl) (Nat.le_of_ble_eq_true rfl) ?_
  refine r_aload_n X dX7_init_4 rfl rfl ?_
  refine r_sipush (v := nI 400) X dX7_init_5 (by decide) ?_
  refine t_newB X dX7_init_8 rfl (by decide) (by first | omega | decide | (simp only [rmL, rmA]; omega)) (by first | omega | decide | (simp only [rmL, rmA]; omega)) ?_
  refine r_putR (o := some _) X dX7_init_10 fX7_9 wX7_9 (by (repeat (refine up1n (by omega) ?_)); assumption) rfl rfl ?_
  refine r_aload_n X dX7_init_13 rfl rfl ?_
  refine r_iconst (v := 0) X dX7_init_14 (by decide) ?_
  refine r_putI X dX7_init_15 fX7_15 wX7_15 (by (repeat (refine up1n (by omega) ?_)); assumption) rfl rfl ?_
  refine r_aload_n X dX7_init_18 rfl rfl ?_
  refine r_iconst (v := 0) X dX7_init_19 (by decide) ?_
  refine r_putI X dX7_init_20 fX7_19 wX7_19 (by (repeat (refine up1n (by omega) ?_)); assumption) rfl rfl ?_
  refine r_aload_n X dX7_init_23 rfl rfl ?_
  refine r_iconst (v := 0) X dX7_init_24 (by decide) ?_
  refine r_putI X dX7_init_25 fX7_22 wX7_22 (by (repeat (refine up1n (by omega) ?_)); assumption) rfl rfl ?_
  refine r_aload_n X dX7_init_28 rfl rfl ?_
  refine r_iconst (v := 0) X dX7_init_29 (by decide) ?_
  refine r_putI X dX7_init_30 fX7_25 wX7_25 (by (repeat (refine up1n (by omega) ?_)); assumption) rfl rfl ?_
  refine r_aload_n X dX7_init_33 rfl rfl ?_
  refine r_iconst (v := 0) X dX7_init_34 (by decide) ?_
  refine r_putI X dX7_init_35 fX7_28 wX7_28 (by (repeat (refine up1n (by omega) ?_)); assumption) rfl rfl ?_
  refine r_aload_n X dX7_init_38 rfl rfl ?_
  refine r_iconst (v := 0) X dX7_init_39 (by decide) ?_
  refine r_putI X dX7_init_40 fX7_31 wX7_31 (by (repeat (refine up1n (by omega) ?_)); assumption) rfl rfl ?_
  refine r_aload_n X dX7_init_43 rfl rfl ?_
  refine r_iconst (v := 0) X dX7_init_44 (by decide) ?_
  refine r_putI X dX7_init_45 fX7_34 wX7_34 (by (repeat (refine up1n (by omega) ?_)); assumption) rfl rfl ?_
  refine r_aload_n X dX7_init_48 rfl rfl ?_
  refine r_iconst (v := -1) X dX7_init_49 (by decide) ?_
  refine r_putI X dX7_init_50 fX7_37 wX7_37 (by (repeat (refine up1n (by omega) ?_)); assumption) rfl rfl ?_
  refine r_return X dX7_init_53 (by first | omega | decide | (simp only [rmL, rmA]; omega)) (by first | omega | decide | (simp only [rmL, rmA]; omega)) ?_
  refine ⟨rfl, _, _, _, _, rfl, ⟨fun x hx => ?_, fun x hx => ⟨?_, ?_, ?_⟩⟩, ?_, ?_⟩
  · simp only [up1]
    repeat (rw [if_neg (by omega)])
  · funext k
    simp only [up2, zr]
    repeat (rw [if_neg (by omega)])
  · funext k
    simp only [up2, zr]
    repeat (rw [if_neg (by omega)])
  · funext k
    simp only [zr]
    repeat (rw [if_neg (by omega)])
  · simp [TapeSh, up1, up2, zr, hs, Nat.add_assoc]
  · intro x k h1 h2
    simp only [up2, zr]
    repeat' split
    all_goals first | rfl | (exfalso; omega) | (obtain rfl : x = b := (by omega); exact hz k)
