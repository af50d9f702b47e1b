/-! ===== the reference's Team: its constructor ===== -/
set_option maxHeartbeats 2000000 in
set_option maxRecDepth 20000 in
/-- SledHouseModel$Team.<init> -/
theorem n_mteam {E : Ev} (GE : Glob E) (S : Nat → Option (Nat × Nat)) (I : Nat → Nat → Int32) (V : Nat → Nat → Option Nat) (J : Nat → Nat → Int64) (b : Nat) (hs : S b = some (11, 0)) (hz : ∀ k, I b k = 0) : Ct E yX12_init cX12_init 1 none (rmA 1 9 4082) [.ref b] (S, I, V, J, b + 1) (fun v w' => v = none ∧ ∃ S' I' V' J', w' = (S', I', V', J', b + 10) ∧ Nw b S I V J S' I' V' J' ∧ MtSh S' V' b ∧ ∀ x k, b ≤ x → x < b + 10 → I' x k = 0) := by
  refine Ct.start GE (by decide) rfl (Nat.le_of_ble_eq_true rfl) (fun M X => ?_)
  have X : Cx E M RX12 cX12_init 1 (rmA 1 9 4082) none "<init>" := X
  refine r_loc (L' := [some (.ref b)]) rfl ?_
  refine r_aload_n X dX12_init_0 rfl rfl ?_
  refine r_objInit X dX12_init_1 mX12_3 (Nat.le_of_ble_eq_true rfl) (Nat.le_of_ble_eq_true rfl) ?_
  refine r_aload_n X dX12_init_4 rfl rfl ?_
  refine r_bipush (v := nI 16) X dX12_init_5 (by decide) ?_
  refine t_newI X dX12_init_7 rfl (by decide) (by first | omega | decide | (simp only [rmL, rmA]; omega)) (by first | omega | decide | (simp only [rmL, rmA]; omega)) ?_
  refine r_putR (o := some _) X dX12_init_9 fX12_9 wX12_9 (by (repeat (refine up1n (by omega) ?_)); assumption) rfl rfl ?_
  refine r_aload_n X dX12_init_12 rfl rfl ?_
  refine r_bipush (v := nI 16) X dX12_init_13 (by decide) ?_
  refine t_newI X dX12_init_15 rfl (by decide) (by first | omega | decide | (simp only [rmL, rmA]; omega)) (by first | omega | decide | (simp only [rmL, rmA]; omega)) ?_
  refine r_putR (o := some _) X dX12_init_17 fX12_15 wX12_15 (by (repeat (refine up1n (by omega) ?_)); assumption) rfl rfl ?_
  refine r_aload_n X dX12_init_20 rfl rfl ?_
  refine r_bipush (v := nI 16) X dX12_init_21 (by decide) ?_
  refine t_newI X dX12_init_23 rfl (by decide) (by first | omega | decide | (simp only [rmL, rmA]; omega)) (by first | omega | decide | (simp only [rmL, rmA]; omega)) ?_
  refine r_putR (o := some _) X dX12_init_25 fX12_18 wX12_18 (by (repeat (refine up1n (by omega) ?_)); assumption) rfl rfl ?_
  refine r_aload_n X dX12_init_28 rfl rfl ?_
  refine r_bipush (v := nI 13) X dX12_init_29 (by decide) ?_
  refine t_newI X dX12_init_31 rfl (by decide) (by first | omega | decide | (simp only [rmL, rmA]; omega)) (by first | omega | decide | (simp only [rmL, rmA]; omega)) ?_
  refine r_putR (o := some _) X dX12_init_33 fX12_21 wX12_21 (by (repeat (refine up1n (by omega) ?_)); assumption) rfl rfl ?_
  refine r_aload_n X dX12_init_36 rfl rfl ?_
  refine r_bipush (v := nI 13) X dX12_init_37 (by decide) ?_
  refine t_newI X dX12_init_39 rfl (by decide) (by first | omega | decide | (simp only [rmL, rmA]; omega)) (by first | omega | decide | (simp only [rmL, rmA]; omega)) ?_
  refine r_putR (o := some _) X dX12_init_41 fX12_24 wX12_24 (by (repeat (refine up1n (by omega) ?_)); assumption) rfl rfl ?_
  refine r_aload_n X dX12_init_44 rfl rfl ?_
  refine r_sipush (v := nI 2000) X dX12_init_45 (by decide) ?_
  refine t_newI X dX12_init_48 rfl (by decide) (by first | omega | decide | (simp only [rmL, rmA]; omega)) (by first | omega | decide | (simp only [rmL, rmA]; omega)) ?_
  refine r_putR (o := some _) X dX12_init_50 fX12_27 wX12_27 (by (repeat (refine up1n (by omega) ?_)); assumption) rfl rfl ?_
  refine r_aload_n X dX12_init_53 rfl rfl ?_
  refine r_sipush (v := nI 2000) X dX12_init_54 (by decide) ?_
  refine t_newI X dX12_init_57 rfl (by decide) (by first | omega | decide | (simp only [rmL, rmA]; omega)) (by first | omega | decide | (simp only [rmL, rmA]; omega)) ?_
  refine r_putR (o := some _) X dX12_init_59 fX12_30 wX12_30 (by (repeat (refine up1n (by omega) ?_)); assumption) rfl rfl ?_
  refine r_aload_n X dX12_init_62 rfl rfl ?_
  refine r_iconst (v := nI 4) X dX12_init_63 (by decide) ?_
  refine t_newI X dX12_init_64 rfl (by decide) (by first | omega | decide | (simp only [rmL, rmA]; omega)) (by first | omega | decide | (simp only [rmL, rmA]; omega)) ?_
  refine r_putR (o := some _) X dX12_init_66 fX12_33 wX12_33 (by (repeat (refine up1n (by omega) ?_)); assumption) rfl rfl ?_
  refine r_aload_n X dX12_init_69 rfl rfl ?_
  refine r_iconst (v := nI 4) X dX12_init_70 (by decide) ?_
  refine t_newI X dX12_init_71 rfl (by decide) (by first | omega | decide | (simp only [rmL, rmA]; omega)) (by first | omega | decide | (simp only [rmL, rmA]; omega)) ?_
  refine r_putR (o := some _) X dX12_init_73 fX12_36 wX12_36 (by (repeat (refine up1n (by omega) ?_)); assumption) rfl rfl ?_
  refine r_return X dX12_init_76 (by first | omega | decide | (simp only [rmL, rmA]; omega)) (by first | omega | decide | (simp only [rmL, rmA]; omega)) ?_
  refine ⟨rfl, _, _, _, _, rfl, ⟨fun x hx => ?_, fun x hx => ⟨?_, ?_, ?_⟩⟩, ?_, ?_⟩
  · simp only [up1]
    repeat (rw [if_neg (by omega)])
  · funext k
    simp only [zr]
    repeat (rw [if_neg (by omega)])
  · funext k
    simp only [up2, zr]
    repeat (rw [if_neg (by omega)])
  · funext k
    simp only [zr]
    repeat (rw [if_neg (by omega)])
  · simp [MtSh, up1, up2, zr, hs, Nat.add_assoc]
  · intro x k h1 h2
    by_cases hxb : x = b
    · subst hxb
      simp only [zr]
      repeat (rw [if_neg (by omega)])
      exact hz k
    · simp only [zr]
      repeat' split
      all_goals first | rfl | (exfalso; omega)
