/-! ===== the law's walk: rows over the script, what a case is ===== -/
/-- the script: Ln ints in the heap that was there before -/
def Scr (E : Ev) (M : Mc) (b Ln : Nat) (xs : Nat → Int32) : Prop := va_X b Ln xs (mS M) E.1.heap ∧ b < eB E ∧ Ln ≤ 3072
abbrev LX (E : Ev) (M : Mc) (nm : String) : Prop := Cx E M RL cL_law 4 room_1 ret nm
abbrev Lc (b h g i : Nat) : List (Option Value) := [some (.ref b), some (.ref h), some (.ref g), some (.int (nI i))]
/-- class and reference agree in the world w -/
def RelE (h g : Nat) (w : Wd) : Prop := ∃ n c s e np k z, RelV w w.2.1 h g n c s e np k z
theorem rm_1 {a x R m : Nat} (h : a + m ≤ R) (hx : x ≤ m) : a + x ≤ R := by omega
theorem rm_2 {a x y R m : Nat} (h : a + m ≤ R) (hx : x + y ≤ m) : a + x + y ≤ R := by omega
theorem rm_3 {a x y m : Nat} (hx : x + y ≤ m) : a + x + y ≤ a + m := by omega
section LWB
variable {E : Ev} {M : Mc} {nm : String} {cells slots : Nat} {Q : State → Prop} {pc : Nat} {st : List Value} {w : Wd} {b h g i Ln : Nat} {xs : Nat → Int32} {L : List (Option Value)}
theorem r_scr {j : Int32} (X : LX E M nm) (hs : Scr E M b Ln xs) (hd : decode cL_law pc = .ok (.iaload, 1)) (hin : vp_in j Ln) (kk : G E M cells slots Q (pc + 1) L (.int (xs j.toNatClampNeg) :: st) w) : G E M cells slots Q pc L (.int j :: .ref b :: st) w := by
  intro H locs ls hR hl hls
  exact va_sld (A := fun q => eB E ≤ q) X.hx X.hb hs.1 hs.2.1 (Nat.not_le.mpr hs.2.1) ⟨hR.2.1, fun q h _ => hR.2.2.1 q h, hl⟩ hin hd (kk H locs ls hR hl hls)
theorem r_scrlen (X : LX E M nm) (hs : Scr E M b Ln xs) (hd : decode cL_law pc = .ok (.arraylength, 1)) (kk : G E M cells slots Q (pc + 1) L (.int (nI Ln) :: st) w) : G E M cells slots Q pc L (.ref b :: st) w := by
  intro H locs ls hR hl hls
  exact va_slen (A := fun q => eB E ≤ q) X.hx X.hb hs.1 hs.2.1 (Nat.not_le.mpr hs.2.1) ⟨hR.2.1, fun q h _ => hR.2.2.1 q h, hl⟩ hd (kk H locs ls hR hl hls)
theorem r_arg {kc : Int} {k : Nat} (X : LX E M nm) (hs : Scr E M b Ln xs) (d0 : decode cL_law pc = .ok (.aload_n 0, 1)) (d1 : decode cL_law (pc + 1) = .ok (.iload_n 3, 1)) (d2 : decode cL_law (pc + 2) = .ok (.iconst kc, 1)) (d3 : decode cL_law (pc + 3) = .ok (.iadd, 1)) (d4 : decode cL_law (pc + 4) = .ok (.iaload, 1)) (hkc : Int32.ofInt kc = nI k) (hk : k ≤ 5) (hi : i + 6 ≤ Ln) (kk : G E M cells slots Q (pc + 5) (Lc b h g i) (.int (xs (i + k)) :: st) w) : G E M cells slots Q pc (Lc b h g i) st w := by
  refine r_aload_n (i := 0) X d0 rfl rfl ?_
  refine r_iload_n (i := 3) X d1 rfl rfl ?_
  refine r_iconst X d2 hkc ?_
  refine r_iadd X d3 ?_
  have hL := hs.2.2
  rw [show nI i + nI k = nI (i + k) from nI_add i k]
  refine r_scr X hs d4 (vp_in_nI (by omega) (by omega)) ?_
  rw [nI_clamp (by omega)]
  exact kk
theorem r_bool {x : Int32} (X : LX E M nm) (d0 : decode cL_law pc = .ok (.ifCond .eq 7, 3)) (d1 : decode cL_law (pc + 3) = .ok (.iconst 1, 1)) (d2 : decode cL_law (pc + 4) = .ok (.goto 4, 3)) (d3 : decode cL_law (pc + 7) = .ok (.iconst 0, 1)) (kk : G E M cells slots Q (pc + 8) L (.int (bI (!decide (x = 0))) :: st) w) : G E M cells slots Q pc L (.int x :: st) w := by
  refine r_if_eq (tgt := pc + 7) X d0 (by omega) (fun h => ?_) (fun h => ?_)
  · refine r_iconst (v := 0) X d3 rfl ?_
    rw [show bI (!decide (x = 0)) = 0 by simp [h, bI]] at kk
    exact kk
  · refine r_iconst (v := 1) X d1 rfl ?_
    refine r_goto (tgt := pc + 8) X d2 (by omega) ?_
    rw [show bI (!decide (x = 0)) = 1 by simp [h, bI]] at kk
    exact kk
/-- the case that begins at pc: both are asked, both answer alike -/
def Cs (E : Ev) (M : Mc) (nm : String) (b h g i Ln : Nat) (xs : Nat → Int32) (pc : Nat) : Prop :=
  LX E M nm → Scr E M b Ln xs → Strs E → i + 6 ≤ Ln → ∀ (cells slots : Nat) (Q : State → Prop) (w : Wd), RelE h g w → cells + 67 ≤ room_1.cells ∧ slots + 12000 ≤ room_1.slots →
  (∀ cells' slots' w', cells' ≤ cells + 67 → slots' ≤ slots + 12000 → RelE h g w' → G E M cells' slots' Q 1083 (Lc b h g i) [] w') → G E M cells slots Q pc (Lc b h g i) [] w
end LWB
theorem ra_k0 {S : Nat → Option (Nat × Nat)} {V : Nat → Nat → Option Nat} {N : Nat} {I I' : Mem} {h g n c s e np k z : Nat} (H : RelA S V N I I' h g n c s e np k z) (hV : V h 6 = none) : I' g 12 = -1 := by
  rcases H.2.2.2.2.2.2.2.2.1 with ⟨-, x⟩ | ⟨K', n', c', s', e', ⟨⟨x1, -⟩, -⟩⟩
  · exact x
  · rw [hV] at x1; cases x1
