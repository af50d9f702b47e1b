/-! ===== Math and arraycopy: rows of their own ===== -/
theorem mmX10_101 : Cond.methodLink RX10 101 Lib.Math.max.name ∈ lw_tbl := (List.mem_append_right _ (List.mem_of_getElem? (i := 401) (by decide +kernel)))
theorem mmX10_317 : Cond.methodLink RX10 317 Lib.Math.min.name ∈ lw_tbl := (List.mem_append_right _ (List.mem_of_getElem? (i := 857) (by decide +kernel)))
theorem mmX0_31 : Cond.methodLink RX0 31 Lib.Math.min.name ∈ lw_tbl := (List.mem_append_right _ (List.mem_of_getElem? (i := 598) (by decide +kernel)))
theorem mmX0_37 : Cond.methodLink RX0 37 arraycopyName ∈ lw_tbl := (List.mem_append_right _ (List.mem_of_getElem? (i := 904) (by decide +kernel)))
theorem mmX0_43 : Cond.methodLink RX0 43 Lib.Math.max.name ∈ lw_tbl := (List.mem_append_right _ (List.mem_of_getElem? (i := 656) (by decide +kernel)))
theorem mmX1_22 : Cond.methodLink RX1 22 arraycopyName ∈ lw_tbl := (List.mem_append_right _ (List.mem_of_getElem? (i := 909) (by decide +kernel)))
theorem mmX2_96 : Cond.methodLink RX2 96 Lib.Math.max.name ∈ lw_tbl := (List.mem_append_right _ (List.mem_of_getElem? (i := 798) (by decide +kernel)))
theorem mmX2_106 : Cond.methodLink RX2 106 Lib.Math.min.name ∈ lw_tbl := (List.mem_append_right _ (List.mem_of_getElem? (i := 797) (by decide +kernel)))
theorem mmX6_45 : Cond.methodLink RX6 45 Lib.Math.min.name ∈ lw_tbl := (List.mem_append_right _ (List.mem_of_getElem? (i := 848) (by decide +kernel)))
theorem mmX7_40 : Cond.methodLink RX7 40 Lib.Math.min.name ∈ lw_tbl := (List.mem_append_right _ (List.mem_of_getElem? (i := 424) (by decide +kernel)))
theorem mmX8_90 : Cond.methodLink RX8 90 arraycopyName ∈ lw_tbl := (List.mem_append_right _ (List.mem_of_getElem? (i := 910) (by decide +kernel)))
theorem mmX9_34 : Cond.methodLink RX9 34 arraycopyName ∈ lw_tbl := (List.mem_append_right _ (List.mem_of_getElem? (i := 895) (by decide +kernel)))
theorem mmX13_363 : Cond.methodLink RX13 363 Lib.Math.max.name ∈ lw_tbl := (List.mem_append_right _ (List.mem_of_getElem? (i := 1459) (by decide +kernel)))
theorem mmX13_398 : Cond.methodLink RX13 398 Lib.Math.min.name ∈ lw_tbl := (List.mem_append_right _ (List.mem_of_getElem? (i := 1505) (by decide +kernel)))
theorem mmX12_93 : Cond.methodLink RX12 93 Lib.Math.min.name ∈ lw_tbl := (List.mem_append_right _ (List.mem_of_getElem? (i := 1464) (by decide +kernel)))
theorem mmJ7_150 : Cond.methodLink RJ7 150 arraycopyName ∈ lw_tbl := (List.mem_append_right _ (List.mem_of_getElem? (i := 741) (by decide +kernel)))
theorem mmJ7_304 : Cond.methodLink RJ7 304 Lib.Math.min.name ∈ lw_tbl := (List.mem_append_right _ (List.mem_of_getElem? (i := 740) (by decide +kernel)))
section MM
variable {E : Ev} {M : Mc} {own : String} {cc : ByteArray} {nL : Nat} {rm : Room} {ret : Option FieldType} {nm : String} {cells slots : Nat} {Q : State → Prop} {pc : Nat} {L : List (Option Value)} {st : List Value} {w : Wd} {idx : Nat}
theorem r_mmax {x y : Int32} (X : Cx E M own cc nL rm ret nm) (hd : decode cc pc = .ok (.invokestatic idx, 3)) (hlk : Cond.methodLink own idx Lib.Math.max.name ∈ lw_tbl) (hfr : 1 ≤ rm.frames) (hlo : (st.map fun v => v.category).sum + 13 ≤ rm.locals) (hc : cells ≤ rm.cells) (hs : slots ≤ rm.slots) (kk : G E M cells slots Q (pc + 3) L (.int (iMax x y) :: st) w) : G E M cells slots Q pc L (.int y :: .int x :: st) w :=
  fun H locs ls hR hl hls => va_mmax X.hx X.hb hls.1.symm X.hown (X.word hlk (Or.inl rfl)) (X.word (w := .static Lib.Math.max.name) (List.mem_append_right _ (List.mem_of_getElem? (i := 402) (by decide +kernel))) (Or.inl rfl)) (X.word (w := .initialized "java/lang/Math") (List.mem_append_right _ (List.mem_of_getElem? (i := 18) (by decide +kernel))) (Or.inl rfl)) (X.word (w := .code Lib.Math.max.name Lib.Math.max.code 2 (some .int)) (List.mem_append_right _ (List.mem_of_getElem? (i := 403) (by decide +kernel))) (Or.inl rfl)) (by rw [X.room]; exact hfr) (by rw [X.room]; exact hlo) (by rw [X.room]; exact hc) (by rw [X.room]; exact hs) hd (kk H locs ls hR hl hls)
theorem r_mmin {x y : Int32} (X : Cx E M own cc nL rm ret nm) (hd : decode cc pc = .ok (.invokestatic idx, 3)) (hlk : Cond.methodLink own idx Lib.Math.min.name ∈ lw_tbl) (hfr : 1 ≤ rm.frames) (hlo : (st.map fun v => v.category).sum + 13 ≤ rm.locals) (hc : cells ≤ rm.cells) (hs : slots ≤ rm.slots) (kk : G E M cells slots Q (pc + 3) L (.int (iMin x y) :: st) w) : G E M cells slots Q pc L (.int y :: .int x :: st) w :=
  fun H locs ls hR hl hls => va_mmin X.hx X.hb hls.1.symm X.hown (X.word hlk (Or.inl rfl)) (X.word (w := .static Lib.Math.min.name) (List.mem_append_right _ (List.mem_of_getElem? (i := 425) (by decide +kernel))) (Or.inl rfl)) (X.word (w := .initialized "java/lang/Math") (List.mem_append_right _ (List.mem_of_getElem? (i := 18) (by decide +kernel))) (Or.inl rfl)) (X.word (w := .code Lib.Math.min.name Lib.Math.min.code 2 (some .int)) (List.mem_append_right _ (List.mem_of_getElem? (i := 426) (by decide +kernel))) (Or.inl rfl)) (by rw [X.room]; exact hfr) (by rw [X.room]; exact hlo) (by rw [X.room]; exact hc) (by rw [X.room]; exact hs) hd (kk H locs ls hR hl hls)
def cpyI (I : Nat → Nat → Int32) (a0 a1 sp dp n : Nat) : Nat → Nat → Int32 := fun b j => if b = a1 ∧ dp ≤ j ∧ j < dp + n then I a0 (sp + (j - dp)) else I b j
theorem clamp_toInt {z : Int32} (hz : ¬ z < 0) : z.toInt = (z.toNatClampNeg : Int) := by
  have h0 : (0 : Int) ≤ z.toInt := by
    have := Int32.not_lt.mp hz
    simpa using Int32.le_iff_toInt_le.mp this
  show z.toInt = ((z.toInt.toNat : Nat) : Int)
  omega
variable {S : Nat → Option (Nat × Nat)} {I : Nat → Nat → Int32} {V : Nat → Nat → Option Nat} {J : Nat → Nat → Int64} {N : Nat}
theorem r_copyI {a0 a1 n0 n1 sp dp n : Nat} (X : Cx E M own cc nL rm ret nm) (hd : decode cc pc = .ok (.invokestatic idx, 3)) (hlk : Cond.methodLink own idx arraycopyName ∈ lw_tbl) (hs0 : S a0 = some (100, n0)) (hs1 : S a1 = some (100, n1)) (h4 : sp + n ≤ n0) (h5 : dp + n ≤ n1) (b0 : n0 < 2 ^ 31) (b1 : n1 < 2 ^ 31) (hfr : 1 ≤ rm.frames) (hlo : (st.map fun v => v.category).sum + (nativeFrameWords "java/lang/System" "arraycopy" 5 + 11) ≤ rm.locals) (kk : G E M cells slots Q (pc + 3) L st (S, cpyI I a0 a1 sp dp n, V, J, N)) : G E M cells slots Q pc L (.int (nI n) :: .int (nI dp) :: .ref a1 :: .int (nI sp) :: .ref a0 :: st) (S, I, V, J, N) := by
  intro H locs ls hR hl hls
  have csp := nI_clamp (n := sp) (by omega)
  have cdp := nI_clamp (n := dp) (by omega)
  have cn := nI_clamp (n := n) (by omega)
  have psp := nI_pos (n := sp) (by omega)
  have pdp := nI_pos (n := dp) (by omega)
  have pn := nI_pos (n := n) (by omega)
  obtain ⟨hb0, hc0⟩ := hR.arrI hs0 (by decide) (by decide)
  obtain ⟨hb1, hc1⟩ := hR.arrI hs1 (by decide) (by decide)
  dsimp only at hc0 hc1
  intro T hT Z
  have hA := X.arr (k := 100) rfl
  obtain ⟨-, k0, hk0, cm0, hkk0⟩ := hA n0 (fun j => .int (I a0 j))
  obtain ⟨vm', Z', step⟩ := Z.arraycopy X.hx X.hown (X.word hlk (Or.inl rfl)) (X.word (w := .native arraycopyName) (List.mem_append_right _ (List.mem_of_getElem? (i := 743) (by decide +kernel))) (Or.inl rfl)) (X.word (w := .static arraycopyName) (List.mem_append_right _ (List.mem_of_getElem? (i := 742) (by decide +kernel))) (Or.inl rfl)) (X.word (w := .initialized "java/lang/System") (List.mem_append_right _ (List.mem_of_getElem? (i := 24) (by decide +kernel))) (Or.inl rfl)) (src := a0) (dst := a1) (cs := arrV (E.2.2.2 100) n0 (fun j => .int (I a0 j))) (cd := arrV (E.2.2.2 100) n1 (fun j => .int (I a1 j))) (srcPos := nI sp) (destPos := nI dp) (n := nI n) (by rw [hT]; exact hc0) (by rw [hT]; exact hc1)
    (fun _ h => by cases h) (fun _ h => by cases h) (fun h => by cases h) (fun h => by cases h) hk0 hk0 hkk0 hkk0 (by first | rfl | simp | decide) psp pdp pn
    (by rw [clamp_toInt psp, clamp_toInt pn, arrV_size, csp, cn]; omega)
    (by rw [clamp_toInt pdp, clamp_toInt pn, arrV_size, cdp, cn]; omega)
    (fun vm₁ _ i hi => by
      rw [cn] at hi
      rw [csp]
      have e : (arrV (E.2.2.2 100) n0 (fun j => .int (I a0 j))).slots.getD (sp + i) .null = .int (I a0 (sp + i)) := by
        rw [Array.getD_eq_getD_getElem?, arrV_read _ _ (by omega)]
        rfl
      rw [e]
      exact ⟨rfl, trivial⟩)
    (g := F0 (mM M) pc ls (.int (nI n) :: .int (nI dp) :: .ref a1 :: .int (nI sp) :: .ref a0 :: st)) rfl hls.1 (rest := st) rfl (by rw [X.hb]; exact hd) (by rw [X.room]; exact hfr) (by rw [X.room]; show 2 * 0 + _ + _ ≤ _; omega)
  have e1 : copied (arrV (E.2.2.2 100) n0 (fun j => .int (I a0 j))) (arrV (E.2.2.2 100) n1 (fun j => .int (I a1 j))) (nI sp) (nI dp) (nI n) = arrV (E.2.2.2 100) n1 (fun j => .int (va_cpy (I a0) (I a1) sp dp n j)) := by
    have := va_copied (sp := sp) (dp := dp) (n := n) (n0 := n0) (n1 := n1) (fun z => Value.int z) (E.2.2.2 100) (E.2.2.2 100) (I a0) (I a1) h4
    unfold copied
    rw [csp, cdp, cn]
    exact this
  rw [e1] at Z' step
  have hlt : a1 < H.size := (Array.getElem?_eq_some_iff.mp hc1).1
  have hheap : ((T.setVm vm').setCell a1 (arrV (E.2.2.2 100) n1 (fun j => .int (va_cpy (I a0) (I a1) sp dp n j)))).heap = H.setIfInBounds a1 (arrV (E.2.2.2 100) n1 (fun j => .int (va_cpy (I a0) (I a1) sp dp n j))) := by rw [← hT]; rfl
  obtain ⟨t, s1, s2⟩ := kk _ _ ls (hR.moved (H' := H.setIfInBounds a1 (arrV (E.2.2.2 100) n1 (fun j => .int (va_cpy (I a0) (I a1) sp dp n j)))) hb1 (by simp) (fun q hq => by simp [Array.getElem?_setIfInBounds, Ne.symm hq]) rfl (fun b hb => ⟨rfl, by funext j; simp [cpyI, hb], rfl, rfl⟩) (by
      intro k' n' hk'
      cases hs1.symm.trans hk'
      refine ⟨hb1, Or.inr (Or.inl ⟨by decide, by decide, ?_⟩)⟩
      rw [Array.getElem?_setIfInBounds]
      simp only [hlt, if_true]
      congr 2
      funext j
      simp only [va_cpy, cpyI, true_and])) (fun q hq => by
      rcases List.mem_append.mp hq with h | h
      · exact hl q h
      · obtain ⟨z, -, hz⟩ := List.mem_map.mp h
        rw [← hz]
        exact hb1) hls _ hheap Z'
  exact ⟨t, step t s1, s2⟩
end MM
