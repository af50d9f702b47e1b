/-! ===== SledHouse: spot, signs, back; what a step keeps ===== -/
def hSigns (I : Mem) (c e u : Nat) (a n : Nat → Nat) (x : Int32) : Int32 := match ixI x c with
  | none => -1
  | some i => nI (rowCt I (a i) (rowPast (n i) e u))
set_option maxHeartbeats 2000000 in
set_option maxRecDepth 20000 in
/-- SledHouse.signs -/
theorem c_hSigns {E : Ev} (GE : Glob E) (S : Nat → Option (Nat × Nat)) (I : Nat → Nat → Int32) (V : Nat → Nat → Option Nat) (J : Nat → Nat → Int64) (N : Nat) (h c e u : Nat) (a n : Nat → Nat) (x : Int32) (hH : HouseSh S V h) (hc : I (h + 9) 2 = nI c) (hc6 : c ≤ 6) (hW : ∀ i, i < 6 → RowSh S V (h + 150 + 2 * i) (a i) (n i)) (hE : I (h + 9) 4 = nI e) (he : 0 < e) (he48 : e ≤ 48) (hU : I (h + 9) 3 = nI u) (hu : u ≤ 2000) : Ct E yX10_signs cX10_signs 2 (some .int) (rmL 3) [.ref h, .int x] (S, I, V, J, N) (fun v w' => v = some (.int (hSigns I c e u a n x)) ∧ w' = (S, I, V, J, N)) := by
  refine Ct.start GE (by decide) rfl (Nat.le_of_ble_eq_true rfl) (fun M X => ?_)
  have X : Cx E M RX10 cX10_signs 2 (rmL 3) (some .int) "signs" := X
  refine r_loc (L' := [some (.ref h), some (.int x)]) rfl ?_
  obtain ⟨hs0, hv0, hv1, hv2, hv3, hv4, hv5, hTp, hs3, hPl, hLw, hRc, hs76, hGh, hRow⟩ := id hH
  obtain ⟨rs0, rv0, rv1, rTr, rs6, rTe⟩ := id hRc
  have qs0 := rTr.1
  have ts0 := hTp.1
  have ls0 := hLw.1
  rcases hx : ixI x c with _ | i
  · skip
    refine r_aload_n X dX10_signs_0 rfl rfl ?_
    refine r_iload_n X dX10_signs_1 rfl rfl ?_
    refine q_callV X dX10_signs_2 mX10_153 cwX10_isTeam (c_hIsTeam GE S I V J N h c x hH hc) rfl (by assumption) rfl rfl rfl (Nat.le_of_ble_eq_true rfl) ⟨Nat.le_of_ble_eq_true rfl, Nat.le_of_ble_eq_true rfl⟩ ⟨(by first | omega | decide | (simp only [rmL, rmA]; omega)), (by first | omega | decide | (simp only [rmL, rmA]; omega))⟩ ?_
    rintro _ _ ⟨rfl, rfl⟩
    refine r_if_eq (tgt := 34) X dX10_signs_5 (by decide) (fun h5 => ?_) (fun h5 => ?_)
    · skip
      refine r_iconst (v := -1) X dX10_signs_34 (by decide) ?_
      refine r_ireturn X dX10_signs_35 rfl (by first | omega | decide | (simp only [rmL, rmA]; omega)) (by first | omega | decide | (simp only [rmL, rmA]; omega)) ?_
      exact ⟨by simp [hSigns, hx], rfl⟩
    · skip
      exact (ix_f hx h5).elim
  · skip
    obtain ⟨hi, rfl⟩ := ixI_some (by omega) hx
    have rw1 := (hRow i (by omega)).1
    have rw2 := (hRow i (by omega)).2
    refine r_aload_n X dX10_signs_0 rfl rfl ?_
    refine r_iload_n X dX10_signs_1 rfl rfl ?_
    refine q_callV X dX10_signs_2 mX10_153 cwX10_isTeam (c_hIsTeam GE S I V J N h c _ hH hc) rfl (by assumption) rfl rfl rfl (Nat.le_of_ble_eq_true rfl) ⟨Nat.le_of_ble_eq_true rfl, Nat.le_of_ble_eq_true rfl⟩ ⟨(by first | omega | decide | (simp only [rmL, rmA]; omega)), (by first | omega | decide | (simp only [rmL, rmA]; omega))⟩ ?_
    rintro _ _ ⟨rfl, rfl⟩
    refine r_if_eq (tgt := 34) X dX10_signs_5 (by decide) (fun h5 => ?_) (fun h5 => ?_)
    · skip
      exact (ix_t hx h5).elim
    · skip
      refine r_aload_n X dX10_signs_8 rfl rfl ?_
      refine r_getR X dX10_signs_9 fX10_38 (by assumption) (by assumption) ?_
      refine r_iload_n X dX10_signs_12 rfl rfl ?_
      refine r_aaldN X dX10_signs_13 (by assumption) (by decide) rfl (by omega) (by omega) rw1 ?_
      refine r_aload_n X dX10_signs_14 rfl rfl ?_
      refine r_getR X dX10_signs_15 fX10_32 (by assumption) (by assumption) ?_
      refine r_getI X dX10_signs_18 fX10_170 (by assumption) (by first | assumption | rfl) ?_
      refine r_aload_n X dX10_signs_21 rfl rfl ?_
      refine r_getR X dX10_signs_22 fX10_32 (by assumption) (by assumption) ?_
      refine r_getI X dX10_signs_25 fX10_70 (by assumption) (by first | assumption | rfl) ?_
      refine q_callV X dX10_signs_28 mX10_266 cwX6_howMany (c_rowMany GE S I V J N _ (a i) (n i) e u (hW i (by omega)) he he48 (by omega)) rfl (by assumption) rfl rfl rfl (Nat.le_of_ble_eq_true rfl) ⟨Nat.le_of_ble_eq_true rfl, Nat.le_of_ble_eq_true rfl⟩ ⟨(by first | omega | decide | (simp only [rmL, rmA]; omega)), (by first | omega | decide | (simp only [rmL, rmA]; omega))⟩ ?_
      rintro _ _ ⟨rfl, rfl⟩
      refine r_goto (tgt := 35) X dX10_signs_31 (by decide) ?_
      refine r_ireturn X dX10_signs_35 rfl (by first | omega | decide | (simp only [rmL, rmA]; omega)) (by first | omega | decide | (simp only [rmL, rmA]; omega)) ?_
      exact ⟨by simp [hSigns, hx], rfl⟩
def hSpot (I : Mem) (h c e u m : Nat) (a n : Nat → Nat) (x y : Int32) (z : Bool) : Int32 := match ixI x c, ixI y u with
  | some i, some s => if z = true then sMost I (a i) e s (tm h i) (I (h + 9 + 1 + 3) m) (rowLast I (a i) (rowPast (n i) e (s + 1))) (rowNext I (a i) (s / e + 1) (rowPast (n i) e u)) else sLeast I (a i) e s (rowLast I (a i) (rowPast (n i) e (s + 1))) (rowNext I (a i) (s / e + 1) (rowPast (n i) e u))
  | _, _ => -1
set_option maxHeartbeats 2000000 in
set_option maxRecDepth 20000 in
/-- SledHouse.spot -/
theorem c_hSpot {E : Ev} (GE : Glob E) (S : Nat → Option (Nat × Nat)) (I : Nat → Nat → Int32) (V : Nat → Nat → Option Nat) (J : Nat → Nat → Int64) (N : Nat) (h c e u m : Nat) (a n : Nat → Nat) (x y : Int32) (z : Bool) (hH : HouseSh S V h) (hc : I (h + 9) 2 = nI c) (hc6 : c ≤ 6) (hW : ∀ i, i < 6 → RowSh S V (h + 150 + 2 * i) (a i) (n i)) (hE : I (h + 9) 4 = nI e) (he : 0 < e) (he48 : e ≤ 48) (hU : I (h + 9) 3 = nI u) (hu : u ≤ 2000) (hm : I (h + 9 + 1) 4 = nI m) (hm12 : m ≤ 12) : Ct E yX10_spot cX10_spot 4 (some .int) (rmL 4) [.ref h, .int x, .int y, .int (bI z)] (S, I, V, J, N) (fun v w' => v = some (.int (hSpot I h c e u m a n x y z)) ∧ w' = (S, I, V, J, N)) := by
  refine Ct.start GE (by decide) rfl (Nat.le_of_ble_eq_true rfl) (fun M X => ?_)
  have X : Cx E M RX10 cX10_spot 4 (rmL 4) (some .int) "spot" := X
  refine r_loc (L' := [some (.ref h), some (.int x), some (.int y), some (.int (bI z))]) rfl ?_
  obtain ⟨hs0, hv0, hv1, hv2, hv3, hv4, hv5, hTp, hs3, hPl, hLw, hRc, hs76, hGh, hRow⟩ := id hH
  obtain ⟨rs0, rv0, rv1, rTr, rs6, rTe⟩ := id hRc
  have qs0 := rTr.1
  have ts0 := hTp.1
  have ls0 := hLw.1
  rcases hx : ixI x c with _ | i
  · skip
    refine r_aload_n X dX10_spot_0 rfl rfl ?_
    refine r_iload_n X dX10_spot_1 rfl rfl ?_
    refine q_callV X dX10_spot_2 mX10_153 cwX10_isTeam (c_hIsTeam GE S I V J N h c x hH hc) rfl (by assumption) rfl rfl rfl (Nat.le_of_ble_eq_true rfl) ⟨Nat.le_of_ble_eq_true rfl, Nat.le_of_ble_eq_true rfl⟩ ⟨(by first | omega | decide | (simp only [rmL, rmA]; omega)), (by first | omega | decide | (simp only [rmL, rmA]; omega))⟩ ?_
    rintro _ _ ⟨rfl, rfl⟩
    refine r_if_eq (tgt := 23) X dX10_spot_5 (by decide) (fun h5 => ?_) (fun h5 => ?_)
    · skip
      refine r_iconst (v := -1) X dX10_spot_23 (by decide) ?_
      refine r_ireturn X dX10_spot_24 rfl (by first | omega | decide | (simp only [rmL, rmA]; omega)) (by first | omega | decide | (simp only [rmL, rmA]; omega)) ?_
      exact ⟨by simp [hSpot, hx], rfl⟩
    · skip
      exact (ix_f hx h5).elim
  · skip
    obtain ⟨hi, rfl⟩ := ixI_some (by omega) hx
    rcases hy : ixI y u with _ | s
    · skip
      have hyy := ixI_none hy
      refine r_aload_n X dX10_spot_0 rfl rfl ?_
      refine r_iload_n X dX10_spot_1 rfl rfl ?_
      refine q_callV X dX10_spot_2 mX10_153 cwX10_isTeam (c_hIsTeam GE S I V J N h c _ hH hc) rfl (by assumption) rfl rfl rfl (Nat.le_of_ble_eq_true rfl) ⟨Nat.le_of_ble_eq_true rfl, Nat.le_of_ble_eq_true rfl⟩ ⟨(by first | omega | decide | (simp only [rmL, rmA]; omega)), (by first | omega | decide | (simp only [rmL, rmA]; omega))⟩ ?_
      rintro _ _ ⟨rfl, rfl⟩
      refine r_if_eq (tgt := 23) X dX10_spot_5 (by decide) (fun h5 => ?_) (fun h5 => ?_)
      · skip
        exact (ix_t hx h5).elim
      · skip
        refine r_iload_n X dX10_spot_8 rfl rfl ?_
        refine r_if_lt (tgt := 23) X dX10_spot_9 (by decide) (fun h9 => ?_) (fun h9 => ?_)
        · skip
          refine r_iconst (v := -1) X dX10_spot_23 (by decide) ?_
          refine r_ireturn X dX10_spot_24 rfl (by first | omega | decide | (simp only [rmL, rmA]; omega)) (by first | omega | decide | (simp only [rmL, rmA]; omega)) ?_
          exact ⟨by simp [hSpot, hx, hy], rfl⟩
        · skip
          refine r_iload_n X dX10_spot_12 rfl rfl ?_
          refine r_aload_n X dX10_spot_13 rfl rfl ?_
          refine r_getR X dX10_spot_14 fX10_32 (by assumption) (by assumption) ?_
          refine r_getI X dX10_spot_17 fX10_70 (by assumption) (by first | assumption | rfl) ?_
          refine r_icmp_lt (tgt := 25) X dX10_spot_20 (by decide) (fun h20 => ?_) (fun h20 => ?_)
          · skip
            exact hyy.elim (fun q => absurd q h9) (fun q => absurd h20 (Int32.not_lt.mpr q))
          · skip
            refine r_iconst (v := -1) X dX10_spot_23 (by decide) ?_
            refine r_ireturn X dX10_spot_24 rfl (by first | omega | decide | (simp only [rmL, rmA]; omega)) (by first | omega | decide | (simp only [rmL, rmA]; omega)) ?_
            exact ⟨by simp [hSpot, hx, hy], rfl⟩
    · skip
      obtain ⟨hs, rfl⟩ := ixI_some (by omega) hy
      refine r_aload_n X dX10_spot_0 rfl rfl ?_
      refine r_iload_n X dX10_spot_1 rfl rfl ?_
      refine q_callV X dX10_spot_2 mX10_153 cwX10_isTeam (c_hIsTeam GE S I V J N h c _ hH hc) rfl (by assumption) rfl rfl rfl (Nat.le_of_ble_eq_true rfl) ⟨Nat.le_of_ble_eq_true rfl, Nat.le_of_ble_eq_true rfl⟩ ⟨(by first | omega | decide | (simp only [rmL, rmA]; omega)), (by first | omega | decide | (simp only [rmL, rmA]; omega))⟩ ?_
      rintro _ _ ⟨rfl, rfl⟩
      refine r_if_eq (tgt := 23) X dX10_spot_5 (by decide) (fun h5 => ?_) (fun h5 => ?_)
      · skip
        exact (ix_t hx h5).elim
      · skip
        refine r_iload_n X dX10_spot_8 rfl rfl ?_
        refine r_if_lt (tgt := 23) X dX10_spot_9 (by decide) (fun h9 => ?_) (fun h9 => ?_)
        · skip
          exact absurd h9 (nI_pos (by omega))
        · skip
          refine r_iload_n X dX10_spot_12 rfl rfl ?_
          refine r_aload_n X dX10_spot_13 rfl rfl ?_
          refine r_getR X dX10_spot_14 fX10_32 (by assumption) (by assumption) ?_
          refine r_getI X dX10_spot_17 fX10_70 (by assumption) (by first | assumption | rfl) ?_
          refine r_icmp_lt (tgt := 25) X dX10_spot_20 (by decide) (fun h20 => ?_) (fun h20 => ?_)
          · skip
            refine r_iload_n X dX10_spot_25 rfl rfl ?_
            refine r_if_eq (tgt := 38) X dX10_spot_26 (by decide) (fun h26 => ?_) (fun h26 => ?_)
            · skip
              refine r_aload_n X dX10_spot_38 rfl rfl ?_
              refine r_iload_n X dX10_spot_39 rfl rfl ?_
              refine r_iload_n X dX10_spot_40 rfl rfl ?_
              refine q_callV X dX10_spot_41 mX10_263 cwX10_leastWay (c_hLeast GE S I V J N h i (a i) (n i) e s u hH (by omega) (hW i (by omega)) hE he he48 (by omega) hU hu) rfl (by assumption) rfl rfl rfl (Nat.le_of_ble_eq_true rfl) ⟨Nat.le_of_ble_eq_true rfl, Nat.le_of_ble_eq_true rfl⟩ ⟨(by first | omega | decide | (simp only [rmL, rmA]; omega)), (by first | omega | decide | (simp only [rmL, rmA]; omega))⟩ ?_
              rintro _ _ ⟨rfl, rfl⟩
              refine r_ireturn X dX10_spot_44 rfl (by first | omega | decide | (simp only [rmL, rmA]; omega)) (by first | omega | decide | (simp only [rmL, rmA]; omega)) ?_
              first
                | (have hz := bI_0 h26
                   exact ⟨by simp [hSpot, hx, hy, hz], rfl⟩)
                | (have hz := bI_1 h26
                   exact ⟨by simp [hSpot, hx, hy, hz], rfl⟩)
            · skip
              refine r_aload_n X dX10_spot_29 rfl rfl ?_
              refine r_iload_n X dX10_spot_30 rfl rfl ?_
              refine r_iload_n X dX10_spot_31 rfl rfl ?_
              refine q_callV X dX10_spot_32 mX10_260 cwX10_greatestWay (c_hMost GE S I V J N h i (a i) (n i) e s u m hH (by omega) (hW i (by omega)) hE he he48 (by omega) hU hu hm hm12) rfl (by assumption) rfl rfl rfl (Nat.le_of_ble_eq_true rfl) ⟨Nat.le_of_ble_eq_true rfl, Nat.le_of_ble_eq_true rfl⟩ ⟨(by first | omega | decide | (simp only [rmL, rmA]; omega)), (by first | omega | decide | (simp only [rmL, rmA]; omega))⟩ ?_
              rintro _ _ ⟨rfl, rfl⟩
              refine r_goto (tgt := 44) X dX10_spot_35 (by decide) ?_
              refine r_ireturn X dX10_spot_44 rfl (by first | omega | decide | (simp only [rmL, rmA]; omega)) (by first | omega | decide | (simp only [rmL, rmA]; omega)) ?_
              first
                | (have hz := bI_0 h26
                   exact ⟨by simp [hSpot, hx, hy, hz], rfl⟩)
                | (have hz := bI_1 h26
                   exact ⟨by simp [hSpot, hx, hy, hz], rfl⟩)
          · skip
            exact absurd ((nI_ltI (by omega) (by omega)).mpr hs) h20
