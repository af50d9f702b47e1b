/-! ===== SledHouse$Tape: bytes and tokens ===== -/
def TapeSh (S : Nat → Option (Nat × Nat)) (V : Nat → Nat → Option Nat) (a : Nat) : Prop := S a = some (6, 0) ∧ V a 0 = some (a + 1) ∧ S (a + 1) = some (101, 400)
theorem up2_id (I : Mem) {a k : Nat} {x : Int32} (h : I a k = x) : up2 I a k x = I := by
  funext b j
  unfold up2
  split
  · next q => rw [q.1, q.2, h]
  · rfl
theorem up2_uu (I : Mem) (a k : Nat) (x y : Int32) : up2 (up2 I a k x) a k y = up2 I a k y := by
  funext b j
  unfold up2
  split <;> rfl
def tPut1 (I : Mem) (a z : Nat) (x sh : Int32) : Mem := up2 (up2 I (a + 1) z (x >>> (sh &&& 31)).toInt8.toInt32) a 1 (nI (z + 1))
def tPut (I : Mem) (a z : Nat) (x : Int32) : Mem := tPut1 (tPut1 (tPut1 (tPut1 I a z x 24) a (z + 1) x 16) a (z + 2) x 8) a (z + 3) x 0
theorem tPut1_1 (I : Mem) (a z : Nat) (x sh : Int32) : tPut1 I a z x sh a 1 = nI (z + 1) := up2_same _ _ _ _
set_option maxHeartbeats 2000000 in
set_option maxRecDepth 20000 in
/-- SledHouse$Tape.put -/
theorem c_tPut {E : Ev} (GE : Glob E) (S : Nat → Option (Nat × Nat)) (I : Nat → Nat → Int32) (V : Nat → Nat → Option Nat) (J : Nat → Nat → Int64) (N : Nat) (a z : Nat) (x : Int32) (hT : TapeSh S V a) (hz : I a 1 = nI z) (hz4 : z + 4 ≤ 400) : Ct E yX7_put cX7_put 3 none (rmL 0) [.ref a, .int x] (S, I, V, J, N) (fun v w' => v = none ∧ w' = (S, tPut I a z x, V, J, N)) := by
  refine Ct.start GE (by decide) rfl (Nat.le_of_ble_eq_true rfl) (fun M X => ?_)
  have X : Cx E M RX7 cX7_put 3 (rmL 0) none "put" := X
  refine r_loc (L' := [some (.ref a), some (.int x), none]) rfl ?_
  obtain ⟨hs0, hv0, hs1⟩ := hT
  have H : ∀ (I1 : Mem) (y : Nat) (sh : Int32) (Q : State → Prop), I1 a 1 = nI y → y < 400 → (∀ L3, L3 = sh → G E M 0 0 Q 40 [some (.ref a), some (.int x), some (.int L3)] [] (S, tPut1 I1 a y x sh, V, J, N)) → G E M 0 0 Q 7 [some (.ref a), some (.int x), some (.int sh)] [] (S, I1, V, J, N) := by
    intro I1 y sh Q hy hy4 hk
    refine r_aload_n X dX7_put_7 rfl rfl ?_
    refine r_getI X dX7_put_8 fX7_15 (by assumption) (by first | assumption | rfl) ?_
    refine r_sipush (v := nI 400) X dX7_put_11 (by decide) ?_
    refine r_icmpN_ge (tgt := 40) X dX7_put_14 (by decide) (by omega) (by omega) (fun h14 => ?_) (fun h14 => ?_)
    · skip
      omega
    · skip
      refine r_aload_n X dX7_put_17 rfl rfl ?_
      refine r_getR X dX7_put_18 fX7_9 (by assumption) (by assumption) ?_
      refine r_aload_n X dX7_put_21 rfl rfl ?_
      refine r_getI X dX7_put_22 fX7_15 (by assumption) (by first | assumption | rfl) ?_
      refine r_iload_n X dX7_put_25 rfl rfl ?_
      refine r_iload_n X dX7_put_26 rfl rfl ?_
      refine r_ishr X dX7_put_27 ?_
      refine r_i2b X dX7_put_28 ?_
      refine r_bastN X dX7_put_29 (by assumption) (by omega) (by omega) (pk_nb _) ?_
      refine r_aload_n X dX7_put_30 rfl rfl ?_
      refine r_dup X dX7_put_31 rfl ?_
      refine r_getI X dX7_put_32 fX7_15 (by assumption) ((up2_a (by omega)).trans hy) ?_
      refine r_iconst (v := 1) X dX7_put_35 (by decide) ?_
      refine r_iadd X dX7_put_36 ?_
      refine r_topi (nI (y + 1)) (nI_1 y) ?_
      refine r_putI X dX7_put_37 fX7_15 wX7_15 (by assumption) rfl rfl ?_
      exact hk _ rfl
  have h1 := tPut1_1 I a z x 24
  have h2 := tPut1_1 (tPut1 I a z x 24) a (z + 1) x 16
  have h3 := tPut1_1 (tPut1 (tPut1 I a z x 24) a (z + 1) x 16) a (z + 2) x 8
  refine r_bipush (v := 24) X dX7_put_0 (by decide) ?_
  refine r_istore_n X dX7_put_2 rfl (by decide) rfl ?_
  refine r_iload_n X dX7_put_3 rfl rfl ?_
  refine r_if_lt (tgt := 46) X dX7_put_4 (by decide) (fun h4 => ?_) (fun h4 => ?_)
  · exact absurd h4 (by decide)
  refine H I (z + 0) (24) _ hz (by omega) (fun L3 e3 => ?_)
  subst e3
  refine r_iinc (v := 16) X dX7_put_40 rfl (by decide) (by decide) rfl ?_
  refine r_goto (tgt := 3) X dX7_put_43 (by decide) ?_
  refine r_iload_n X dX7_put_3 rfl rfl ?_
  refine r_if_lt (tgt := 46) X dX7_put_4 (by decide) (fun h4 => ?_) (fun h4 => ?_)
  · exact absurd h4 (by decide)
  refine H (tPut1 I a z x 24) (z + 1) (16) _ h1 (by omega) (fun L3 e3 => ?_)
  subst e3
  refine r_iinc (v := 8) X dX7_put_40 rfl (by decide) (by decide) rfl ?_
  refine r_goto (tgt := 3) X dX7_put_43 (by decide) ?_
  refine r_iload_n X dX7_put_3 rfl rfl ?_
  refine r_if_lt (tgt := 46) X dX7_put_4 (by decide) (fun h4 => ?_) (fun h4 => ?_)
  · exact absurd h4 (by decide)
  refine H (tPut1 (tPut1 I a z x 24) a (z + 1) x 16) (z + 2) (8) _ h2 (by omega) (fun L3 e3 => ?_)
  subst e3
  refine r_iinc (v := 0) X dX7_put_40 rfl (by decide) (by decide) rfl ?_
  refine r_goto (tgt := 3) X dX7_put_43 (by decide) ?_
  refine r_iload_n X dX7_put_3 rfl rfl ?_
  refine r_if_lt (tgt := 46) X dX7_put_4 (by decide) (fun h4 => ?_) (fun h4 => ?_)
  · exact absurd h4 (by decide)
  refine H (tPut1 (tPut1 (tPut1 I a z x 24) a (z + 1) x 16) a (z + 2) x 8) (z + 3) (0) _ h3 (by omega) (fun L3 e3 => ?_)
  subst e3
  refine r_iinc (v := -8) X dX7_put_40 rfl (by decide) (by decide) rfl ?_
  refine r_goto (tgt := 3) X dX7_put_43 (by decide) ?_
  refine r_iload_n X dX7_put_3 rfl rfl ?_
  refine r_if_lt (tgt := 46) X dX7_put_4 (by decide) (fun h4 => ?_) (fun h4 => ?_)
  rotate_left
  · exact absurd h4 (by decide)
  refine r_return X dX7_put_46 (by first | omega | decide | (simp only [rmL, rmA]; omega)) (by first | omega | decide | (simp only [rmL, rmA]; omega)) ?_
  exact ⟨rfl, rfl⟩
def tkKind (x : Int32) : Int32 := if 97 ≤ x ∧ x ≤ 122 then 1 else if 48 ≤ x ∧ x ≤ 57 then 2 else if x = 10 then 7 else if x = 32 then 7 else if x = 59 then 5 else if x = 60 then 3 else if x = 62 then 4 else 6
set_option maxHeartbeats 2000000 in
set_option maxRecDepth 20000 in
/-- SledHouse$Tape.kindOf -/
theorem c_kindOf {E : Ev} (GE : Glob E) (x : Int32) (w : Wd) : Ct E yX7_kindOf cX7_kindOf 1 (some .int) (rmL 0) [.int x] w (fun v w' => v = some (.int (tkKind x)) ∧ w' = w) := by
  refine Ct.start GE (by decide) rfl (Nat.le_of_ble_eq_true rfl) (fun M X => ?_)
  have X : Cx E M RX7 cX7_kindOf 1 (rmL 0) (some .int) "kindOf" := X
  refine r_loc (L' := [some (.int x)]) rfl ?_
  refine r_iload_n X dX7_kindOf_0 rfl rfl ?_
  refine r_bipush (v := 97) X dX7_kindOf_1 (by decide) ?_
  refine r_icmp_lt (tgt := 14) X dX7_kindOf_3 (by decide) (fun h3 => ?_) (fun h3 => ?_)
  · skip
    refine r_iload_n X dX7_kindOf_14 rfl rfl ?_
    refine r_bipush (v := 48) X dX7_kindOf_15 (by decide) ?_
    refine r_icmp_lt (tgt := 28) X dX7_kindOf_17 (by decide) (fun h17 => ?_) (fun h17 => ?_)
    · skip
      refine r_iload_n X dX7_kindOf_28 rfl rfl ?_
      refine r_sw (10) (fun h29_10 => ?_) (fun h29_10 => ?_)
      · skip
        refine r_lookup (off := 54) (tgt := 83) X dX7_kindOf_29 (by decide) (by rw [h29_10]; decide) (by decide) ?_
        refine r_bipush (v := 7) X dX7_kindOf_83 (by decide) ?_
        refine r_ireturn X dX7_kindOf_85 rfl (by first | omega | decide | (simp only [rmL, rmA]; omega)) (by first | omega | decide | (simp only [rmL, rmA]; omega)) ?_
        refine ⟨?_, rfl⟩
        rw [tkKind, if_neg (by rintro ⟨q1, q2⟩; first | exact absurd h3 (Int32.not_lt.mpr q1) | exact absurd h9 (Int32.not_lt.mpr q2)), if_neg (by rintro ⟨q1, q2⟩; first | exact absurd h17 (Int32.not_lt.mpr q1) | exact absurd h23 (Int32.not_lt.mpr q2))]
        simp [*]
      · skip
        refine r_sw (32) (fun h29_32 => ?_) (fun h29_32 => ?_)
        · skip
          refine r_lookup (off := 51) (tgt := 80) X dX7_kindOf_29 (by decide) (by rw [h29_32]; decide) (by decide) ?_
          refine r_bipush (v := 7) X dX7_kindOf_80 (by decide) ?_
          refine r_ireturn X dX7_kindOf_82 rfl (by first | omega | decide | (simp only [rmL, rmA]; omega)) (by first | omega | decide | (simp only [rmL, rmA]; omega)) ?_
          refine ⟨?_, rfl⟩
          rw [tkKind, if_neg (by rintro ⟨q1, q2⟩; first | exact absurd h3 (Int32.not_lt.mpr q1) | exact absurd h9 (Int32.not_lt.mpr q2)), if_neg (by rintro ⟨q1, q2⟩; first | exact absurd h17 (Int32.not_lt.mpr q1) | exact absurd h23 (Int32.not_lt.mpr q2))]
          simp [*]
        · skip
          refine r_sw (59) (fun h29_59 => ?_) (fun h29_59 => ?_)
          · skip
            refine r_lookup (off := 61) (tgt := 90) X dX7_kindOf_29 (by decide) (by rw [h29_59]; decide) (by decide) ?_
            refine r_iconst (v := 5) X dX7_kindOf_90 (by decide) ?_
            refine r_ireturn X dX7_kindOf_91 rfl (by first | omega | decide | (simp only [rmL, rmA]; omega)) (by first | omega | decide | (simp only [rmL, rmA]; omega)) ?_
            refine ⟨?_, rfl⟩
            rw [tkKind, if_neg (by rintro ⟨q1, q2⟩; first | exact absurd h3 (Int32.not_lt.mpr q1) | exact absurd h9 (Int32.not_lt.mpr q2)), if_neg (by rintro ⟨q1, q2⟩; first | exact absurd h17 (Int32.not_lt.mpr q1) | exact absurd h23 (Int32.not_lt.mpr q2))]
            simp [*]
          · skip
            refine r_sw (60) (fun h29_60 => ?_) (fun h29_60 => ?_)
            · skip
              refine r_lookup (off := 57) (tgt := 86) X dX7_kindOf_29 (by decide) (by rw [h29_60]; decide) (by decide) ?_
              refine r_iconst (v := 3) X dX7_kindOf_86 (by decide) ?_
              refine r_ireturn X dX7_kindOf_87 rfl (by first | omega | decide | (simp only [rmL, rmA]; omega)) (by first | omega | decide | (simp only [rmL, rmA]; omega)) ?_
              refine ⟨?_, rfl⟩
              rw [tkKind, if_neg (by rintro ⟨q1, q2⟩; first | exact absurd h3 (Int32.not_lt.mpr q1) | exact absurd h9 (Int32.not_lt.mpr q2)), if_neg (by rintro ⟨q1, q2⟩; first | exact absurd h17 (Int32.not_lt.mpr q1) | exact absurd h23 (Int32.not_lt.mpr q2))]
              simp [*]
            · skip
              refine r_sw (62) (fun h29_62 => ?_) (fun h29_62 => ?_)
              · skip
                refine r_lookup (off := 59) (tgt := 88) X dX7_kindOf_29 (by decide) (by rw [h29_62]; decide) (by decide) ?_
                refine r_iconst (v := 4) X dX7_kindOf_88 (by decide) ?_
                refine r_ireturn X dX7_kindOf_89 rfl (by first | omega | decide | (simp only [rmL, rmA]; omega)) (by first | omega | decide | (simp only [rmL, rmA]; omega)) ?_
                refine ⟨?_, rfl⟩
                rw [tkKind, if_neg (by rintro ⟨q1, q2⟩; first | exact absurd h3 (Int32.not_lt.mpr q1) | exact absurd h9 (Int32.not_lt.mpr q2)), if_neg (by rintro ⟨q1, q2⟩; first | exact absurd h17 (Int32.not_lt.mpr q1) | exact absurd h23 (Int32.not_lt.mpr q2))]
                simp [*]
              · skip
                refine r_lookup (off := 63) (tgt := 92) X dX7_kindOf_29 (by decide) (by simp only []; rw [lv_osw (k := 10) h29_10 (by decide), lv_osw (k := 32) h29_32 (by decide), lv_osw (k := 59) h29_59 (by decide), lv_osw (k := 60) h29_60 (by decide), lv_osw (k := 62) h29_62 (by decide)]; rfl) (by decide) ?_
                refine r_bipush (v := 6) X dX7_kindOf_92 (by decide) ?_
                refine r_ireturn X dX7_kindOf_94 rfl (by first | omega | decide | (simp only [rmL, rmA]; omega)) (by first | omega | decide | (simp only [rmL, rmA]; omega)) ?_
                refine ⟨?_, rfl⟩
                rw [tkKind, if_neg (by rintro ⟨q1, q2⟩; first | exact absurd h3 (Int32.not_lt.mpr q1) | exact absurd h9 (Int32.not_lt.mpr q2)), if_neg (by rintro ⟨q1, q2⟩; first | exact absurd h17 (Int32.not_lt.mpr q1) | exact absurd h23 (Int32.not_lt.mpr q2))]
                simp [*]
    · skip
      refine r_iload_n X dX7_kindOf_20 rfl rfl ?_
      refine r_bipush (v := 57) X dX7_kindOf_21 (by decide) ?_
      refine r_icmp_gt (tgt := 28) X dX7_kindOf_23 (by decide) (fun h23 => ?_) (fun h23 => ?_)
      · skip
        refine r_iload_n X dX7_kindOf_28 rfl rfl ?_
        refine r_sw (10) (fun h29_10 => ?_) (fun h29_10 => ?_)
        · skip
          refine r_lookup (off := 54) (tgt := 83) X dX7_kindOf_29 (by decide) (by rw [h29_10]; decide) (by decide) ?_
          refine r_bipush (v := 7) X dX7_kindOf_83 (by decide) ?_
          refine r_ireturn X dX7_kindOf_85 rfl (by first | omega | decide | (simp only [rmL, rmA]; omega)) (by first | omega | decide | (simp only [rmL, rmA]; omega)) ?_
          refine ⟨?_, rfl⟩
          rw [tkKind, if_neg (by rintro ⟨q1, q2⟩; first | exact absurd h3 (Int32.not_lt.mpr q1) | exact absurd h9 (Int32.not_lt.mpr q2)), if_neg (by rintro ⟨q1, q2⟩; first | exact absurd h17 (Int32.not_lt.mpr q1) | exact absurd h23 (Int32.not_lt.mpr q2))]
          simp [*]
        · skip
          refine r_sw (32) (fun h29_32 => ?_) (fun h29_32 => ?_)
          · skip
            refine r_lookup (off := 51) (tgt := 80) X dX7_kindOf_29 (by decide) (by rw [h29_32]; decide) (by decide) ?_
            refine r_bipush (v := 7) X dX7_kindOf_80 (by decide) ?_
            refine r_ireturn X dX7_kindOf_82 rfl (by first | omega | decide | (simp only [rmL, rmA]; omega)) (by first | omega | decide | (simp only [rmL, rmA]; omega)) ?_
            refine ⟨?_, rfl⟩
            rw [tkKind, if_neg (by rintro ⟨q1, q2⟩; first | exact absurd h3 (Int32.not_lt.mpr q1) | exact absurd h9 (Int32.not_lt.mpr q2)), if_neg (by rintro ⟨q1, q2⟩; first | exact absurd h17 (Int32.not_lt.mpr q1) | exact absurd h23 (Int32.not_lt.mpr q2))]
            simp [*]
          · skip
            refine r_sw (59) (fun h29_59 => ?_) (fun h29_59 => ?_)
            · skip
              refine r_lookup (off := 61) (tgt := 90) X dX7_kindOf_29 (by decide) (by rw [h29_59]; decide) (by decide) ?_
              refine r_iconst (v := 5) X dX7_kindOf_90 (by decide) ?_
              refine r_ireturn X dX7_kindOf_91 rfl (by first | omega | decide | (simp only [rmL, rmA]; omega)) (by first | omega | decide | (simp only [rmL, rmA]; omega)) ?_
              refine ⟨?_, rfl⟩
              rw [tkKind, if_neg (by rintro ⟨q1, q2⟩; first | exact absurd h3 (Int32.not_lt.mpr q1) | exact absurd h9 (Int32.not_lt.mpr q2)), if_neg (by rintro ⟨q1, q2⟩; first | exact absurd h17 (Int32.not_lt.mpr q1) | exact absurd h23 (Int32.not_lt.mpr q2))]
              simp [*]
            · skip
              refine r_sw (60) (fun h29_60 => ?_) (fun h29_60 => ?_)
              · skip
                refine r_lookup (off := 57) (tgt := 86) X dX7_kindOf_29 (by decide) (by rw [h29_60]; decide) (by decide) ?_
                refine r_iconst (v := 3) X dX7_kindOf_86 (by decide) ?_
                refine r_ireturn X dX7_kindOf_87 rfl (by first | omega | decide | (simp only [rmL, rmA]; omega)) (by first | omega | decide | (simp only [rmL, rmA]; omega)) ?_
                refine ⟨?_, rfl⟩
                rw [tkKind, if_neg (by rintro ⟨q1, q2⟩; first | exact absurd h3 (Int32.not_lt.mpr q1) | exact absurd h9 (Int32.not_lt.mpr q2)), if_neg (by rintro ⟨q1, q2⟩; first | exact absurd h17 (Int32.not_lt.mpr q1) | exact absurd h23 (Int32.not_lt.mpr q2))]
                simp [*]
              · skip
                refine r_sw (62) (fun h29_62 => ?_) (fun h29_62 => ?_)
                · skip
                  refine r_lookup (off := 59) (tgt := 88) X dX7_kindOf_29 (by decide) (by rw [h29_62]; decide) (by decide) ?_
                  refine r_iconst (v := 4) X dX7_kindOf_88 (by decide) ?_
                  refine r_ireturn X dX7_kindOf_89 rfl (by first | omega | decide | (simp only [rmL, rmA]; omega)) (by first | omega | decide | (simp only [rmL, rmA]; omega)) ?_
                  refine ⟨?_, rfl⟩
                  rw [tkKind, if_neg (by rintro ⟨q1, q2⟩; first | exact absurd h3 (Int32.not_lt.mpr q1) | exact absurd h9 (Int32.not_lt.mpr q2)), if_neg (by rintro ⟨q1, q2⟩; first | exact absurd h17 (Int32.not_lt.mpr q1) | exact absurd h23 (Int32.not_lt.mpr q2))]
                  simp [*]
                · skip
                  refine r_lookup (off := 63) (tgt := 92) X dX7_kindOf_29 (by decide) (by simp only []; rw [lv_osw (k := 10) h29_10 (by decide), lv_osw (k := 32) h29_32 (by decide), lv_osw (k := 59) h29_59 (by decide), lv_osw (k := 60) h29_60 (by decide), lv_osw (k := 62) h29_62 (by decide)]; rfl) (by decide) ?_
                  refine r_bipush (v := 6) X dX7_kindOf_92 (by decide) ?_
                  refine r_ireturn X dX7_kindOf_94 rfl (by first | omega | decide | (simp only [rmL, rmA]; omega)) (by first | omega | decide | (simp only [rmL, rmA]; omega)) ?_
                  refine ⟨?_, rfl⟩
                  rw [tkKind, if_neg (by rintro ⟨q1, q2⟩; first | exact absurd h3 (Int32.not_lt.mpr q1) | exact absurd h9 (Int32.not_lt.mpr q2)), if_neg (by rintro ⟨q1, q2⟩; first | exact absurd h17 (Int32.not_lt.mpr q1) | exact absurd h23 (Int32.not_lt.mpr q2))]
                  simp [*]
      · skip
        refine r_iconst (v := 2) X dX7_kindOf_26 (by decide) ?_
        refine r_ireturn X dX7_kindOf_27 rfl (by first | omega | decide | (simp only [rmL, rmA]; omega)) (by first | omega | decide | (simp only [rmL, rmA]; omega)) ?_
        refine ⟨?_, rfl⟩
        rw [tkKind, if_neg (by rintro ⟨q1, q2⟩; first | exact absurd h3 (Int32.not_lt.mpr q1) | exact absurd h9 (Int32.not_lt.mpr q2)), if_pos ⟨Int32.not_lt.mp h17, Int32.not_lt.mp h23⟩]
  · skip
    refine r_iload_n X dX7_kindOf_6 rfl rfl ?_
    refine r_bipush (v := 122) X dX7_kindOf_7 (by decide) ?_
    refine r_icmp_gt (tgt := 14) X dX7_kindOf_9 (by decide) (fun h9 => ?_) (fun h9 => ?_)
    · skip
      refine r_iload_n X dX7_kindOf_14 rfl rfl ?_
      refine r_bipush (v := 48) X dX7_kindOf_15 (by decide) ?_
      refine r_icmp_lt (tgt := 28) X dX7_kindOf_17 (by decide) (fun h17 => ?_) (fun h17 => ?_)
      · skip
        refine r_iload_n X dX7_kindOf_28 rfl rfl ?_
        refine r_sw (10) (fun h29_10 => ?_) (fun h29_10 => ?_)
        · skip
          refine r_lookup (off := 54) (tgt := 83) X dX7_kindOf_29 (by decide) (by rw [h29_10]; decide) (by decide) ?_
          refine r_bipush (v := 7) X dX7_kindOf_83 (by decide) ?_
          refine r_ireturn X dX7_kindOf_85 rfl (by first | omega | decide | (simp only [rmL, rmA]; omega)) (by first | omega | decide | (simp only [rmL, rmA]; omega)) ?_
          refine ⟨?_, rfl⟩
          rw [tkKind, if_neg (by rintro ⟨q1, q2⟩; first | exact absurd h3 (Int32.not_lt.mpr q1) | exact absurd h9 (Int32.not_lt.mpr q2)), if_neg (by rintro ⟨q1, q2⟩; first | exact absurd h17 (Int32.not_lt.mpr q1) | exact absurd h23 (Int32.not_lt.mpr q2))]
          simp [*]
        · skip
          refine r_sw (32) (fun h29_32 => ?_) (fun h29_32 => ?_)
          · skip
            refine r_lookup (off := 51) (tgt := 80) X dX7_kindOf_29 (by decide) (by rw [h29_32]; decide) (by decide) ?_
            refine r_bipush (v := 7) X dX7_kindOf_80 (by decide) ?_
            refine r_ireturn X dX7_kindOf_82 rfl (by first | omega | decide | (simp only [rmL, rmA]; omega)) (by first | omega | decide | (simp only [rmL, rmA]; omega)) ?_
            refine ⟨?_, rfl⟩
            rw [tkKind, if_neg (by rintro ⟨q1, q2⟩; first | exact absurd h3 (Int32.not_lt.mpr q1) | exact absurd h9 (Int32.not_lt.mpr q2)), if_neg (by rintro ⟨q1, q2⟩; first | exact absurd h17 (Int32.not_lt.mpr q1) | exact absurd h23 (Int32.not_lt.mpr q2))]
            simp [*]
          · skip
            refine r_sw (59) (fun h29_59 => ?_) (fun h29_59 => ?_)
            · skip
              refine r_lookup (off := 61) (tgt := 90) X dX7_kindOf_29 (by decide) (by rw [h29_59]; decide) (by decide) ?_
              refine r_iconst (v := 5) X dX7_kindOf_90 (by decide) ?_
              refine r_ireturn X dX7_kindOf_91 rfl (by first | omega | decide | (simp only [rmL, rmA]; omega)) (by first | omega | decide | (simp only [rmL, rmA]; omega)) ?_
              refine ⟨?_, rfl⟩
              rw [tkKind, if_neg (by rintro ⟨q1, q2⟩; first | exact absurd h3 (Int32.not_lt.mpr q1) | exact absurd h9 (Int32.not_lt.mpr q2)), if_neg (by rintro ⟨q1, q2⟩; first | exact absurd h17 (Int32.not_lt.mpr q1) | exact absurd h23 (Int32.not_lt.mpr q2))]
              simp [*]
            · skip
              refine r_sw (60) (fun h29_60 => ?_) (fun h29_60 => ?_)
              · skip
                refine r_lookup (off := 57) (tgt := 86) X dX7_kindOf_29 (by decide) (by rw [h29_60]; decide) (by decide) ?_
                refine r_iconst (v := 3) X dX7_kindOf_86 (by decide) ?_
                refine r_ireturn X dX7_kindOf_87 rfl (by first | omega | decide | (simp only [rmL, rmA]; omega)) (by first | omega | decide | (simp only [rmL, rmA]; omega)) ?_
                refine ⟨?_, rfl⟩
                rw [tkKind, if_neg (by rintro ⟨q1, q2⟩; first | exact absurd h3 (Int32.not_lt.mpr q1) | exact absurd h9 (Int32.not_lt.mpr q2)), if_neg (by rintro ⟨q1, q2⟩; first | exact absurd h17 (Int32.not_lt.mpr q1) | exact absurd h23 (Int32.not_lt.mpr q2))]
                simp [*]
              · skip
                refine r_sw (62) (fun h29_62 => ?_) (fun h29_62 => ?_)
                · skip
                  refine r_lookup (off := 59) (tgt := 88) X dX7_kindOf_29 (by decide) (by rw [h29_62]; decide) (by decide) ?_
                  refine r_iconst (v := 4) X dX7_kindOf_88 (by decide) ?_
                  refine r_ireturn X dX7_kindOf_89 rfl (by first | omega | decide | (simp only [rmL, rmA]; omega)) (by first | omega | decide | (simp only [rmL, rmA]; omega)) ?_
                  refine ⟨?_, rfl⟩
                  rw [tkKind, if_neg (by rintro ⟨q1, q2⟩; first | exact absurd h3 (Int32.not_lt.mpr q1) | exact absurd h9 (Int32.not_lt.mpr q2)), if_neg (by rintro ⟨q1, q2⟩; first | exact absurd h17 (Int32.not_lt.mpr q1) | exact absurd h23 (Int32.not_lt.mpr q2))]
                  simp [*]
                · skip
                  refine r_lookup (off := 63) (tgt := 92) X dX7_kindOf_29 (by decide) (by simp only []; rw [lv_osw (k := 10) h29_10 (by decide), lv_osw (k := 32) h29_32 (by decide), lv_osw (k := 59) h29_59 (by decide), lv_osw (k := 60) h29_60 (by decide), lv_osw (k := 62) h29_62 (by decide)]; rfl) (by decide) ?_
                  refine r_bipush (v := 6) X dX7_kindOf_92 (by decide) ?_
                  refine r_ireturn X dX7_kindOf_94 rfl (by first | omega | decide | (simp only [rmL, rmA]; omega)) (by first | omega | decide | (simp only [rmL, rmA]; omega)) ?_
                  refine ⟨?_, rfl⟩
                  rw [tkKind, if_neg (by rintro ⟨q1, q2⟩; first | exact absurd h3 (Int32.not_lt.mpr q1) | exact absurd h9 (Int32.not_lt.mpr q2)), if_neg (by rintro ⟨q1, q2⟩; first | exact absurd h17 (Int32.not_lt.mpr q1) | exact absurd h23 (Int32.not_lt.mpr q2))]
                  simp [*]
      · skip
        refine r_iload_n X dX7_kindOf_20 rfl rfl ?_
        refine r_bipush (v := 57) X dX7_kindOf_21 (by decide) ?_
        refine r_icmp_gt (tgt := 28) X dX7_kindOf_23 (by decide) (fun h23 => ?_) (fun h23 => ?_)
        · skip
          refine r_iload_n X dX7_kindOf_28 rfl rfl ?_
          refine r_sw (10) (fun h29_10 => ?_) (fun h29_10 => ?_)
          · skip
            refine r_lookup (off := 54) (tgt := 83) X dX7_kindOf_29 (by decide) (by rw [h29_10]; decide) (by decide) ?_
            refine r_bipush (v := 7) X dX7_kindOf_83 (by decide) ?_
            refine r_ireturn X dX7_kindOf_85 rfl (by first | omega | decide | (simp only [rmL, rmA]; omega)) (by first | omega | decide | (simp only [rmL, rmA]; omega)) ?_
            refine ⟨?_, rfl⟩
            rw [tkKind, if_neg (by rintro ⟨q1, q2⟩; first | exact absurd h3 (Int32.not_lt.mpr q1) | exact absurd h9 (Int32.not_lt.mpr q2)), if_neg (by rintro ⟨q1, q2⟩; first | exact absurd h17 (Int32.not_lt.mpr q1) | exact absurd h23 (Int32.not_lt.mpr q2))]
            simp [*]
          · skip
            refine r_sw (32) (fun h29_32 => ?_) (fun h29_32 => ?_)
            · skip
              refine r_lookup (off := 51) (tgt := 80) X dX7_kindOf_29 (by decide) (by rw [h29_32]; decide) (by decide) ?_
              refine r_bipush (v := 7) X dX7_kindOf_80 (by decide) ?_
              refine r_ireturn X dX7_kindOf_82 rfl (by first | omega | decide | (simp only [rmL, rmA]; omega)) (by first | omega | decide | (simp only [rmL, rmA]; omega)) ?_
              refine ⟨?_, rfl⟩
              rw [tkKind, if_neg (by rintro ⟨q1, q2⟩; first | exact absurd h3 (Int32.not_lt.mpr q1) | exact absurd h9 (Int32.not_lt.mpr q2)), if_neg (by rintro ⟨q1, q2⟩; first | exact absurd h17 (Int32.not_lt.mpr q1) | exact absurd h23 (Int32.not_lt.mpr q2))]
              simp [*]
            · skip
              refine r_sw (59) (fun h29_59 => ?_) (fun h29_59 => ?_)
              · skip
                refine r_lookup (off := 61) (tgt := 90) X dX7_kindOf_29 (by decide) (by rw [h29_59]; decide) (by decide) ?_
                refine r_iconst (v := 5) X dX7_kindOf_90 (by decide) ?_
                refine r_ireturn X dX7_kindOf_91 rfl (by first | omega | decide | (simp only [rmL, rmA]; omega)) (by first | omega | decide | (simp only [rmL, rmA]; omega)) ?_
                refine ⟨?_, rfl⟩
                rw [tkKind, if_neg (by rintro ⟨q1, q2⟩; first | exact absurd h3 (Int32.not_lt.mpr q1) | exact absurd h9 (Int32.not_lt.mpr q2)), if_neg (by rintro ⟨q1, q2⟩; first | exact absurd h17 (Int32.not_lt.mpr q1) | exact absurd h23 (Int32.not_lt.mpr q2))]
                simp [*]
              · skip
                refine r_sw (60) (fun h29_60 => ?_) (fun h29_60 => ?_)
                · skip
                  refine r_lookup (off := 57) (tgt := 86) X dX7_kindOf_29 (by decide) (by rw [h29_60]; decide) (by decide) ?_
                  refine r_iconst (v := 3) X dX7_kindOf_86 (by decide) ?_
                  refine r_ireturn X dX7_kindOf_87 rfl (by first | omega | decide | (simp only [rmL, rmA]; omega)) (by first | omega | decide | (simp only [rmL, rmA]; omega)) ?_
                  refine ⟨?_, rfl⟩
                  rw [tkKind, if_neg (by rintro ⟨q1, q2⟩; first | exact absurd h3 (Int32.not_lt.mpr q1) | exact absurd h9 (Int32.not_lt.mpr q2)), if_neg (by rintro ⟨q1, q2⟩; first | exact absurd h17 (Int32.not_lt.mpr q1) | exact absurd h23 (Int32.not_lt.mpr q2))]
                  simp [*]
                · skip
                  refine r_sw (62) (fun h29_62 => ?_) (fun h29_62 => ?_)
                  · skip
                    refine r_lookup (off := 59) (tgt := 88) X dX7_kindOf_29 (by decide) (by rw [h29_62]; decide) (by decide) ?_
                    refine r_iconst (v := 4) X dX7_kindOf_88 (by decide) ?_
                    refine r_ireturn X dX7_kindOf_89 rfl (by first | omega | decide | (simp only [rmL, rmA]; omega)) (by first | omega | decide | (simp only [rmL, rmA]; omega)) ?_
                    refine ⟨?_, rfl⟩
                    rw [tkKind, if_neg (by rintro ⟨q1, q2⟩; first | exact absurd h3 (Int32.not_lt.mpr q1) | exact absurd h9 (Int32.not_lt.mpr q2)), if_neg (by rintro ⟨q1, q2⟩; first | exact absurd h17 (Int32.not_lt.mpr q1) | exact absurd h23 (Int32.not_lt.mpr q2))]
                    simp [*]
                  · skip
                    refine r_lookup (off := 63) (tgt := 92) X dX7_kindOf_29 (by decide) (by simp only []; rw [lv_osw (k := 10) h29_10 (by decide), lv_osw (k := 32) h29_32 (by decide), lv_osw (k := 59) h29_59 (by decide), lv_osw (k := 60) h29_60 (by decide), lv_osw (k := 62) h29_62 (by decide)]; rfl) (by decide) ?_
                    refine r_bipush (v := 6) X dX7_kindOf_92 (by decide) ?_
                    refine r_ireturn X dX7_kindOf_94 rfl (by first | omega | decide | (simp only [rmL, rmA]; omega)) (by first | omega | decide | (simp only [rmL, rmA]; omega)) ?_
                    refine ⟨?_, rfl⟩
                    rw [tkKind, if_neg (by rintro ⟨q1, q2⟩; first | exact absurd h3 (Int32.not_lt.mpr q1) | exact absurd h9 (Int32.not_lt.mpr q2)), if_neg (by rintro ⟨q1, q2⟩; first | exact absurd h17 (Int32.not_lt.mpr q1) | exact absurd h23 (Int32.not_lt.mpr q2))]
                    simp [*]
        · skip
          refine r_iconst (v := 2) X dX7_kindOf_26 (by decide) ?_
          refine r_ireturn X dX7_kindOf_27 rfl (by first | omega | decide | (simp only [rmL, rmA]; omega)) (by first | omega | decide | (simp only [rmL, rmA]; omega)) ?_
          refine ⟨?_, rfl⟩
          rw [tkKind, if_neg (by rintro ⟨q1, q2⟩; first | exact absurd h3 (Int32.not_lt.mpr q1) | exact absurd h9 (Int32.not_lt.mpr q2)), if_pos ⟨Int32.not_lt.mp h17, Int32.not_lt.mp h23⟩]
    · skip
      refine r_iconst (v := 1) X dX7_kindOf_12 (by decide) ?_
      refine r_ireturn X dX7_kindOf_13 rfl (by first | omega | decide | (simp only [rmL, rmA]; omega)) (by first | omega | decide | (simp only [rmL, rmA]; omega)) ?_
      exact ⟨by rw [tkKind, if_pos ⟨Int32.not_lt.mp h3, Int32.not_lt.mp h9⟩], rfl⟩
def tFail (I : Mem) (a : Nat) (x : Int32) : Mem := up2 (up2 I a 7 x) a 8 (I a 5)
set_option maxHeartbeats 2000000 in
set_option maxRecDepth 20000 in
/-- SledHouse$Tape.fail -/
theorem c_tFail {E : Ev} (GE : Glob E) (S : Nat → Option (Nat × Nat)) (I : Nat → Nat → Int32) (V : Nat → Nat → Option Nat) (J : Nat → Nat → Int64) (N : Nat) (a : Nat) (x : Int32) (hT : TapeSh S V a) : Ct E yX7_fail cX7_fail 2 (some .boolean) (rmL 0) [.ref a, .int x] (S, I, V, J, N) (fun v w' => v = some (.int 0) ∧ w' = (S, tFail I a x, V, J, N)) := by
  refine Ct.start GE (by decide) rfl (Nat.le_of_ble_eq_true rfl) (fun M X => ?_)
  have X : Cx E M RX7 cX7_fail 2 (rmL 0) (some .boolean) "fail" := X
  refine r_loc (L' := [some (.ref a), some (.int x)]) rfl ?_
  obtain ⟨hs0, hv0, hs1⟩ := hT
  refine r_aload_n X dX7_fail_0 rfl rfl ?_
  refine r_iload_n X dX7_fail_1 rfl rfl ?_
  refine r_putI X dX7_fail_2 fX7_34 wX7_34 (by assumption) rfl rfl ?_
  refine r_aload_n X dX7_fail_5 rfl rfl ?_
  refine r_aload_n X dX7_fail_6 rfl rfl ?_
  refine r_getI X dX7_fail_7 fX7_28 (by assumption) (up2_k (by decide)) ?_
  refine r_putI X dX7_fail_10 fX7_37 wX7_37 (by assumption) rfl rfl ?_
  refine r_iconst (v := 0) X dX7_fail_13 (by decide) ?_
  refine r_ireturn X dX7_fail_14 rfl (by first | omega | decide | (simp only [rmL, rmA]; omega)) (by first | omega | decide | (simp only [rmL, rmA]; omega)) ?_
  exact ⟨rfl, rfl⟩
/-- from p on, at most n places: the first without P -/
def span (P : Nat → Bool) (p : Nat) : Nat → Nat
  | 0 => p
  | n + 1 => if P p then span P (p + 1) n else p
theorem span_ge (P : Nat → Bool) : ∀ (n p : Nat), p ≤ span P p n
  | 0, p => Nat.le_refl _
  | n + 1, p => by
    unfold span
    split
    · have := span_ge P n (p + 1); omega
    · omega
theorem span_le (P : Nat → Bool) : ∀ (n p : Nat), span P p n ≤ p + n
  | 0, p => by simp [span]
  | n + 1, p => by
    unfold span
    split
    · have := span_le P n (p + 1); omega
    · omega
/-- the digits' value of the places q .. q + j - 1 -/
def tkVal (B : Nat → Int32) (q : Nat) : Nat → Int32
  | 0 => 0
  | j + 1 => tkVal B q j * 10 + (B (q + j) - 48)
/-- the token at p of the bytes B, e of them: where it is, of which kind as begun, where it ends -/
def tkAt (B : Nat → Int32) (e p : Nat) : Nat := span (fun k => decide (tkKind (B k) = 7)) p (e - p)
def tkK0 (B : Nat → Int32) (e p : Nat) : Int32 := if tkAt B e p < e then tkKind (B (tkAt B e p)) else 0
def tkRun (B : Nat → Int32) (e q : Nat) (k : Int32) : Nat := span (fun i => decide (tkKind (B i) = k)) q (e - q)
def tkNx (B : Nat → Int32) (e p : Nat) : Nat := if tkK0 B e p = 1 ∨ tkK0 B e p = 2 then tkRun B e (tkAt B e p) (tkK0 B e p) else if tkAt B e p < e then tkAt B e p + 1 else tkAt B e p
def tkKd (B : Nat → Int32) (e p : Nat) : Int32 := if tkK0 B e p = 1 then (if tkNx B e p - tkAt B e p ≤ 8 then 1 else 6) else if tkK0 B e p = 2 then (if tkNx B e p - tkAt B e p ≤ 4 then 2 else 6) else tkK0 B e p
def tkVl (B : Nat → Int32) (e p : Nat) : Int32 := if tkK0 B e p = 1 ∨ tkK0 B e p = 2 then tkVal B (tkAt B e p) (tkNx B e p - tkAt B e p) else 0
def setTok (I : Mem) (a : Nat) (nx kd at_ vl : Int32) : Mem := up2 (up2 (up2 (up2 I a 3 nx) a 4 kd) a 5 at_) a 6 vl
def tAdv (I : Mem) (a e p : Nat) : Mem := setTok I a (nI (tkNx (I (a + 1)) e p)) (tkKd (I (a + 1)) e p) (nI (tkAt (I (a + 1)) e p)) (tkVl (I (a + 1)) e p)
theorem setTok_row {I : Mem} {a b : Nat} {x y z u : Int32} (h : b ≠ a) : setTok I a x y z u b = I b := by unfold setTok; rw [up2_row h, up2_row h, up2_row h, up2_row h]
theorem setTok_set (I : Mem) (a : Nat) (x y z u x' y' z' u' : Int32) : setTok (setTok I a x y z u) a x' y' z' u' = setTok I a x' y' z' u' := by
  funext b j
  unfold setTok up2
  by_cases hb : b = a
  · by_cases h6 : j = 6
    · simp [hb, h6]
    · by_cases h5 : j = 5
      · simp [hb, h5]
      · by_cases h4 : j = 4
        · simp [hb, h4]
        · by_cases h3 : j = 3
          · simp [hb, h3]
          · simp [h3, h4, h5, h6]
  · simp [hb]
theorem setTok_id (I : Mem) (a : Nat) : setTok I a (I a 3) (I a 4) (I a 5) (I a 6) = I := by
  unfold setTok
  rw [up2_id I rfl, up2_id I rfl, up2_id I rfl, up2_id I rfl]
theorem setTok_3 (I : Mem) (a : Nat) (x y z u x' : Int32) : up2 (setTok I a x y z u) a 3 x' = setTok I a x' y z u := by
  funext b j
  unfold setTok up2
  by_cases hb : b = a <;> by_cases h3 : j = 3 <;> simp [hb, h3]
theorem setTok_4 (I : Mem) (a : Nat) (x y z u x' : Int32) : up2 (setTok I a x y z u) a 4 x' = setTok I a x x' z u := by
  funext b j
  unfold setTok up2
  by_cases hb : b = a <;> by_cases h3 : j = 4 <;> simp [hb, h3]
theorem setTok_5 (I : Mem) (a : Nat) (x y z u x' : Int32) : up2 (setTok I a x y z u) a 5 x' = setTok I a x y x' u := by
  funext b j
  unfold setTok up2
  by_cases hb : b = a <;> by_cases h3 : j = 5 <;> simp [hb, h3]
theorem setTok_6 (I : Mem) (a : Nat) (x y z u x' : Int32) : up2 (setTok I a x y z u) a 6 x' = setTok I a x y z x' := up2_uu _ _ _ _ _
theorem setTok_g3 (I : Mem) (a : Nat) (x y z u : Int32) : setTok I a x y z u a 3 = x := by simp [setTok, up2]
theorem setTok_g4 (I : Mem) (a : Nat) (x y z u : Int32) : setTok I a x y z u a 4 = y := by simp [setTok, up2]
theorem setTok_g5 (I : Mem) (a : Nat) (x y z u : Int32) : setTok I a x y z u a 5 = z := by simp [setTok, up2]
theorem setTok_g6 (I : Mem) (a : Nat) (x y z u : Int32) : setTok I a x y z u a 6 = u := by simp [setTok, up2]
theorem setTok_g {I : Mem} {a k : Nat} {x y z u : Int32} (h : k < 3 ∨ 6 < k) : setTok I a x y z u a k = I a k := by
  unfold setTok
  rw [up2_k (by omega), up2_k (by omega), up2_k (by omega), up2_k (by omega)]
