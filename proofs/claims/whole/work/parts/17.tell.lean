/-! ===== Arrays.copyOf to a longer row; SignRow.tell ===== -/
set_option maxHeartbeats 2000000 in
set_option maxRecDepth 20000 in
theorem c_copyOf {E : Ev} (GE : Glob E) (S : Nat → Option (Nat × Nat)) (I : Nat → Nat → Int32) (V : Nat → Nat → Option Nat) (J : Nat → Nat → Int64) (N a n k : Nat) (hs : S a = some (100, n)) (haN : a < N) (hnk : n < k) (hk : k ≤ 2000) : Ct E yJ7_copyOf_59c91 cJ7_copyOf_59c91 3 (some (.array .int)) (rmA 1 1 k) [.ref a, .int (nI k)] (S, I, V, J, N) (fun v w' => v = some (.ref N) ∧ w' = (up1 S N (some (100, k)), cpyI (zr I N 0) a N 0 0 n, zr V N none, zr J N 0, N + 1)) := by
  refine Ct.start GE (by decide) rfl (Nat.le_of_ble_eq_true rfl) (fun M X => ?_)
  have X : Cx E M RJ7 cJ7_copyOf_59c91 3 (rmA 1 1 k) (some (.array .int)) "copyOf" := X
  refine r_loc (L' := [some (.ref a), some (.int (nI k)), none]) rfl ?_
  have hs1 : up1 S N (some (100, k)) a = some (100, n) := by rw [up1, if_neg (by omega)]; exact hs
  have hs2 : up1 S N (some (100, k)) N = some (100, k) := by rw [up1, if_pos rfl]
  refine r_iload_n X dJ7_copyOf_59c91_0 rfl rfl ?_
  refine r_aload_n X dJ7_copyOf_59c91_1 rfl rfl ?_
  refine r_alen X dJ7_copyOf_59c91_2 (by assumption) (by decide) rfl ?_
  refine r_icmpN_ne (tgt := 14) X dJ7_copyOf_59c91_3 (by decide) (by omega) (by omega) (fun h3 => ?_) (fun h3 => ?_)
  · skip
    refine r_iload_n X dJ7_copyOf_59c91_14 rfl rfl ?_
    refine r_newI X dJ7_copyOf_59c91_15 rfl (by omega) (Nat.le_of_ble_eq_true rfl) (by show 0 + k ≤ k; omega) ?_
    refine r_world (w' := (up1 S N (some (100, k)), zr I N 0, zr V N none, zr J N 0, N + 1)) rfl ?_
    refine r_astore_n X dJ7_copyOf_59c91_17 rfl (by decide) rfl ?_
    refine r_aload_n X dJ7_copyOf_59c91_18 rfl rfl ?_
    refine r_iconst (v := nI 0) X dJ7_copyOf_59c91_19 (by decide) ?_
    refine r_aload_n X dJ7_copyOf_59c91_20 rfl rfl ?_
    refine r_iconst (v := nI 0) X dJ7_copyOf_59c91_21 (by decide) ?_
    refine r_aload_n X dJ7_copyOf_59c91_22 rfl rfl ?_
    refine r_alen X dJ7_copyOf_59c91_23 (by assumption) (by decide) rfl ?_
    refine r_iload_n X dJ7_copyOf_59c91_24 rfl rfl ?_
    refine r_mmin X dJ7_copyOf_59c91_25 mmJ7_304 (Nat.le_of_ble_eq_true rfl) (Nat.le_of_ble_eq_true rfl) (Nat.le_of_ble_eq_true rfl) (by show 0 + k ≤ k; omega) ?_
    refine r_topi (nI n) (by rw [iMin_nI (by omega) (by omega), Nat.min_eq_left (by omega)]) ?_
    refine r_copyI X dJ7_copyOf_59c91_28 mmJ7_150 (by assumption) (by assumption) (by omega) (by omega) (by omega) (by omega) (Nat.le_of_ble_eq_true rfl) (Nat.le_of_ble_eq_true rfl) ?_
    refine r_aload_n X dJ7_copyOf_59c91_31 rfl rfl ?_
    refine r_areturn X dJ7_copyOf_59c91_32 (Or.inr ⟨_, rfl⟩) (Nat.le_of_ble_eq_true rfl) (by show 0 + k ≤ k; omega) ?_
    exact ⟨rfl, rfl⟩
    skip
  · skip
    omega
def tTold (I : Mem) (t r l gm : Nat) (s : Int32) : Int32 := if I t 8 = 0 ∨ gHide I (t + 5) gm s = true then -1 else tWay I r t l
def rowMost (e : Nat) : Nat := 1999 / e + 1
def rowTell (I : Mem) (a t r l gm e s : Nat) : Mem := if s % e = 0 then up2 I a (s / e) (tTold I t r l gm (nI s)) else I
set_option maxHeartbeats 2000000 in
set_option maxRecDepth 20000 in
/-- SledHouse$SignRow.tell -/
theorem c_tell {E : Ev} (GE : Glob E) (S : Nat → Option (Nat × Nat)) (I : Nat → Nat → Int32) (V : Nat → Nat → Option Nat) (J : Nat → Nat → Int64) (N : Nat) (g a n t r l gm e s : Nat) (hW : RowSh S V g a n) (hT : TeamSh S V t) (hR : TrailSh S V r) (hl : I t 10 = nI l) (hl12 : l ≤ 12) (hgm : I (t + 5) 2 = nI gm) (hg4 : gm ≤ 4) (he : 0 < e) (he48 : e ≤ 48) (hs : s < 2000) (hfit : s % e = 0 → rowMost e ≤ n) : Ct E yX6_tell cX6_tell 7 none (rmL 2) [.ref g, .ref t, .ref r, .int (nI s), .int (nI e)] (S, I, V, J, N) (fun v w' => v = none ∧ w' = (S, rowTell I a t r l gm e s, V, J, N)) := by
  refine Ct.start GE (by decide) rfl (Nat.le_of_ble_eq_true rfl) (fun M X => ?_)
  have X : Cx E M RX6 cX6_tell 7 (rmL 2) none "tell" := X
  refine r_loc (L' := [some (.ref g), some (.ref t), some (.ref r), some (.int (nI s)), some (.int (nI e)), none, none]) rfl ?_
  have hT' := hT
  obtain ⟨hs0, hv0, hsa, hn⟩ := hW
  obtain ⟨ts0, tv0, tv1, tv2, tv3, tD, tG, ts8, ts9⟩ := hT
  have hG0 := tG.1
  have hse : s / e ≤ 1999 / e := Nat.div_le_div_right (by omega)
  have h1999 : 1999 / e ≤ 1999 := Nat.div_le_self _ _
  have H72 : s % e = 0 → s / e < n → ∀ (b : Bool) (x5 : Option Value), (b = true ↔ ¬ (I t 8 = 0 ∨ gHide I (t + 5) gm (nI s) = true)) → G E M 0 0 (qQ E M (rmL 2) (fun v w' => v = none ∧ w' = (S, rowTell I a t r l gm e s, V, J, N))) 70 [some (.ref g), some (.ref t), some (.ref r), some (.int (nI s)), some (.int (nI e)), some (.int (nI (rowMost e))), x5] [.int (bI b)] (S, I, V, J, N) := by
    intro hm hlt b x5 hb
    cases b with
    | false =>
      have hb' : I t 8 = 0 ∨ gHide I (t + 5) gm (nI s) = true := Classical.not_not.mp (fun q => absurd (hb.mpr q) (by decide))
      refine r_topi 0 rfl ?_
      refine r_istore X dX6_tell_70 (by decide) rfl ?_
      refine r_aload_n X dX6_tell_72 rfl rfl ?_
      refine r_getR X dX6_tell_73 fX6_9 (by assumption) (by assumption) ?_
      refine r_iload_n X dX6_tell_76 rfl rfl ?_
      refine r_iload X dX6_tell_77 rfl ?_
      refine r_idiv X dX6_tell_79 (nI_ne0 he (by omega)) ?_
      refine r_topi (nI (s / e)) (pk_div (by omega) he (by omega)) ?_
      refine r_iload X dX6_tell_80 rfl ?_
      refine r_if_eq (tgt := 93) X dX6_tell_82 (by decide) (fun h82 => ?_) (fun h82 => ?_)
      · skip
        refine r_iconst (v := -1) X dX6_tell_93 (by decide) ?_
        refine r_iastN X dX6_tell_94 (by assumption) (by omega) (by omega) ?_
        refine r_return X dX6_tell_95 (by first | omega | decide) (by first | omega | decide) ?_
        exact ⟨rfl, by rw [rowTell, if_pos hm, tTold, if_pos hb']⟩
      · skip
        exact absurd rfl h82
    | true =>
      have hb' := hb.mp rfl
      refine r_topi 1 rfl ?_
      refine r_istore X dX6_tell_70 (by decide) rfl ?_
      refine r_aload_n X dX6_tell_72 rfl rfl ?_
      refine r_getR X dX6_tell_73 fX6_9 (by assumption) (by assumption) ?_
      refine r_iload_n X dX6_tell_76 rfl rfl ?_
      refine r_iload X dX6_tell_77 rfl ?_
      refine r_idiv X dX6_tell_79 (nI_ne0 he (by omega)) ?_
      refine r_topi (nI (s / e)) (pk_div (by omega) he (by omega)) ?_
      refine r_iload X dX6_tell_80 rfl ?_
      refine r_if_eq (tgt := 93) X dX6_tell_82 (by decide) (fun h82 => ?_) (fun h82 => ?_)
      · skip
        exact absurd h82 (by decide)
      · skip
        refine r_aload_n X dX6_tell_85 rfl rfl ?_
        refine r_aload_n X dX6_tell_86 rfl rfl ?_
        refine q_callV X dX6_tell_87 mX6_37 cwX8_way (c_tWay GE S I V J N t r l hT' hR hl hl12) rfl (by assumption) rfl rfl rfl (Nat.le_of_ble_eq_true rfl) ⟨Nat.le_of_ble_eq_true rfl, Nat.le_of_ble_eq_true rfl⟩ ⟨by first | omega | decide, by first | omega | decide⟩ ?_
        rintro _ _ ⟨rfl, rfl⟩
        refine r_goto (tgt := 94) X dX6_tell_90 (by decide) ?_
        refine r_iastN X dX6_tell_94 (by assumption) (by omega) (by omega) ?_
        refine r_return X dX6_tell_95 (by first | omega | decide) (by first | omega | decide) ?_
        exact ⟨rfl, by rw [rowTell, if_pos hm, tTold, if_neg hb']⟩
  refine r_iload X dX6_tell_0 rfl ?_
  refine r_iconst (v := nI 1) X dX6_tell_2 (by decide) ?_
  refine r_icmpN_lt (tgt := 13) X dX6_tell_3 (by decide) (by omega) (by omega) (fun h3 => ?_) (fun h3 => ?_)
  · skip
    omega
  · skip
    refine r_iload_n X dX6_tell_6 rfl rfl ?_
    refine r_iload X dX6_tell_7 rfl ?_
    refine r_irem X dX6_tell_9 (nI_ne0 he (by omega)) ?_
    refine r_topi (nI (s % e)) (pk_rem (by omega) he (by omega)) ?_
    refine r_if_eq (tgt := 14) X dX6_tell_10 (by decide) (fun h10 => ?_) (fun h10 => ?_)
    · skip
      have hm : s % e = 0 := (nI_eq (by have := Nat.mod_lt s he; omega) (by decide)).mp h10
      have hfit2 := hfit hm
      have hlt : s / e < n := by unfold rowMost at hfit2; omega
      refine r_sipush (v := nI 1999) X dX6_tell_14 (by decide) ?_
      refine r_iload X dX6_tell_17 rfl ?_
      refine r_idiv X dX6_tell_19 (nI_ne0 he (by omega)) ?_
      refine r_topi (nI (1999 / e)) (pk_div (by decide) he (by omega)) ?_
      refine r_iconst (v := 1) X dX6_tell_20 (by decide) ?_
      refine r_iadd X dX6_tell_21 ?_
      refine r_topi (nI (rowMost e)) (nI_1 _) ?_
      refine r_istore X dX6_tell_22 (by decide) rfl ?_
      refine r_aload_n X dX6_tell_24 rfl rfl ?_
      refine r_getR X dX6_tell_25 fX6_9 (by assumption) (by assumption) ?_
      refine r_alen X dX6_tell_28 (by assumption) (by decide) rfl ?_
      refine r_iload X dX6_tell_29 rfl ?_
      refine r_icmpN_ge (tgt := 47) X dX6_tell_31 (by decide) (by omega) (by unfold rowMost; omega) (fun h31 => ?_) (fun h31 => ?_)
      · skip
        refine r_aload_n X dX6_tell_47 rfl rfl ?_
        refine r_getI X dX6_tell_48 fX6_21 (by assumption) (by first | assumption | rfl) ?_
        refine r_if_eq (tgt := 69) X dX6_tell_51 (by decide) (fun h51 => ?_) (fun h51 => ?_)
        · skip
          refine r_iconst (v := nI 0) X dX6_tell_69 (by decide) ?_
          first | exact H72 hm hlt true none ⟨fun _ q => q.elim (fun z => h51 z) (fun z => by rw [z] at h62; exact absurd h62 (by decide)), fun _ => rfl⟩ | exact H72 hm hlt false none ⟨fun q => absurd q (by decide), fun q => absurd (Or.inl h51) q⟩ | exact H72 hm hlt false none ⟨fun q => absurd q (by decide), fun q => absurd (Or.inr (bI_1 h62)) q⟩
        · skip
          refine r_aload_n X dX6_tell_54 rfl rfl ?_
          refine r_getR X dX6_tell_55 fX6_27 (by assumption) (by assumption) ?_
          refine r_iload_n X dX6_tell_58 rfl rfl ?_
          refine q_callV X dX6_tell_59 mX6_31 cwX1_hide (c_gHide GE S I V J N (t + 5) gm _ tG hgm hg4) rfl (by assumption) rfl rfl rfl (Nat.le_of_ble_eq_true rfl) ⟨Nat.le_of_ble_eq_true rfl, Nat.le_of_ble_eq_true rfl⟩ ⟨by first | omega | decide, by first | omega | decide⟩ ?_
          rintro _ _ ⟨rfl, rfl⟩
          refine r_if_ne (tgt := 69) X dX6_tell_62 (by decide) (fun h62 => ?_) (fun h62 => ?_)
          · skip
            refine r_iconst (v := nI 0) X dX6_tell_69 (by decide) ?_
            first | exact H72 hm hlt true none ⟨fun _ q => q.elim (fun z => h51 z) (fun z => by rw [z] at h62; exact absurd h62 (by decide)), fun _ => rfl⟩ | exact H72 hm hlt false none ⟨fun q => absurd q (by decide), fun q => absurd (Or.inl h51) q⟩ | exact H72 hm hlt false none ⟨fun q => absurd q (by decide), fun q => absurd (Or.inr (bI_1 h62)) q⟩
          · skip
            refine r_iconst (v := 1) X dX6_tell_65 (by decide) ?_
            refine r_goto (tgt := 70) X dX6_tell_66 (by decide) ?_
            first | exact H72 hm hlt true none ⟨fun _ q => q.elim (fun z => h51 z) (fun z => by rw [z] at h62; exact absurd h62 (by decide)), fun _ => rfl⟩ | exact H72 hm hlt false none ⟨fun q => absurd q (by decide), fun q => absurd (Or.inl h51) q⟩ | exact H72 hm hlt false none ⟨fun q => absurd q (by decide), fun q => absurd (Or.inr (bI_1 h62)) q⟩
      · skip
        omega
    · skip
      refine r_return X dX6_tell_13 (by first | omega | decide) (by first | omega | decide) ?_
      refine ⟨rfl, by rw [rowTell, if_neg (fun q => h10 (by rw [q]; rfl))]⟩
