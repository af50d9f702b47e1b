/-! ===== the reference: next, its walk ===== -/
def mNx (B : Nat → Int32) (e p : Nat) : Nat := if tkK0 B e p = 6 then tkAt B e p else tkNx B e p
def mSo (k : Int32) : Int32 := if k = 0 then 1 else if k = 1 then 2 else if k = 2 then 3 else if k = 6 then 0 else 4
def mSi (k : Int32) : Int32 := if k = 3 then 60 else if k = 4 then 62 else if k = 5 then 59 else 0
def mNu (B : Nat → Int32) (e p : Nat) (old : Int32) : Int32 := if tkK0 B e p = 2 then tkVal B (tkAt B e p) (min 4 (tkNx B e p - tkAt B e p)) else old
def mNxI (I : Mem) (g e p : Nat) : Mem := setN I g (nI (mNx (I (g + 20)) e p)) (mSo (tkKd (I (g + 20)) e p)) (nI (tkAt (I (g + 20)) e p)) (mSi (tkK0 (I (g + 20)) e p)) (mNu (I (g + 20)) e p (I g 29))
def mNxJ (I : Mem) (J : Nat → Nat → Int64) (g e p : Nat) : Nat → Nat → Int64 := if tkK0 (I (g + 20)) e p = 1 then up2 J g 30 (wTo (I (g + 20)) (tkAt (I (g + 20)) e p) (min 8 (tkNx (I (g + 20)) e p - tkAt (I (g + 20)) e p))) else J
theorem mByte_set {I : Mem} {g e k : Nat} {a so pl si nu : Int32} : mByte (setN I g a so pl si nu) g e k = mByte I g e k := by
  unfold mByte
  rw [setN_o (by omega)]
set_option maxHeartbeats 2000000 in
set_option maxRecDepth 20000 in
/-- SledHouseModel.next -/
theorem c_mNext {E : Ev} (GE : Glob E) (S : Nat → Option (Nat × Nat)) (I : Nat → Nat → Int32) (V : Nat → Nat → Option Nat) (J : Nat → Nat → Int64) (N : Nat) (g e p : Nat) (hs0 : S g = some (12, 0)) (hR : MrSh S V g) (he : I g 24 = nI e) (he4 : e ≤ 400) (hp : I g 25 = nI p) (hpe : p ≤ e) (hB : ∀ k, k < 400 → ByOK (I (g + 20) k)) : Ct E yX13_next cX13_next 3 none (rmL 1) [.ref g] (S, I, V, J, N) (fun v w' => v = none ∧ w' = (S, mNxI I g e p, V, mNxJ I J g e p, N)) := by
  refine Ct.start GE (by decide) rfl (Nat.le_of_ble_eq_true rfl) (fun M X => ?_)
  have X : Cx E M RX13 cX13_next 3 (rmL 1) none "next" := X
  refine r_loc (L' := [some (.ref g), none, none]) rfl ?_
  generalize hZI : mNxI I g e p = ZI
  generalize hZJ : mNxJ I J g e p = ZJ
  rw [mNxI] at hZI
  rw [mNxJ] at hZJ
  have hE : ∀ (a so pl si nu : Int32), setN I g a so pl si nu g 24 = nI e := fun a so pl si nu => (setN_o (by omega)).trans he
  have hq0 := tkAt_ge (I (g + 20)) e p
  have hq1 := tkAt_le (I (g + 20)) hpe
  have hat : tkAt (I (g + 20)) e p = span (fun k => decide (tkKind (I (g + 20) k) = 7)) p (e - p) := rfl
  have hk0 : tkK0 (I (g + 20)) e p = if tkAt (I (g + 20)) e p < e then tkKind (I (g + 20) (tkAt (I (g + 20)) e p)) else 0 := rfl
  have hnx : tkNx (I (g + 20)) e p = if tkK0 (I (g + 20)) e p = 1 ∨ tkK0 (I (g + 20)) e p = 2 then tkRun (I (g + 20)) e (tkAt (I (g + 20)) e p) (tkK0 (I (g + 20)) e p) else if tkAt (I (g + 20)) e p < e then tkAt (I (g + 20)) e p + 1 else tkAt (I (g + 20)) e p := rfl
  have hkd : tkKd (I (g + 20)) e p = if tkK0 (I (g + 20)) e p = 1 then (if tkNx (I (g + 20)) e p - tkAt (I (g + 20)) e p ≤ 8 then 1 else 6) else if tkK0 (I (g + 20)) e p = 2 then (if tkNx (I (g + 20)) e p - tkAt (I (g + 20)) e p ≤ 4 then 2 else 6) else tkK0 (I (g + 20)) e p := rfl
  rw [mNx, mNu] at hZI
  generalize tkAt (I (g + 20)) e p = q at *
  generalize tkK0 (I (g + 20)) e p = k0 at *
  generalize tkNx (I (g + 20)) e p = nx at *
  generalize tkKd (I (g + 20)) e p = kd at *
  have H39 : (q < e → ¬ tkKind (I (g + 20) q) = 7) → G E M 0 0 (qQ E M (rmL 1) (fun v w' => v = none ∧ w' = (S, ZI, V, ZJ, N))) 39 [some (.ref g), none, none] [] (S, setN I g (nI q) (I g 26) (I g 27) (I g 28) (I g 29), V, J, N) := by
    intro hno7
    have g1 := setN_g I g (nI q) (I g 26) (I g 27) (I g 28) (I g 29)
    have g2 := setN_g I g (nI q) 0 (nI q) 0 (I g 29)
    rcases Nat.lt_or_ge q e with hqe | hqe
    · rw [if_pos hqe] at hk0
      have hno7 := hno7 hqe
      obtain ⟨n, n1, n2, n7, nk1, nk2, nk3, nk4, nk5, nal, n128⟩ := by_kinds (hB q (by omega))
      have hc : mByte I g e q = nI n := by rw [mByte, if_pos hqe]; exact n2
      rw [← hk0] at n7 nk1 nk2 nk3 nk4 nk5 nal hno7
      have HL : k0 = 1 → ∀ j, j ≤ e → q ≤ j → span (fun i => decide (tkKind (I (g + 20) i) = 1)) j (e - j) = nx → G E M 0 0 (qQ E M (rmL 1) (fun v w' => v = none ∧ w' = (S, ZI, V, ZJ, N))) 93 [some (.ref g), some (.int (nI n)), some (.int (nI (j - q)))] [] (S, setN I g (nI j) 0 (nI q) 0 (I g 29), V, up2 J g 30 (wTo (I (g + 20)) q (min 8 (j - q))), N) := by
        intro h1
        refine loopN e (fun j hj ih => ?_)
        intro hqj hsp
        have g3 := setN_g I g (nI j) 0 (nI q) 0 (I g 29)
        rcases Nat.lt_or_ge j e with hje | hje
        · obtain ⟨m, m1, m2, m7, mk1, mk2, mk3, mk4, mk5, mal, m128⟩ := by_kinds (hB j (by omega))
          have hcm : mByte I g e j = nI m := by rw [mByte, if_pos hje]; exact m2
          refine r_aload_n X dX13_next_93 rfl rfl ?_
          refine r_aload_n X dX13_next_94 rfl rfl ?_
          refine r_getI X dX13_next_95 fX13_153 (by assumption) g3.1 ?_
          refine q_callV X dX13_next_98 mX13_156 cwX13_byteAt (c_mByte GE S _ V _ N g e j hs0 hR (hE _ _ _ _ _) he4 (by omega)) rfl (by assumption) rfl rfl rfl (Nat.le_of_ble_eq_true rfl) ⟨Nat.le_of_ble_eq_true rfl, Nat.le_of_ble_eq_true rfl⟩ ⟨(by first | omega | decide | (simp only [rmL, rmA]; omega)), (by first | omega | decide | (simp only [rmL, rmA]; omega))⟩ ?_
          rintro _ _ ⟨rfl, rfl⟩
          refine r_topi (nI m) (mByte_set.trans hcm) ?_
          refine q_callS X dX13_next_101 mX13_165 cwX13_isLetter (c_mLetter GE _ _) rfl rfl (Nat.le_of_ble_eq_true rfl) ⟨Nat.le_of_ble_eq_true rfl, Nat.le_of_ble_eq_true rfl⟩ ⟨(by first | omega | decide | (simp only [rmL, rmA]; omega)), (by first | omega | decide | (simp only [rmL, rmA]; omega))⟩ ?_
          rintro _ _ ⟨rfl, rfl⟩
          refine r_if_eq (tgt := 156) X dX13_next_104 (by decide) (fun h104 => ?_) (fun h104 => ?_)
          · skip
            refine r_iload_n X dX13_next_156 rfl rfl ?_
            refine r_bipush (v := nI 9) X dX13_next_157 (by decide) ?_
            refine r_icmpN_ge (tgt := 291) X dX13_next_159 (by decide) (by omega) (by omega) (fun h159 => ?_) (fun h159 => ?_)
            · skip
              refine r_return X dX13_next_291 (by first | omega | decide | (simp only [rmL, rmA]; omega)) (by first | omega | decide | (simp only [rmL, rmA]; omega)) ?_
              have hl : ¬ tkKind (I (g + 20) j) = 1 := fun z => absurd ((inB_N (n := m) (a := 97) (b := 122) (by omega) (by decide) (by decide)).mpr (mk1.mp z)) (by rw [show inB (nI m) (nI 97) (nI 122) = false from bI_0 h104]; decide)
              have hjn : j = nx := by rw [← hsp, span_stop (fun _ => decide_eq_false hl)]
              refine ⟨rfl, ?_⟩
              rw [← hZI, ← hZJ, if_neg (by rw [h1]; decide), if_neg (by rw [h1]; decide), if_pos h1, hkd, if_pos h1, ← hjn, h1]
              first
                | (rw [if_pos (by omega), setN_26]; rfl)
                | (rw [if_neg (by omega)]; rfl)
            · skip
              refine r_aload_n X dX13_next_162 rfl rfl ?_
              refine r_iconst (v := 2) X dX13_next_163 (by decide) ?_
              refine r_putI X dX13_next_164 fX13_159 wX13_159 (by assumption) rfl rfl ?_
              refine r_goto (tgt := 291) X dX13_next_167 (by decide) ?_
              refine r_return X dX13_next_291 (by first | omega | decide | (simp only [rmL, rmA]; omega)) (by first | omega | decide | (simp only [rmL, rmA]; omega)) ?_
              have hl : ¬ tkKind (I (g + 20) j) = 1 := fun z => absurd ((inB_N (n := m) (a := 97) (b := 122) (by omega) (by decide) (by decide)).mpr (mk1.mp z)) (by rw [show inB (nI m) (nI 97) (nI 122) = false from bI_0 h104]; decide)
              have hjn : j = nx := by rw [← hsp, span_stop (fun _ => decide_eq_false hl)]
              refine ⟨rfl, ?_⟩
              rw [← hZI, ← hZJ, if_neg (by rw [h1]; decide), if_neg (by rw [h1]; decide), if_pos h1, hkd, if_pos h1, ← hjn, h1]
              first
                | (rw [if_pos (by omega), setN_26]; rfl)
                | (rw [if_neg (by omega)]; rfl)
          · skip
            refine r_iload_n X dX13_next_107 rfl rfl ?_
            refine r_bipush (v := nI 8) X dX13_next_108 (by decide) ?_
            refine r_icmpN_ge (tgt := 140) X dX13_next_110 (by decide) (by omega) (by omega) (fun h110 => ?_) (fun h110 => ?_)
            · skip
              first | refine r_iincN X dX13_next_140 rfl (by decide) rfl ?_ | refine r_iinc X dX13_next_140 rfl rfl (by decide) rfl ?_
              refine r_aload_n X dX13_next_143 rfl rfl ?_
              refine r_dup X dX13_next_144 rfl ?_
              refine r_getI X dX13_next_145 fX13_153 (by assumption) g3.1 ?_
              refine r_iconst (v := 1) X dX13_next_148 (by decide) ?_
              refine r_iadd X dX13_next_149 ?_
              refine r_topi (nI (j + 1)) (nI_1 j) ?_
              refine r_putI X dX13_next_150 fX13_153 wX13_153 (by assumption) rfl rfl ?_
              refine r_goto (tgt := 93) X dX13_next_153 (by decide) ?_
              have hl := (inB_N (n := m) (a := 97) (b := 122) (by omega) (by decide) (by decide)).mp (bI_1 h104)
              have hkj := mk1.mpr hl
              have hxm := m128 (by omega)
              refine r_loc (L' := [some (.ref g), some (.int (nI n)), some (.int (nI (j + 1 - q)))]) (by rw [show j + 1 - q = j - q + 1 by omega]; rfl) ?_
              have ihj := ih hje (by omega) ((span_step (P := fun i => decide (tkKind (I (g + 20) i) = 1)) hje (decide_eq_true hkj)).symm.trans hsp)
              first
                | (have h8 : j - q < 8 := by omega
                   exact r_world (by rw [setN_25, up2J, show min 8 (j + 1 - q) = min 8 (j - q) + 1 by omega, wTo, show q + min 8 (j - q) = j by omega, hxm]) ihj)
                | exact r_world (by rw [setN_25, show min 8 (j + 1 - q) = min 8 (j - q) by omega]) ihj
            · skip
              refine r_aload_n X dX13_next_113 rfl rfl ?_
              refine r_ldc2 X dX13_next_114 qX13_147 ?_
              refine r_aload_n X dX13_next_117 rfl rfl ?_
              refine r_getJ X dX13_next_118 fX13_168 (by assumption) (up2_same _ _ _ _) ?_
              refine r_lmul X dX13_next_121 ?_
              refine r_aload_n X dX13_next_122 rfl rfl ?_
              refine r_aload_n X dX13_next_123 rfl rfl ?_
              refine r_getI X dX13_next_124 fX13_153 (by assumption) g3.1 ?_
              refine q_callV X dX13_next_127 mX13_156 cwX13_byteAt (c_mByte GE S _ V _ N g e j hs0 hR (hE _ _ _ _ _) he4 (by omega)) rfl (by assumption) rfl rfl rfl (Nat.le_of_ble_eq_true rfl) ⟨Nat.le_of_ble_eq_true rfl, Nat.le_of_ble_eq_true rfl⟩ ⟨(by first | omega | decide | (simp only [rmL, rmA]; omega)), (by first | omega | decide | (simp only [rmL, rmA]; omega))⟩ ?_
              rintro _ _ ⟨rfl, rfl⟩
              refine r_topi (nI m) (mByte_set.trans hcm) ?_
              refine r_bipush (v := 97) X dX13_next_130 (by decide) ?_
              refine r_isub X dX13_next_132 ?_
              refine r_iconst (v := 1) X dX13_next_133 (by decide) ?_
              refine r_iadd X dX13_next_134 ?_
              refine r_i2l X dX13_next_135 ?_
              refine r_ladd X dX13_next_136 ?_
              refine r_putJ X dX13_next_137 fX13_168 wX13_168 (by assumption) rfl rfl ?_
              first | refine r_iincN X dX13_next_140 rfl (by decide) rfl ?_ | refine r_iinc X dX13_next_140 rfl rfl (by decide) rfl ?_
              refine r_aload_n X dX13_next_143 rfl rfl ?_
              refine r_dup X dX13_next_144 rfl ?_
              refine r_getI X dX13_next_145 fX13_153 (by assumption) g3.1 ?_
              refine r_iconst (v := 1) X dX13_next_148 (by decide) ?_
              refine r_iadd X dX13_next_149 ?_
              refine r_topi (nI (j + 1)) (nI_1 j) ?_
              refine r_putI X dX13_next_150 fX13_153 wX13_153 (by assumption) rfl rfl ?_
              refine r_goto (tgt := 93) X dX13_next_153 (by decide) ?_
              have hl := (inB_N (n := m) (a := 97) (b := 122) (by omega) (by decide) (by decide)).mp (bI_1 h104)
              have hkj := mk1.mpr hl
              have hxm := m128 (by omega)
              refine r_loc (L' := [some (.ref g), some (.int (nI n)), some (.int (nI (j + 1 - q)))]) (by rw [show j + 1 - q = j - q + 1 by omega]; rfl) ?_
              have ihj := ih hje (by omega) ((span_step (P := fun i => decide (tkKind (I (g + 20) i) = 1)) hje (decide_eq_true hkj)).symm.trans hsp)
              first
                | (have h8 : j - q < 8 := by omega
                   exact r_world (by rw [setN_25, up2J, show min 8 (j + 1 - q) = min 8 (j - q) + 1 by omega, wTo, show q + min 8 (j - q) = j by omega, hxm]) ihj)
                | exact r_world (by rw [setN_25, show min 8 (j + 1 - q) = min 8 (j - q) by omega]) ihj
        · obtain rfl : j = e := by omega
          have hcm : mByte I g j j = -1 := by rw [mByte, if_neg (by omega)]
          have hjn : j = nx := by rw [← hsp, Nat.sub_self, span]
          refine r_aload_n X dX13_next_93 rfl rfl ?_
          refine r_aload_n X dX13_next_94 rfl rfl ?_
          refine r_getI X dX13_next_95 fX13_153 (by assumption) g3.1 ?_
          refine q_callV X dX13_next_98 mX13_156 cwX13_byteAt (c_mByte GE S _ V _ N g j j hs0 hR (hE _ _ _ _ _) he4 (by omega)) rfl (by assumption) rfl rfl rfl (Nat.le_of_ble_eq_true rfl) ⟨Nat.le_of_ble_eq_true rfl, Nat.le_of_ble_eq_true rfl⟩ ⟨(by first | omega | decide | (simp only [rmL, rmA]; omega)), (by first | omega | decide | (simp only [rmL, rmA]; omega))⟩ ?_
          rintro _ _ ⟨rfl, rfl⟩
          refine r_topi (-1) (mByte_set.trans hcm) ?_
          refine q_callS X dX13_next_101 mX13_165 cwX13_isLetter (c_mLetter GE _ _) rfl rfl (Nat.le_of_ble_eq_true rfl) ⟨Nat.le_of_ble_eq_true rfl, Nat.le_of_ble_eq_true rfl⟩ ⟨(by first | omega | decide | (simp only [rmL, rmA]; omega)), (by first | omega | decide | (simp only [rmL, rmA]; omega))⟩ ?_
          rintro _ _ ⟨rfl, rfl⟩
          refine r_if_eq (tgt := 156) X dX13_next_104 (by decide) (fun h104 => ?_) (fun h104 => ?_)
          · skip
            refine r_iload_n X dX13_next_156 rfl rfl ?_
            refine r_bipush (v := nI 9) X dX13_next_157 (by decide) ?_
            refine r_icmpN_ge (tgt := 291) X dX13_next_159 (by decide) (by omega) (by omega) (fun h159 => ?_) (fun h159 => ?_)
            · skip
              refine r_return X dX13_next_291 (by first | omega | decide | (simp only [rmL, rmA]; omega)) (by first | omega | decide | (simp only [rmL, rmA]; omega)) ?_
              refine ⟨rfl, ?_⟩
              rw [← hZI, ← hZJ, if_neg (by rw [h1]; decide), if_neg (by rw [h1]; decide), if_pos h1, hkd, if_pos h1, ← hjn, h1]
              first
                | (rw [if_pos (by omega), setN_26]; rfl)
                | (rw [if_neg (by omega)]; rfl)
            · skip
              refine r_aload_n X dX13_next_162 rfl rfl ?_
              refine r_iconst (v := 2) X dX13_next_163 (by decide) ?_
              refine r_putI X dX13_next_164 fX13_159 wX13_159 (by assumption) rfl rfl ?_
              refine r_goto (tgt := 291) X dX13_next_167 (by decide) ?_
              refine r_return X dX13_next_291 (by first | omega | decide | (simp only [rmL, rmA]; omega)) (by first | omega | decide | (simp only [rmL, rmA]; omega)) ?_
              refine ⟨rfl, ?_⟩
              rw [← hZI, ← hZJ, if_neg (by rw [h1]; decide), if_neg (by rw [h1]; decide), if_pos h1, hkd, if_pos h1, ← hjn, h1]
              first
                | (rw [if_pos (by omega), setN_26]; rfl)
                | (rw [if_neg (by omega)]; rfl)
          · skip
            exact absurd rfl h104
      have HD : k0 = 2 → ∀ j, j ≤ e → q ≤ j → span (fun i => decide (tkKind (I (g + 20) i) = 2)) j (e - j) = nx → G E M 0 0 (qQ E M (rmL 1) (fun v w' => v = none ∧ w' = (S, ZI, V, ZJ, N))) 182 [some (.ref g), some (.int (nI n)), some (.int (nI (j - q)))] [] (S, setN I g (nI j) 0 (nI q) 0 (tkVal (I (g + 20)) q (min 4 (j - q))), V, J, N) := by
        intro h1
        refine loopN e (fun j hj ih => ?_)
        intro hqj hsp
        have g3 := setN_g I g (nI j) 0 (nI q) 0 (tkVal (I (g + 20)) q (min 4 (j - q)))
        rcases Nat.lt_or_ge j e with hje | hje
        · obtain ⟨m, m1, m2, m7, mk1, mk2, mk3, mk4, mk5, mal, m128⟩ := by_kinds (hB j (by omega))
          have hcm : mByte I g e j = nI m := by rw [mByte, if_pos hje]; exact m2
          refine r_aload_n X dX13_next_182 rfl rfl ?_
          refine r_aload_n X dX13_next_183 rfl rfl ?_
          refine r_getI X dX13_next_184 fX13_153 (by assumption) g3.1 ?_
          refine q_callV X dX13_next_187 mX13_156 cwX13_byteAt (c_mByte GE S _ V _ N g e j hs0 hR (hE _ _ _ _ _) he4 (by omega)) rfl (by assumption) rfl rfl rfl (Nat.le_of_ble_eq_true rfl) ⟨Nat.le_of_ble_eq_true rfl, Nat.le_of_ble_eq_true rfl⟩ ⟨(by first | omega | decide | (simp only [rmL, rmA]; omega)), (by first | omega | decide | (simp only [rmL, rmA]; omega))⟩ ?_
          rintro _ _ ⟨rfl, rfl⟩
          refine r_topi (nI m) (mByte_set.trans hcm) ?_
          refine q_callS X dX13_next_190 mX13_172 cwX13_isDigit (c_mDigit GE _ _) rfl rfl (Nat.le_of_ble_eq_true rfl) ⟨Nat.le_of_ble_eq_true rfl, Nat.le_of_ble_eq_true rfl⟩ ⟨(by first | omega | decide | (simp only [rmL, rmA]; omega)), (by first | omega | decide | (simp only [rmL, rmA]; omega))⟩ ?_
          rintro _ _ ⟨rfl, rfl⟩
          refine r_if_eq (tgt := 240) X dX13_next_193 (by decide) (fun h193 => ?_) (fun h193 => ?_)
          · skip
            refine r_iload_n X dX13_next_240 rfl rfl ?_
            refine r_iconst (v := nI 5) X dX13_next_241 (by decide) ?_
            refine r_icmpN_ge (tgt := 291) X dX13_next_242 (by decide) (by omega) (by omega) (fun h242 => ?_) (fun h242 => ?_)
            · skip
              refine r_return X dX13_next_291 (by first | omega | decide | (simp only [rmL, rmA]; omega)) (by first | omega | decide | (simp only [rmL, rmA]; omega)) ?_
              have hl : ¬ tkKind (I (g + 20) j) = 2 := fun z => absurd ((inB_N (n := m) (a := 48) (b := 57) (by omega) (by decide) (by decide)).mpr (mk2.mp z)) (by rw [show inB (nI m) (nI 48) (nI 57) = false from bI_0 h193]; decide)
              have hjn : j = nx := by rw [← hsp, span_stop (fun _ => decide_eq_false hl)]
              refine ⟨rfl, ?_⟩
              rw [← hZI, ← hZJ, if_neg (by rw [h1]; decide), if_pos h1, if_neg (by rw [h1]; decide), hkd, if_neg (by rw [h1]; decide), if_pos h1, ← hjn, h1]
              first
                | (rw [if_pos (by omega), setN_26]; rfl)
                | (rw [if_neg (by omega)]; rfl)
            · skip
              refine r_aload_n X dX13_next_245 rfl rfl ?_
              refine r_iconst (v := 3) X dX13_next_246 (by decide) ?_
              refine r_putI X dX13_next_247 fX13_159 wX13_159 (by assumption) rfl rfl ?_
              refine r_goto (tgt := 291) X dX13_next_250 (by decide) ?_
              refine r_return X dX13_next_291 (by first | omega | decide | (simp only [rmL, rmA]; omega)) (by first | omega | decide | (simp only [rmL, rmA]; omega)) ?_
              have hl : ¬ tkKind (I (g + 20) j) = 2 := fun z => absurd ((inB_N (n := m) (a := 48) (b := 57) (by omega) (by decide) (by decide)).mpr (mk2.mp z)) (by rw [show inB (nI m) (nI 48) (nI 57) = false from bI_0 h193]; decide)
              have hjn : j = nx := by rw [← hsp, span_stop (fun _ => decide_eq_false hl)]
              refine ⟨rfl, ?_⟩
              rw [← hZI, ← hZJ, if_neg (by rw [h1]; decide), if_pos h1, if_neg (by rw [h1]; decide), hkd, if_neg (by rw [h1]; decide), if_pos h1, ← hjn, h1]
              first
                | (rw [if_pos (by omega), setN_26]; rfl)
                | (rw [if_neg (by omega)]; rfl)
          · skip
            refine r_iload_n X dX13_next_196 rfl rfl ?_
            refine r_iconst (v := nI 4) X dX13_next_197 (by decide) ?_
            refine r_icmpN_ge (tgt := 224) X dX13_next_198 (by decide) (by omega) (by omega) (fun h198 => ?_) (fun h198 => ?_)
            · skip
              have g4 : ∀ x, setN I g (nI j) 0 (nI q) 0 x g 25 = nI j := fun x => (setN_g I g (nI j) 0 (nI q) 0 x).1
              first | refine r_iincN X dX13_next_224 rfl (by decide) rfl ?_ | refine r_iinc X dX13_next_224 rfl rfl (by decide) rfl ?_
              refine r_aload_n X dX13_next_227 rfl rfl ?_
              refine r_dup X dX13_next_228 rfl ?_
              refine r_getI X dX13_next_229 fX13_153 (by assumption) (g4 _) ?_
              refine r_iconst (v := 1) X dX13_next_232 (by decide) ?_
              refine r_iadd X dX13_next_233 ?_
              refine r_topi (nI (j + 1)) (nI_1 j) ?_
              refine r_putI X dX13_next_234 fX13_153 wX13_153 (by assumption) rfl rfl ?_
              refine r_goto (tgt := 182) X dX13_next_237 (by decide) ?_
              have hl := (inB_N (n := m) (a := 48) (b := 57) (by omega) (by decide) (by decide)).mp (bI_1 h193)
              have hkj := mk2.mpr hl
              have hxm := m128 (by omega)
              refine r_loc (L' := [some (.ref g), some (.int (nI n)), some (.int (nI (j + 1 - q)))]) (by rw [show j + 1 - q = j - q + 1 by omega]; rfl) ?_
              have ihj := ih hje (by omega) ((span_step (P := fun i => decide (tkKind (I (g + 20) i) = 2)) hje (decide_eq_true hkj)).symm.trans hsp)
              first
                | (have h8 : j - q < 4 := by omega
                   have eV : ∀ a b : Int32, 10 * a + b - 48 = a * 10 + (b - 48) := fun a b => by grind
                   exact r_world (by rw [setN_25, eV, show min 4 (j + 1 - q) = min 4 (j - q) + 1 by omega, tkVal, show q + min 4 (j - q) = j by omega, hxm]) ihj)
                | exact r_world (by rw [setN_25, show min 4 (j + 1 - q) = min 4 (j - q) by omega]) ihj
            · skip
              refine r_aload_n X dX13_next_201 rfl rfl ?_
              refine r_bipush (v := 10) X dX13_next_202 (by decide) ?_
              refine r_aload_n X dX13_next_204 rfl rfl ?_
              refine r_getI X dX13_next_205 fX13_175 (by assumption) g3.2.2.2.2 ?_
              refine r_imul X dX13_next_208 ?_
              refine r_aload_n X dX13_next_209 rfl rfl ?_
              refine r_aload_n X dX13_next_210 rfl rfl ?_
              refine r_getI X dX13_next_211 fX13_153 (by assumption) g3.1 ?_
              refine q_callV X dX13_next_214 mX13_156 cwX13_byteAt (c_mByte GE S _ V _ N g e j hs0 hR (hE _ _ _ _ _) he4 (by omega)) rfl (by assumption) rfl rfl rfl (Nat.le_of_ble_eq_true rfl) ⟨Nat.le_of_ble_eq_true rfl, Nat.le_of_ble_eq_true rfl⟩ ⟨(by first | omega | decide | (simp only [rmL, rmA]; omega)), (by first | omega | decide | (simp only [rmL, rmA]; omega))⟩ ?_
              rintro _ _ ⟨rfl, rfl⟩
              refine r_topi (nI m) (mByte_set.trans hcm) ?_
              refine r_iadd X dX13_next_217 ?_
              refine r_bipush (v := 48) X dX13_next_218 (by decide) ?_
              refine r_isub X dX13_next_220 ?_
              refine r_putI X dX13_next_221 fX13_175 wX13_175 (by assumption) rfl rfl ?_
              rw [setN_29]
              have g4 : ∀ x, setN I g (nI j) 0 (nI q) 0 x g 25 = nI j := fun x => (setN_g I g (nI j) 0 (nI q) 0 x).1
              first | refine r_iincN X dX13_next_224 rfl (by decide) rfl ?_ | refine r_iinc X dX13_next_224 rfl rfl (by decide) rfl ?_
              refine r_aload_n X dX13_next_227 rfl rfl ?_
              refine r_dup X dX13_next_228 rfl ?_
              refine r_getI X dX13_next_229 fX13_153 (by assumption) (g4 _) ?_
              refine r_iconst (v := 1) X dX13_next_232 (by decide) ?_
              refine r_iadd X dX13_next_233 ?_
              refine r_topi (nI (j + 1)) (nI_1 j) ?_
              refine r_putI X dX13_next_234 fX13_153 wX13_153 (by assumption) rfl rfl ?_
              refine r_goto (tgt := 182) X dX13_next_237 (by decide) ?_
              have hl := (inB_N (n := m) (a := 48) (b := 57) (by omega) (by decide) (by decide)).mp (bI_1 h193)
              have hkj := mk2.mpr hl
              have hxm := m128 (by omega)
              refine r_loc (L' := [some (.ref g), some (.int (nI n)), some (.int (nI (j + 1 - q)))]) (by rw [show j + 1 - q = j - q + 1 by omega]; rfl) ?_
              have ihj := ih hje (by omega) ((span_step (P := fun i => decide (tkKind (I (g + 20) i) = 2)) hje (decide_eq_true hkj)).symm.trans hsp)
              first
                | (have h8 : j - q < 4 := by omega
                   have eV : ∀ a b : Int32, 10 * a + b - 48 = a * 10 + (b - 48) := fun a b => by grind
                   exact r_world (by rw [setN_25, eV, show min 4 (j + 1 - q) = min 4 (j - q) + 1 by omega, tkVal, show q + min 4 (j - q) = j by omega, hxm]) ihj)
                | exact r_world (by rw [setN_25, show min 4 (j + 1 - q) = min 4 (j - q) by omega]) ihj
        · obtain rfl : j = e := by omega
          have hcm : mByte I g j j = -1 := by rw [mByte, if_neg (by omega)]
          have hjn : j = nx := by rw [← hsp, Nat.sub_self, span]
          refine r_aload_n X dX13_next_182 rfl rfl ?_
          refine r_aload_n X dX13_next_183 rfl rfl ?_
          refine r_getI X dX13_next_184 fX13_153 (by assumption) g3.1 ?_
          refine q_callV X dX13_next_187 mX13_156 cwX13_byteAt (c_mByte GE S _ V _ N g j j hs0 hR (hE _ _ _ _ _) he4 (by omega)) rfl (by assumption) rfl rfl rfl (Nat.le_of_ble_eq_true rfl) ⟨Nat.le_of_ble_eq_true rfl, Nat.le_of_ble_eq_true rfl⟩ ⟨(by first | omega | decide | (simp only [rmL, rmA]; omega)), (by first | omega | decide | (simp only [rmL, rmA]; omega))⟩ ?_
          rintro _ _ ⟨rfl, rfl⟩
          refine r_topi (-1) (mByte_set.trans hcm) ?_
          refine q_callS X dX13_next_190 mX13_172 cwX13_isDigit (c_mDigit GE _ _) rfl rfl (Nat.le_of_ble_eq_true rfl) ⟨Nat.le_of_ble_eq_true rfl, Nat.le_of_ble_eq_true rfl⟩ ⟨(by first | omega | decide | (simp only [rmL, rmA]; omega)), (by first | omega | decide | (simp only [rmL, rmA]; omega))⟩ ?_
          rintro _ _ ⟨rfl, rfl⟩
          refine r_if_eq (tgt := 240) X dX13_next_193 (by decide) (fun h193 => ?_) (fun h193 => ?_)
          · skip
            refine r_iload_n X dX13_next_240 rfl rfl ?_
            refine r_iconst (v := nI 5) X dX13_next_241 (by decide) ?_
            refine r_icmpN_ge (tgt := 291) X dX13_next_242 (by decide) (by omega) (by omega) (fun h242 => ?_) (fun h242 => ?_)
            · skip
              refine r_return X dX13_next_291 (by first | omega | decide | (simp only [rmL, rmA]; omega)) (by first | omega | decide | (simp only [rmL, rmA]; omega)) ?_
              refine ⟨rfl, ?_⟩
              rw [← hZI, ← hZJ, if_neg (by rw [h1]; decide), if_pos h1, if_neg (by rw [h1]; decide), hkd, if_neg (by rw [h1]; decide), if_pos h1, ← hjn, h1]
              first
                | (rw [if_pos (by omega), setN_26]; rfl)
                | (rw [if_neg (by omega)]; rfl)
            · skip
              refine r_aload_n X dX13_next_245 rfl rfl ?_
              refine r_iconst (v := 3) X dX13_next_246 (by decide) ?_
              refine r_putI X dX13_next_247 fX13_159 wX13_159 (by assumption) rfl rfl ?_
              refine r_goto (tgt := 291) X dX13_next_250 (by decide) ?_
              refine r_return X dX13_next_291 (by first | omega | decide | (simp only [rmL, rmA]; omega)) (by first | omega | decide | (simp only [rmL, rmA]; omega)) ?_
              refine ⟨rfl, ?_⟩
              rw [← hZI, ← hZJ, if_neg (by rw [h1]; decide), if_pos h1, if_neg (by rw [h1]; decide), hkd, if_neg (by rw [h1]; decide), if_pos h1, ← hjn, h1]
              first
                | (rw [if_pos (by omega), setN_26]; rfl)
                | (rw [if_neg (by omega)]; rfl)
          · skip
            exact absurd rfl h193
      refine r_aload_n X dX13_next_39 rfl rfl ?_
      refine r_aload_n X dX13_next_40 rfl rfl ?_
      refine r_getI X dX13_next_41 fX13_153 (by assumption) g1.1 ?_
      refine r_putI X dX13_next_44 fX13_135 wX13_135 (by assumption) rfl rfl ?_
      rw [setN_27]
      refine r_aload_n X dX13_next_47 rfl rfl ?_
      refine r_iconst (v := 0) X dX13_next_48 (by decide) ?_
      refine r_putI X dX13_next_49 fX13_159 wX13_159 (by assumption) rfl rfl ?_
      rw [setN_26]
      refine r_aload_n X dX13_next_52 rfl rfl ?_
      refine r_iconst (v := 0) X dX13_next_53 (by decide) ?_
      refine r_putI X dX13_next_54 fX13_162 wX13_162 (by assumption) rfl rfl ?_
      rw [setN_28]
      refine r_aload_n X dX13_next_57 rfl rfl ?_
      refine r_aload_n X dX13_next_58 rfl rfl ?_
      refine r_getI X dX13_next_59 fX13_153 (by assumption) g2.1 ?_
      refine q_callV X dX13_next_62 mX13_156 cwX13_byteAt (c_mByte GE S _ V _ N g e q hs0 hR (hE _ _ _ _ _) he4 (by omega)) rfl (by assumption) rfl rfl rfl (Nat.le_of_ble_eq_true rfl) ⟨Nat.le_of_ble_eq_true rfl, Nat.le_of_ble_eq_true rfl⟩ ⟨(by first | omega | decide | (simp only [rmL, rmA]; omega)), (by first | omega | decide | (simp only [rmL, rmA]; omega))⟩ ?_
      rintro _ _ ⟨rfl, rfl⟩
      refine r_topi (nI n) (mByte_set.trans hc) ?_
      refine r_istore_n X dX13_next_65 rfl (by decide) rfl ?_
      refine r_iconst (v := nI 0) X dX13_next_66 (by decide) ?_
      refine r_istore_n X dX13_next_67 rfl (by decide) rfl ?_
      refine r_iload_n X dX13_next_68 rfl rfl ?_
      refine r_iconst (v := -1) X dX13_next_69 (by decide) ?_
      refine r_icmp_ne (tgt := 81) X dX13_next_70 (by decide) (fun h70 => ?_) (fun h70 => ?_)
      · skip
        refine r_iload_n X dX13_next_81 rfl rfl ?_
        refine q_callS X dX13_next_82 mX13_165 cwX13_isLetter (c_mLetter GE _ _) rfl rfl (Nat.le_of_ble_eq_true rfl) ⟨Nat.le_of_ble_eq_true rfl, Nat.le_of_ble_eq_true rfl⟩ ⟨(by first | omega | decide | (simp only [rmL, rmA]; omega)), (by first | omega | decide | (simp only [rmL, rmA]; omega))⟩ ?_
        rintro _ _ ⟨rfl, rfl⟩
        refine r_if_eq (tgt := 170) X dX13_next_85 (by decide) (fun h85 => ?_) (fun h85 => ?_)
        · skip
          refine r_iload_n X dX13_next_170 rfl rfl ?_
          refine q_callS X dX13_next_171 mX13_172 cwX13_isDigit (c_mDigit GE _ _) rfl rfl (Nat.le_of_ble_eq_true rfl) ⟨Nat.le_of_ble_eq_true rfl, Nat.le_of_ble_eq_true rfl⟩ ⟨(by first | omega | decide | (simp only [rmL, rmA]; omega)), (by first | omega | decide | (simp only [rmL, rmA]; omega))⟩ ?_
          rintro _ _ ⟨rfl, rfl⟩
          refine r_if_eq (tgt := 253) X dX13_next_174 (by decide) (fun h174 => ?_) (fun h174 => ?_)
          · skip
            refine r_iload_n X dX13_next_253 rfl rfl ?_
            refine r_bipush (v := nI 60) X dX13_next_254 (by decide) ?_
            refine r_icmpN_eq (tgt := 271) X dX13_next_256 (by decide) (by omega) (by omega) (fun h256 => ?_) (fun h256 => ?_)
            · skip
              refine r_aload_n X dX13_next_271 rfl rfl ?_
              refine r_iconst (v := 4) X dX13_next_272 (by decide) ?_
              refine r_putI X dX13_next_273 fX13_159 wX13_159 (by assumption) rfl rfl ?_
              rw [setN_26]
              refine r_aload_n X dX13_next_276 rfl rfl ?_
              refine r_iload_n X dX13_next_277 rfl rfl ?_
              refine r_putI X dX13_next_278 fX13_162 wX13_162 (by assumption) rfl rfl ?_
              rw [setN_28]
              have g5 : ∀ x y, setN I g (nI q) x (nI q) y (I g 29) g 25 = nI q := fun x y => (setN_g I g (nI q) x (nI q) y (I g 29)).1
              refine r_aload_n X dX13_next_281 rfl rfl ?_
              refine r_dup X dX13_next_282 rfl ?_
              refine r_getI X dX13_next_283 fX13_153 (by assumption) (g5 _ _) ?_
              refine r_iconst (v := 1) X dX13_next_286 (by decide) ?_
              refine r_iadd X dX13_next_287 ?_
              refine r_topi (nI (q + 1)) (nI_1 q) ?_
              refine r_putI X dX13_next_288 fX13_153 wX13_153 (by assumption) rfl rfl ?_
              refine r_return X dX13_next_291 (by first | omega | decide | (simp only [rmL, rmA]; omega)) (by first | omega | decide | (simp only [rmL, rmA]; omega)) ?_
              have hnl : ¬ k0 = 1 := fun z => absurd ((inB_N (n := n) (a := 97) (b := 122) (by omega) (by decide) (by decide)).mpr (nk1.mp z)) (by rw [show inB (nI n) (nI 97) (nI 122) = false from bI_0 h85]; decide)
              have hnd : ¬ k0 = 2 := fun z => absurd ((inB_N (n := n) (a := 48) (b := 57) (by omega) (by decide) (by decide)).mpr (nk2.mp z)) (by rw [show inB (nI n) (nI 48) (nI 57) = false from bI_0 h174]; decide)
              rw [if_neg (by intro z; rcases z with z | z; exact hnl z; exact hnd z), if_pos hqe] at hnx
              rw [if_neg hnl, if_neg hnd] at hkd
              refine ⟨rfl, ?_⟩
              rw [← hZI, ← hZJ, if_neg hnd, if_neg hnl, hkd, hnx]
              first
                | (have z1 : n = 60 := h256
                   have h3 := nk3.mpr z1
                   rw [setN_25, h3, z1, if_neg (by decide)]; rfl)
                | (have z1 : n = 62 := h262
                   have h3 := nk4.mpr z1
                   rw [setN_25, h3, z1, if_neg (by decide)]; rfl)
                | (have z1 : n = 59 := h268
                   have h3 := nk5.mpr z1
                   rw [setN_25, h3, z1, if_neg (by decide)]; rfl)
                | (have h6 : k0 = 6 := by
                     rcases nal with z | z | z | z | z | z | z
                     · exact absurd z hnl
                     · exact absurd z hnd
                     · exact absurd (nk3.mp z) h256
                     · exact absurd (nk4.mp z) h262
                     · exact absurd (nk5.mp z) h268
                     · exact z
                     · exact absurd z hno7
                   rw [h6, if_pos rfl]; rfl)
            · skip
              refine r_iload_n X dX13_next_259 rfl rfl ?_
              refine r_bipush (v := nI 62) X dX13_next_260 (by decide) ?_
              refine r_icmpN_eq (tgt := 271) X dX13_next_262 (by decide) (by omega) (by omega) (fun h262 => ?_) (fun h262 => ?_)
              · skip
                refine r_aload_n X dX13_next_271 rfl rfl ?_
                refine r_iconst (v := 4) X dX13_next_272 (by decide) ?_
                refine r_putI X dX13_next_273 fX13_159 wX13_159 (by assumption) rfl rfl ?_
                rw [setN_26]
                refine r_aload_n X dX13_next_276 rfl rfl ?_
                refine r_iload_n X dX13_next_277 rfl rfl ?_
                refine r_putI X dX13_next_278 fX13_162 wX13_162 (by assumption) rfl rfl ?_
                rw [setN_28]
                have g5 : ∀ x y, setN I g (nI q) x (nI q) y (I g 29) g 25 = nI q := fun x y => (setN_g I g (nI q) x (nI q) y (I g 29)).1
                refine r_aload_n X dX13_next_281 rfl rfl ?_
                refine r_dup X dX13_next_282 rfl ?_
                refine r_getI X dX13_next_283 fX13_153 (by assumption) (g5 _ _) ?_
                refine r_iconst (v := 1) X dX13_next_286 (by decide) ?_
                refine r_iadd X dX13_next_287 ?_
                refine r_topi (nI (q + 1)) (nI_1 q) ?_
                refine r_putI X dX13_next_288 fX13_153 wX13_153 (by assumption) rfl rfl ?_
                refine r_return X dX13_next_291 (by first | omega | decide | (simp only [rmL, rmA]; omega)) (by first | omega | decide | (simp only [rmL, rmA]; omega)) ?_
                have hnl : ¬ k0 = 1 := fun z => absurd ((inB_N (n := n) (a := 97) (b := 122) (by omega) (by decide) (by decide)).mpr (nk1.mp z)) (by rw [show inB (nI n) (nI 97) (nI 122) = false from bI_0 h85]; decide)
                have hnd : ¬ k0 = 2 := fun z => absurd ((inB_N (n := n) (a := 48) (b := 57) (by omega) (by decide) (by decide)).mpr (nk2.mp z)) (by rw [show inB (nI n) (nI 48) (nI 57) = false from bI_0 h174]; decide)
                rw [if_neg (by intro z; rcases z with z | z; exact hnl z; exact hnd z), if_pos hqe] at hnx
                rw [if_neg hnl, if_neg hnd] at hkd
                refine ⟨rfl, ?_⟩
                rw [← hZI, ← hZJ, if_neg hnd, if_neg hnl, hkd, hnx]
                first
                  | (have z1 : n = 60 := h256
                     have h3 := nk3.mpr z1
                     rw [setN_25, h3, z1, if_neg (by decide)]; rfl)
                  | (have z1 : n = 62 := h262
                     have h3 := nk4.mpr z1
                     rw [setN_25, h3, z1, if_neg (by decide)]; rfl)
                  | (have z1 : n = 59 := h268
                     have h3 := nk5.mpr z1
                     rw [setN_25, h3, z1, if_neg (by decide)]; rfl)
                  | (have h6 : k0 = 6 := by
                       rcases nal with z | z | z | z | z | z | z
                       · exact absurd z hnl
                       · exact absurd z hnd
                       · exact absurd (nk3.mp z) h256
                       · exact absurd (nk4.mp z) h262
                       · exact absurd (nk5.mp z) h268
                       · exact z
                       · exact absurd z hno7
                     rw [h6, if_pos rfl]; rfl)
              · skip
                refine r_iload_n X dX13_next_265 rfl rfl ?_
                refine r_bipush (v := nI 59) X dX13_next_266 (by decide) ?_
                refine r_icmpN_ne (tgt := 291) X dX13_next_268 (by decide) (by omega) (by omega) (fun h268 => ?_) (fun h268 => ?_)
                · skip
                  refine r_return X dX13_next_291 (by first | omega | decide | (simp only [rmL, rmA]; omega)) (by first | omega | decide | (simp only [rmL, rmA]; omega)) ?_
                  have hnl : ¬ k0 = 1 := fun z => absurd ((inB_N (n := n) (a := 97) (b := 122) (by omega) (by decide) (by decide)).mpr (nk1.mp z)) (by rw [show inB (nI n) (nI 97) (nI 122) = false from bI_0 h85]; decide)
                  have hnd : ¬ k0 = 2 := fun z => absurd ((inB_N (n := n) (a := 48) (b := 57) (by omega) (by decide) (by decide)).mpr (nk2.mp z)) (by rw [show inB (nI n) (nI 48) (nI 57) = false from bI_0 h174]; decide)
                  rw [if_neg (by intro z; rcases z with z | z; exact hnl z; exact hnd z), if_pos hqe] at hnx
                  rw [if_neg hnl, if_neg hnd] at hkd
                  refine ⟨rfl, ?_⟩
                  rw [← hZI, ← hZJ, if_neg hnd, if_neg hnl, hkd, hnx]
                  first
                    | (have z1 : n = 60 := h256
                       have h3 := nk3.mpr z1
                       rw [setN_25, h3, z1, if_neg (by decide)]; rfl)
                    | (have z1 : n = 62 := h262
                       have h3 := nk4.mpr z1
                       rw [setN_25, h3, z1, if_neg (by decide)]; rfl)
                    | (have z1 : n = 59 := h268
                       have h3 := nk5.mpr z1
                       rw [setN_25, h3, z1, if_neg (by decide)]; rfl)
                    | (have h6 : k0 = 6 := by
                         rcases nal with z | z | z | z | z | z | z
                         · exact absurd z hnl
                         · exact absurd z hnd
                         · exact absurd (nk3.mp z) h256
                         · exact absurd (nk4.mp z) h262
                         · exact absurd (nk5.mp z) h268
                         · exact z
                         · exact absurd z hno7
                       rw [h6, if_pos rfl]; rfl)
                · skip
                  refine r_aload_n X dX13_next_271 rfl rfl ?_
                  refine r_iconst (v := 4) X dX13_next_272 (by decide) ?_
                  refine r_putI X dX13_next_273 fX13_159 wX13_159 (by assumption) rfl rfl ?_
                  rw [setN_26]
                  refine r_aload_n X dX13_next_276 rfl rfl ?_
                  refine r_iload_n X dX13_next_277 rfl rfl ?_
                  refine r_putI X dX13_next_278 fX13_162 wX13_162 (by assumption) rfl rfl ?_
                  rw [setN_28]
                  have g5 : ∀ x y, setN I g (nI q) x (nI q) y (I g 29) g 25 = nI q := fun x y => (setN_g I g (nI q) x (nI q) y (I g 29)).1
                  refine r_aload_n X dX13_next_281 rfl rfl ?_
                  refine r_dup X dX13_next_282 rfl ?_
                  refine r_getI X dX13_next_283 fX13_153 (by assumption) (g5 _ _) ?_
                  refine r_iconst (v := 1) X dX13_next_286 (by decide) ?_
                  refine r_iadd X dX13_next_287 ?_
                  refine r_topi (nI (q + 1)) (nI_1 q) ?_
                  refine r_putI X dX13_next_288 fX13_153 wX13_153 (by assumption) rfl rfl ?_
                  refine r_return X dX13_next_291 (by first | omega | decide | (simp only [rmL, rmA]; omega)) (by first | omega | decide | (simp only [rmL, rmA]; omega)) ?_
                  have hnl : ¬ k0 = 1 := fun z => absurd ((inB_N (n := n) (a := 97) (b := 122) (by omega) (by decide) (by decide)).mpr (nk1.mp z)) (by rw [show inB (nI n) (nI 97) (nI 122) = false from bI_0 h85]; decide)
                  have hnd : ¬ k0 = 2 := fun z => absurd ((inB_N (n := n) (a := 48) (b := 57) (by omega) (by decide) (by decide)).mpr (nk2.mp z)) (by rw [show inB (nI n) (nI 48) (nI 57) = false from bI_0 h174]; decide)
                  rw [if_neg (by intro z; rcases z with z | z; exact hnl z; exact hnd z), if_pos hqe] at hnx
                  rw [if_neg hnl, if_neg hnd] at hkd
                  refine ⟨rfl, ?_⟩
                  rw [← hZI, ← hZJ, if_neg hnd, if_neg hnl, hkd, hnx]
                  first
                    | (have z1 : n = 60 := h256
                       have h3 := nk3.mpr z1
                       rw [setN_25, h3, z1, if_neg (by decide)]; rfl)
                    | (have z1 : n = 62 := h262
                       have h3 := nk4.mpr z1
                       rw [setN_25, h3, z1, if_neg (by decide)]; rfl)
                    | (have z1 : n = 59 := h268
                       have h3 := nk5.mpr z1
                       rw [setN_25, h3, z1, if_neg (by decide)]; rfl)
                    | (have h6 : k0 = 6 := by
                         rcases nal with z | z | z | z | z | z | z
                         · exact absurd z hnl
                         · exact absurd z hnd
                         · exact absurd (nk3.mp z) h256
                         · exact absurd (nk4.mp z) h262
                         · exact absurd (nk5.mp z) h268
                         · exact z
                         · exact absurd z hno7
                       rw [h6, if_pos rfl]; rfl)
          · skip
            refine r_aload_n X dX13_next_177 rfl rfl ?_
            refine r_iconst (v := 0) X dX13_next_178 (by decide) ?_
            refine r_putI X dX13_next_179 fX13_175 wX13_175 (by assumption) rfl rfl ?_
            rw [setN_29]
            have hl := (inB_N (n := n) (a := 48) (b := 57) (by omega) (by decide) (by decide)).mp (bI_1 h174)
            have h1 := nk2.mpr hl
            refine r_loc (L' := [some (.ref g), some (.int (nI n)), some (.int (nI (q - q)))]) (by rw [Nat.sub_self]; rfl) ?_
            refine r_world ?_ (HD h1 q hq1 (Nat.le_refl _) ?_)
            · rw [Nat.sub_self]; rfl
            · rw [hnx, h1, if_pos (Or.inr rfl)]; rfl
        · skip
          refine r_aload_n X dX13_next_88 rfl rfl ?_
          refine r_lconst (v := 0) X dX13_next_89 (by decide) ?_
          refine r_putJ X dX13_next_90 fX13_168 wX13_168 (by assumption) rfl rfl ?_
          have hl := (inB_N (n := n) (a := 97) (b := 122) (by omega) (by decide) (by decide)).mp (bI_1 h85)
          have h1 := nk1.mpr hl
          refine r_loc (L' := [some (.ref g), some (.int (nI n)), some (.int (nI (q - q)))]) (by rw [Nat.sub_self]; rfl) ?_
          refine r_world ?_ (HL h1 q hq1 (Nat.le_refl _) ?_)
          · rw [Nat.sub_self]; rfl
          · rw [hnx, h1, if_pos (Or.inl rfl)]; rfl
      · skip
        exact absurd h70 (fun z => nI_m1 (by omega) z)
    · obtain rfl : q = e := by omega
      rw [if_neg (by omega)] at hk0
      rw [hk0, if_neg (by decide), if_neg (by omega)] at hnx
      rw [hk0, if_neg (by decide), if_neg (by decide)] at hkd
      have hc : mByte I g q q = -1 := by rw [mByte, if_neg (by omega)]
      refine r_aload_n X dX13_next_39 rfl rfl ?_
      refine r_aload_n X dX13_next_40 rfl rfl ?_
      refine r_getI X dX13_next_41 fX13_153 (by assumption) g1.1 ?_
      refine r_putI X dX13_next_44 fX13_135 wX13_135 (by assumption) rfl rfl ?_
      rw [setN_27]
      refine r_aload_n X dX13_next_47 rfl rfl ?_
      refine r_iconst (v := 0) X dX13_next_48 (by decide) ?_
      refine r_putI X dX13_next_49 fX13_159 wX13_159 (by assumption) rfl rfl ?_
      rw [setN_26]
      refine r_aload_n X dX13_next_52 rfl rfl ?_
      refine r_iconst (v := 0) X dX13_next_53 (by decide) ?_
      refine r_putI X dX13_next_54 fX13_162 wX13_162 (by assumption) rfl rfl ?_
      rw [setN_28]
      refine r_aload_n X dX13_next_57 rfl rfl ?_
      refine r_aload_n X dX13_next_58 rfl rfl ?_
      refine r_getI X dX13_next_59 fX13_153 (by assumption) g2.1 ?_
      refine q_callV X dX13_next_62 mX13_156 cwX13_byteAt (c_mByte GE S _ V _ N g q q hs0 hR (hE _ _ _ _ _) he4 (by omega)) rfl (by assumption) rfl rfl rfl (Nat.le_of_ble_eq_true rfl) ⟨Nat.le_of_ble_eq_true rfl, Nat.le_of_ble_eq_true rfl⟩ ⟨(by first | omega | decide | (simp only [rmL, rmA]; omega)), (by first | omega | decide | (simp only [rmL, rmA]; omega))⟩ ?_
      rintro _ _ ⟨rfl, rfl⟩
      refine r_topi (-1) (mByte_set.trans hc) ?_
      refine r_istore_n X dX13_next_65 rfl (by decide) rfl ?_
      refine r_iconst (v := nI 0) X dX13_next_66 (by decide) ?_
      refine r_istore_n X dX13_next_67 rfl (by decide) rfl ?_
      refine r_iload_n X dX13_next_68 rfl rfl ?_
      refine r_iconst (v := -1) X dX13_next_69 (by decide) ?_
      refine r_icmp_ne (tgt := 81) X dX13_next_70 (by decide) (fun h70 => ?_) (fun h70 => ?_)
      · skip
        exact absurd rfl h70
      · skip
        refine r_aload_n X dX13_next_73 rfl rfl ?_
        refine r_iconst (v := 1) X dX13_next_74 (by decide) ?_
        refine r_putI X dX13_next_75 fX13_159 wX13_159 (by assumption) rfl rfl ?_
        refine r_goto (tgt := 291) X dX13_next_78 (by decide) ?_
        refine r_return X dX13_next_291 (by first | omega | decide | (simp only [rmL, rmA]; omega)) (by first | omega | decide | (simp only [rmL, rmA]; omega)) ?_
        refine ⟨rfl, ?_⟩
        rw [← hZI, ← hZJ, hk0, hkd, hnx, setN_26]
        rfl
  have H0 : ∀ j, j ≤ e → p ≤ j → span (fun k => decide (tkKind (I (g + 20) k) = 7)) j (e - j) = q → G E M 0 0 (qQ E M (rmL 1) (fun v w' => v = none ∧ w' = (S, ZI, V, ZJ, N))) 0 [some (.ref g), none, none] [] (S, setN I g (nI j) (I g 26) (I g 27) (I g 28) (I g 29), V, J, N) := by
    refine loopN e (fun j hj ih => ?_)
    intro hpj hsp
    have g1 := setN_g I g (nI j) (I g 26) (I g 27) (I g 28) (I g 29)
    rcases Nat.lt_or_ge j e with hje | hje
    · obtain ⟨m, m1, m2, m7, mk1, mk2, mk3, mk4, mk5, mal, m128⟩ := by_kinds (hB j (by omega))
      have hcm : mByte I g e j = nI m := by rw [mByte, if_pos hje]; exact m2
      refine r_aload_n X dX13_next_0 rfl rfl ?_
      refine r_aload_n X dX13_next_1 rfl rfl ?_
      refine r_getI X dX13_next_2 fX13_153 (by assumption) g1.1 ?_
      refine q_callV X dX13_next_5 mX13_156 cwX13_byteAt (c_mByte GE S _ V _ N g e j hs0 hR (hE _ _ _ _ _) he4 (by omega)) rfl (by assumption) rfl rfl rfl (Nat.le_of_ble_eq_true rfl) ⟨Nat.le_of_ble_eq_true rfl, Nat.le_of_ble_eq_true rfl⟩ ⟨(by first | omega | decide | (simp only [rmL, rmA]; omega)), (by first | omega | decide | (simp only [rmL, rmA]; omega))⟩ ?_
      rintro _ _ ⟨rfl, rfl⟩
      refine r_topi (nI m) (mByte_set.trans hcm) ?_
      refine r_bipush (v := nI 32) X dX13_next_8 (by decide) ?_
      refine r_icmpN_eq (tgt := 26) X dX13_next_10 (by decide) (by omega) (by omega) (fun h10 => ?_) (fun h10 => ?_)
      · skip
        refine r_aload_n X dX13_next_26 rfl rfl ?_
        refine r_dup X dX13_next_27 rfl ?_
        refine r_getI X dX13_next_28 fX13_153 (by assumption) g1.1 ?_
        refine r_iconst (v := 1) X dX13_next_31 (by decide) ?_
        refine r_iadd X dX13_next_32 ?_
        refine r_topi (nI (j + 1)) (nI_1 j) ?_
        refine r_putI X dX13_next_33 fX13_153 wX13_153 (by assumption) rfl rfl ?_
        refine r_goto (tgt := 0) X dX13_next_36 (by decide) ?_
        have h7 := m7.mpr (by omega)
        exact r_world (by rw [setN_25]) (ih hje (by omega) ((span_step (P := fun k => decide (tkKind (I (g + 20) k) = 7)) hje (decide_eq_true h7)).symm.trans hsp))
      · skip
        refine r_aload_n X dX13_next_13 rfl rfl ?_
        refine r_aload_n X dX13_next_14 rfl rfl ?_
        refine r_getI X dX13_next_15 fX13_153 (by assumption) g1.1 ?_
        refine q_callV X dX13_next_18 mX13_156 cwX13_byteAt (c_mByte GE S _ V _ N g e j hs0 hR (hE _ _ _ _ _) he4 (by omega)) rfl (by assumption) rfl rfl rfl (Nat.le_of_ble_eq_true rfl) ⟨Nat.le_of_ble_eq_true rfl, Nat.le_of_ble_eq_true rfl⟩ ⟨(by first | omega | decide | (simp only [rmL, rmA]; omega)), (by first | omega | decide | (simp only [rmL, rmA]; omega))⟩ ?_
        rintro _ _ ⟨rfl, rfl⟩
        refine r_topi (nI m) (mByte_set.trans hcm) ?_
        refine r_bipush (v := nI 10) X dX13_next_21 (by decide) ?_
        refine r_icmpN_ne (tgt := 39) X dX13_next_23 (by decide) (by omega) (by omega) (fun h23 => ?_) (fun h23 => ?_)
        · skip
          have h7 : ¬ tkKind (I (g + 20) j) = 7 := fun z => absurd (m7.mp z) (by omega)
          have hjq : j = q := by rw [← hsp, span_stop (fun _ => decide_eq_false h7)]
          subst hjq
          exact H39 (fun _ => h7)
        · skip
          refine r_aload_n X dX13_next_26 rfl rfl ?_
          refine r_dup X dX13_next_27 rfl ?_
          refine r_getI X dX13_next_28 fX13_153 (by assumption) g1.1 ?_
          refine r_iconst (v := 1) X dX13_next_31 (by decide) ?_
          refine r_iadd X dX13_next_32 ?_
          refine r_topi (nI (j + 1)) (nI_1 j) ?_
          refine r_putI X dX13_next_33 fX13_153 wX13_153 (by assumption) rfl rfl ?_
          refine r_goto (tgt := 0) X dX13_next_36 (by decide) ?_
          have h7 := m7.mpr (by omega)
          exact r_world (by rw [setN_25]) (ih hje (by omega) ((span_step (P := fun k => decide (tkKind (I (g + 20) k) = 7)) hje (decide_eq_true h7)).symm.trans hsp))
    · obtain rfl : j = e := by omega
      have hcm : mByte I g j j = -1 := by rw [mByte, if_neg (by omega)]
      have hjq : j = q := by rw [← hsp, Nat.sub_self, span]
      refine r_aload_n X dX13_next_0 rfl rfl ?_
      refine r_aload_n X dX13_next_1 rfl rfl ?_
      refine r_getI X dX13_next_2 fX13_153 (by assumption) g1.1 ?_
      refine q_callV X dX13_next_5 mX13_156 cwX13_byteAt (c_mByte GE S _ V _ N g j j hs0 hR (hE _ _ _ _ _) he4 (by omega)) rfl (by assumption) rfl rfl rfl (Nat.le_of_ble_eq_true rfl) ⟨Nat.le_of_ble_eq_true rfl, Nat.le_of_ble_eq_true rfl⟩ ⟨(by first | omega | decide | (simp only [rmL, rmA]; omega)), (by first | omega | decide | (simp only [rmL, rmA]; omega))⟩ ?_
      rintro _ _ ⟨rfl, rfl⟩
      refine r_topi (-1) (mByte_set.trans hcm) ?_
      refine r_bipush (v := 32) X dX13_next_8 (by decide) ?_
      refine r_icmp_eq (tgt := 26) X dX13_next_10 (by decide) (fun h10 => ?_) (fun h10 => ?_)
      · skip
        exact absurd h10 (by decide)
      · skip
        refine r_aload_n X dX13_next_13 rfl rfl ?_
        refine r_aload_n X dX13_next_14 rfl rfl ?_
        refine r_getI X dX13_next_15 fX13_153 (by assumption) g1.1 ?_
        refine q_callV X dX13_next_18 mX13_156 cwX13_byteAt (c_mByte GE S _ V _ N g j j hs0 hR (hE _ _ _ _ _) he4 (by omega)) rfl (by assumption) rfl rfl rfl (Nat.le_of_ble_eq_true rfl) ⟨Nat.le_of_ble_eq_true rfl, Nat.le_of_ble_eq_true rfl⟩ ⟨(by first | omega | decide | (simp only [rmL, rmA]; omega)), (by first | omega | decide | (simp only [rmL, rmA]; omega))⟩ ?_
        rintro _ _ ⟨rfl, rfl⟩
        refine r_topi (-1) (mByte_set.trans hcm) ?_
        refine r_bipush (v := 10) X dX13_next_21 (by decide) ?_
        refine r_icmp_ne (tgt := 39) X dX13_next_23 (by decide) (fun h23 => ?_) (fun h23 => ?_)
        · skip
          subst hjq
          exact H39 (fun z => absurd z (by omega))
        · skip
          exact absurd h23 (by decide)
  exact r_world (by rw [← hp, setN_id]) (H0 p hpe (Nat.le_refl _) hat.symm)
