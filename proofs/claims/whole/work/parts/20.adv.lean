/-! ===== Tape.advance: the next token ===== -/
theorem tkAt_ge (B : Nat → Int32) (e p : Nat) : p ≤ tkAt B e p := span_ge _ _ _
theorem tkAt_le (B : Nat → Int32) {e p : Nat} (h : p ≤ e) : tkAt B e p ≤ e := by
  have := span_le (fun k => decide (tkKind (B k) = 7)) (e - p) p
  unfold tkAt
  omega
theorem tkRun_ge (B : Nat → Int32) (e q : Nat) (k : Int32) : q ≤ tkRun B e q k := span_ge _ _ _
theorem tkRun_le (B : Nat → Int32) {e q : Nat} (k : Int32) (h : q ≤ e) : tkRun B e q k ≤ e := by
  have := span_le (fun i => decide (tkKind (B i) = k)) (e - q) q
  unfold tkRun
  omega
theorem tkNx_le (B : Nat → Int32) {e p : Nat} (h : p ≤ e) : tkNx B e p ≤ e := by
  have h1 := tkAt_le B h
  unfold tkNx
  split
  · exact tkRun_le B _ h1
  · split <;> omega
theorem tkNx_ge (B : Nat → Int32) (e p : Nat) : tkAt B e p ≤ tkNx B e p := by
  unfold tkNx
  split
  · exact tkRun_ge B _ _ _
  · split <;> omega
theorem span_step {P : Nat → Bool} {e q : Nat} (h : q < e) (hp : P q = true) : span P q (e - q) = span P (q + 1) (e - (q + 1)) := by
  obtain ⟨n, hn⟩ : ∃ n, e - q = n + 1 := ⟨e - q - 1, by omega⟩
  rw [hn, span, if_pos hp, show e - (q + 1) = n by omega]
theorem span_stop {P : Nat → Bool} {e q : Nat} (hp : q < e → P q = false) : span P q (e - q) = q := by
  rcases Nat.lt_or_ge q e with h | h
  · obtain ⟨n, hn⟩ : ∃ n, e - q = n + 1 := ⟨e - q - 1, by omega⟩
    rw [hn, span, if_neg (by rw [hp h]; decide)]
  · rw [show e - q = 0 by omega, span]
set_option maxHeartbeats 2000000 in
set_option maxRecDepth 20000 in
/-- SledHouse$Tape.advance -/
theorem c_adv {E : Ev} (GE : Glob E) (S : Nat → Option (Nat × Nat)) (I : Nat → Nat → Int32) (V : Nat → Nat → Option Nat) (J : Nat → Nat → Int64) (N : Nat) (a e p : Nat) (hT : TapeSh S V a) (he : I a 2 = nI e) (he4 : e ≤ 400) (hp : I a 3 = nI p) (hpe : p ≤ e) : Ct E yX7_advance cX7_advance 1 none (rmL 1) [.ref a] (S, I, V, J, N) (fun v w' => v = none ∧ w' = (S, tAdv I a e p, V, J, N)) := by
  refine Ct.start GE (by decide) rfl (Nat.le_of_ble_eq_true rfl) (fun M X => ?_)
  have X : Cx E M RX7 cX7_advance 1 (rmL 1) none "advance" := X
  refine r_loc (L' := [some (.ref a)]) rfl ?_
  obtain ⟨hs0, hv0, hs1⟩ := hT
  have hB : ∀ (x y z u : Int32) (k : Nat), setTok I a x y z u (a + 1) k = I (a + 1) k := fun x y z u k => congrFun (setTok_row (by omega)) k
  have hE : ∀ (x y z u : Int32), setTok I a x y z u a 2 = nI e := fun x y z u => (setTok_g (by omega)).trans he
  have hq0 := tkAt_ge (I (a + 1)) e p
  have hq1 := tkAt_le (I (a + 1)) hpe
  generalize hqq : tkAt (I (a + 1)) e p = q at hq0 hq1
  have hfin : tAdv I a e p = setTok I a (nI (tkNx (I (a + 1)) e p)) (tkKd (I (a + 1)) e p) (nI q) (tkVl (I (a + 1)) e p) := by rw [tAdv, hqq]
  have H101 : ∀ k0 : Int32, tkK0 (I (a + 1)) e p = k0 → k0 = 1 ∨ k0 = 2 → G E M 0 0 (qQ E M (rmL 1) (fun v w' => v = none ∧ w' = (S, tAdv I a e p, V, J, N))) 101 [some (.ref a)] [] (S, setTok I a (nI q) k0 (nI q) 0, V, J, N) := by
    intro k0 hk0 hk12
    have hnx : tkNx (I (a + 1)) e p = tkRun (I (a + 1)) e q k0 := by rw [tkNx, hk0, if_pos hk12, hqq]
    have hvl : tkVl (I (a + 1)) e p = tkVal (I (a + 1)) q (tkNx (I (a + 1)) e p - q) := by rw [tkVl, hk0, if_pos hk12, hqq]
    have hr1 := tkRun_le (I (a + 1)) k0 hq1
    have H : ∀ j, j ≤ e → q ≤ j → span (fun i => decide (tkKind (I (a + 1) i) = k0)) j (e - j) = tkNx (I (a + 1)) e p → G E M 0 0 (qQ E M (rmL 1) (fun v w' => v = none ∧ w' = (S, tAdv I a e p, V, J, N))) 101 [some (.ref a)] [] (S, setTok I a (nI j) k0 (nI q) (tkVal (I (a + 1)) q (j - q)), V, J, N) := by
      refine loopN e (fun j hj ih => ?_)
      intro hqj hsp
      have hE' := hE (nI j) k0 (nI q) (tkVal (I (a + 1)) q (j - q))
      have h3' := setTok_g3 I a (nI j) k0 (nI q) (tkVal (I (a + 1)) q (j - q))
      have h4' := setTok_g4 I a (nI j) k0 (nI q) (tkVal (I (a + 1)) q (j - q))
      have h5' := setTok_g5 I a (nI j) k0 (nI q) (tkVal (I (a + 1)) q (j - q))
      have h6' := setTok_g6 I a (nI j) k0 (nI q) (tkVal (I (a + 1)) q (j - q))
      have H168 : j = tkNx (I (a + 1)) e p → G E M 0 0 (qQ E M (rmL 1) (fun v w' => v = none ∧ w' = (S, tAdv I a e p, V, J, N))) 168 [some (.ref a)] [] (S, setTok I a (nI j) k0 (nI q) (tkVal (I (a + 1)) q (j - q)), V, J, N) := by
        intro hjn
        refine r_aload_n X dX7_advance_168 rfl rfl ?_
        refine r_aload_n X dX7_advance_169 rfl rfl ?_
        refine r_getI X dX7_advance_170 fX7_22 (by assumption) (by first | assumption | rfl) ?_
        refine r_aload_n X dX7_advance_173 rfl rfl ?_
        refine r_getI X dX7_advance_174 fX7_28 (by assumption) (by first | assumption | rfl) ?_
        refine r_isub X dX7_advance_177 ?_
        refine r_topi (nI (j - q)) (pk_sub (by omega)) ?_
        refine r_aload_n X dX7_advance_178 rfl rfl ?_
        refine r_getI X dX7_advance_179 fX7_25 (by assumption) (by first | assumption | rfl) ?_
        refine r_iconst (v := 1) X dX7_advance_182 (by decide) ?_
        refine r_icmp_ne (tgt := 191) X dX7_advance_183 (by decide) (fun h183 => ?_) (fun h183 => ?_)
        · skip
          refine r_iconst (v := nI 4) X dX7_advance_191 (by decide) ?_
          refine r_icmpN_gt (tgt := 202) X dX7_advance_192 (by decide) (by omega) (by omega) (fun h192 => ?_) (fun h192 => ?_)
          · skip
            refine r_bipush (v := 6) X dX7_advance_202 (by decide) ?_
            refine r_putI X dX7_advance_204 fX7_25 wX7_25 (by assumption) rfl rfl ?_
            refine r_goto (tgt := 231) X dX7_advance_207 (by decide) ?_
            refine r_return X dX7_advance_231 (by first | omega | decide | (simp only [rmL, rmA]; omega)) (by first | omega | decide | (simp only [rmL, rmA]; omega)) ?_
            refine ⟨rfl, ?_⟩
            rw [hfin, hvl, setTok_4, ← hjn]
            unfold tkKd
            rw [hk0, ← hjn, hqq]
            first
              | (have z : k0 = 1 := h183
                 subst z
                 first | (rw [if_pos rfl, if_pos (by omega)]; done) | (rw [if_pos rfl, if_neg (by omega)] <;> rfl))
              | (have z : k0 = 2 := hk12.resolve_left h183
                 subst z
                 first | (rw [if_neg (by decide), if_pos rfl, if_pos (by omega)]; done) | (rw [if_neg (by decide), if_pos rfl, if_neg (by omega)] <;> rfl))
          · skip
            refine r_aload_n X dX7_advance_195 rfl rfl ?_
            refine r_getI X dX7_advance_196 fX7_25 (by assumption) (by first | assumption | rfl) ?_
            refine r_goto (tgt := 204) X dX7_advance_199 (by decide) ?_
            refine r_putI X dX7_advance_204 fX7_25 wX7_25 (by assumption) rfl rfl ?_
            refine r_goto (tgt := 231) X dX7_advance_207 (by decide) ?_
            refine r_return X dX7_advance_231 (by first | omega | decide | (simp only [rmL, rmA]; omega)) (by first | omega | decide | (simp only [rmL, rmA]; omega)) ?_
            refine ⟨rfl, ?_⟩
            rw [hfin, hvl, setTok_4, ← hjn]
            unfold tkKd
            rw [hk0, ← hjn, hqq]
            first
              | (have z : k0 = 1 := h183
                 subst z
                 first | (rw [if_pos rfl, if_pos (by omega)]; done) | (rw [if_pos rfl, if_neg (by omega)] <;> rfl))
              | (have z : k0 = 2 := hk12.resolve_left h183
                 subst z
                 first | (rw [if_neg (by decide), if_pos rfl, if_pos (by omega)]; done) | (rw [if_neg (by decide), if_pos rfl, if_neg (by omega)] <;> rfl))
        · skip
          refine r_bipush (v := nI 8) X dX7_advance_186 (by decide) ?_
          refine r_goto (tgt := 192) X dX7_advance_188 (by decide) ?_
          refine r_icmpN_gt (tgt := 202) X dX7_advance_192 (by decide) (by omega) (by omega) (fun h192 => ?_) (fun h192 => ?_)
          · skip
            refine r_bipush (v := 6) X dX7_advance_202 (by decide) ?_
            refine r_putI X dX7_advance_204 fX7_25 wX7_25 (by assumption) rfl rfl ?_
            refine r_goto (tgt := 231) X dX7_advance_207 (by decide) ?_
            refine r_return X dX7_advance_231 (by first | omega | decide | (simp only [rmL, rmA]; omega)) (by first | omega | decide | (simp only [rmL, rmA]; omega)) ?_
            refine ⟨rfl, ?_⟩
            rw [hfin, hvl, setTok_4, ← hjn]
            unfold tkKd
            rw [hk0, ← hjn, hqq]
            first
              | (have z : k0 = 1 := h183
                 subst z
                 first | (rw [if_pos rfl, if_pos (by omega)]; done) | (rw [if_pos rfl, if_neg (by omega)] <;> rfl))
              | (have z : k0 = 2 := hk12.resolve_left h183
                 subst z
                 first | (rw [if_neg (by decide), if_pos rfl, if_pos (by omega)]; done) | (rw [if_neg (by decide), if_pos rfl, if_neg (by omega)] <;> rfl))
          · skip
            refine r_aload_n X dX7_advance_195 rfl rfl ?_
            refine r_getI X dX7_advance_196 fX7_25 (by assumption) (by first | assumption | rfl) ?_
            refine r_goto (tgt := 204) X dX7_advance_199 (by decide) ?_
            refine r_putI X dX7_advance_204 fX7_25 wX7_25 (by assumption) rfl rfl ?_
            refine r_goto (tgt := 231) X dX7_advance_207 (by decide) ?_
            refine r_return X dX7_advance_231 (by first | omega | decide | (simp only [rmL, rmA]; omega)) (by first | omega | decide | (simp only [rmL, rmA]; omega)) ?_
            refine ⟨rfl, ?_⟩
            rw [hfin, hvl, setTok_4, ← hjn]
            unfold tkKd
            rw [hk0, ← hjn, hqq]
            first
              | (have z : k0 = 1 := h183
                 subst z
                 first | (rw [if_pos rfl, if_pos (by omega)]; done) | (rw [if_pos rfl, if_neg (by omega)] <;> rfl))
              | (have z : k0 = 2 := hk12.resolve_left h183
                 subst z
                 first | (rw [if_neg (by decide), if_pos rfl, if_pos (by omega)]; done) | (rw [if_neg (by decide), if_pos rfl, if_neg (by omega)] <;> rfl))
      refine r_aload_n X dX7_advance_101 rfl rfl ?_
      refine r_getI X dX7_advance_102 fX7_22 (by assumption) (by first | assumption | rfl) ?_
      refine r_aload_n X dX7_advance_105 rfl rfl ?_
      refine r_getI X dX7_advance_106 fX7_19 (by assumption) (by first | assumption | rfl) ?_
      refine r_icmpN_ge (tgt := 168) X dX7_advance_109 (by decide) (by omega) (by omega) (fun h109 => ?_) (fun h109 => ?_)
      · skip
        refine H168 ?_
        rw [← hsp]
        first | exact (span_stop (P := fun i => decide (tkKind (I (a + 1) i) = k0)) (fun z => absurd z (by omega))).symm | exact (span_stop (P := fun i => decide (tkKind (I (a + 1) i) = k0)) (fun z => by simpa using h128)).symm
      · skip
        refine r_aload_n X dX7_advance_112 rfl rfl ?_
        refine r_getR X dX7_advance_113 fX7_9 (by assumption) (by assumption) ?_
        refine r_aload_n X dX7_advance_116 rfl rfl ?_
        refine r_getI X dX7_advance_117 fX7_22 (by assumption) (by first | assumption | rfl) ?_
        refine r_baldN X dX7_advance_120 (by assumption) (by omega) (by omega) (hB _ _ _ _ _) ?_
        refine q_callS X dX7_advance_121 mX7_49 cwX7_kindOf (c_kindOf GE _ _) rfl rfl (Nat.le_of_ble_eq_true rfl) ⟨Nat.le_of_ble_eq_true rfl, Nat.le_of_ble_eq_true rfl⟩ ⟨(by first | omega | decide | (simp only [rmL, rmA]; omega)), (by first | omega | decide | (simp only [rmL, rmA]; omega))⟩ ?_
        rintro _ _ ⟨rfl, rfl⟩
        refine r_aload_n X dX7_advance_124 rfl rfl ?_
        refine r_getI X dX7_advance_125 fX7_25 (by assumption) (by first | assumption | rfl) ?_
        refine r_icmp_ne (tgt := 168) X dX7_advance_128 (by decide) (fun h128 => ?_) (fun h128 => ?_)
        · skip
          refine H168 ?_
          rw [← hsp]
          first | exact (span_stop (P := fun i => decide (tkKind (I (a + 1) i) = k0)) (fun z => absurd z (by omega))).symm | exact (span_stop (P := fun i => decide (tkKind (I (a + 1) i) = k0)) (fun z => by simpa using h128)).symm
        · skip
          refine r_aload_n X dX7_advance_131 rfl rfl ?_
          refine r_aload_n X dX7_advance_132 rfl rfl ?_
          refine r_getI X dX7_advance_133 fX7_31 (by assumption) (by first | assumption | rfl) ?_
          refine r_bipush (v := 10) X dX7_advance_136 (by decide) ?_
          refine r_imul X dX7_advance_138 ?_
          refine r_aload_n X dX7_advance_139 rfl rfl ?_
          refine r_getR X dX7_advance_140 fX7_9 (by assumption) (by assumption) ?_
          refine r_aload_n X dX7_advance_143 rfl rfl ?_
          refine r_getI X dX7_advance_144 fX7_22 (by assumption) (by first | assumption | rfl) ?_
          refine r_baldN X dX7_advance_147 (by assumption) (by omega) (by omega) (hB _ _ _ _ _) ?_
          refine r_bipush (v := 48) X dX7_advance_148 (by decide) ?_
          refine r_isub X dX7_advance_150 ?_
          refine r_iadd X dX7_advance_151 ?_
          refine r_putI X dX7_advance_152 fX7_31 wX7_31 (by assumption) rfl rfl ?_
          refine r_world (w' := (S, setTok I a (nI j) k0 (nI q) (tkVal (I (a + 1)) q (j - q) * 10 + (I (a + 1) j - 48)), V, J, N)) (by rw [setTok_6]) ?_
          refine r_aload_n X dX7_advance_155 rfl rfl ?_
          refine r_dup X dX7_advance_156 rfl ?_
          refine r_getI X dX7_advance_157 fX7_22 (by assumption) (setTok_g3 _ _ _ _ _ _) ?_
          refine r_iconst (v := 1) X dX7_advance_160 (by decide) ?_
          refine r_iadd X dX7_advance_161 ?_
          refine r_topi (nI (j + 1)) (nI_1 j) ?_
          refine r_putI X dX7_advance_162 fX7_22 wX7_22 (by assumption) rfl rfl ?_
          refine r_world (w' := (S, setTok I a (nI (j + 1)) k0 (nI q) (tkVal (I (a + 1)) q (j - q) * 10 + (I (a + 1) j - 48)), V, J, N)) (by rw [setTok_3]) ?_
          refine r_goto (tgt := 101) X dX7_advance_165 (by decide) ?_
          have hz : tkVal (I (a + 1)) q (j + 1 - q) = tkVal (I (a + 1)) q (j - q) * 10 + (I (a + 1) j - 48) := by
            rw [show j + 1 - q = (j - q) + 1 by omega, tkVal, show q + (j - q) = j by omega]
          rw [← hz]
          exact ih (by omega) (by omega) (by rw [← hsp]; exact (span_step (P := fun i => decide (tkKind (I (a + 1) i) = k0)) (by omega) (by simpa using h128)).symm)
    have := H q hq1 (Nat.le_refl _) (by rw [hnx]; rfl)
    rw [Nat.sub_self] at this
    exact this
  have H41 : G E M 0 0 (qQ E M (rmL 1) (fun v w' => v = none ∧ w' = (S, tAdv I a e p, V, J, N))) 41 [some (.ref a)] [] (S, setTok I a (nI q) (I a 4) (I a 5) (I a 6), V, J, N) := by
    have hE' := hE (nI q) (I a 4) (I a 5) (I a 6)
    have H82 : ∀ k0 : Int32, tkK0 (I (a + 1)) e p = k0 → G E M 0 0 (qQ E M (rmL 1) (fun v w' => v = none ∧ w' = (S, tAdv I a e p, V, J, N))) 82 [some (.ref a)] [.int k0, .ref a] (S, setTok I a (nI q) (I a 4) (nI q) 0, V, J, N) := by
      intro k0 hk0
      have hE'' := hE (nI q) k0 (nI q) 0
      have h3' := setTok_g3 I a (nI q) k0 (nI q) 0
      have h4' := setTok_g4 I a (nI q) k0 (nI q) 0
      refine r_putI X dX7_advance_82 fX7_25 wX7_25 (by assumption) rfl rfl ?_
      refine r_world (w' := (S, setTok I a (nI q) k0 (nI q) 0, V, J, N)) (by rw [setTok_4]) ?_
      refine r_aload_n X dX7_advance_85 rfl rfl ?_
      refine r_getI X dX7_advance_86 fX7_25 (by assumption) (by first | assumption | rfl) ?_
      refine r_iconst (v := 1) X dX7_advance_89 (by decide) ?_
      refine r_icmp_eq (tgt := 101) X dX7_advance_90 (by decide) (fun h90 => ?_) (fun h90 => ?_)
      · skip
        exact H101 k0 hk0 (by first | exact Or.inl h90 | exact Or.inr h98)
      · skip
        refine r_aload_n X dX7_advance_93 rfl rfl ?_
        refine r_getI X dX7_advance_94 fX7_25 (by assumption) (by first | assumption | rfl) ?_
        refine r_iconst (v := 2) X dX7_advance_97 (by decide) ?_
        refine r_icmp_ne (tgt := 210) X dX7_advance_98 (by decide) (fun h98 => ?_) (fun h98 => ?_)
        · skip
          refine r_aload_n X dX7_advance_210 rfl rfl ?_
          refine r_getI X dX7_advance_211 fX7_22 (by assumption) (by first | assumption | rfl) ?_
          refine r_aload_n X dX7_advance_214 rfl rfl ?_
          refine r_getI X dX7_advance_215 fX7_19 (by assumption) (by first | assumption | rfl) ?_
          refine r_icmpN_ge (tgt := 231) X dX7_advance_218 (by decide) (by omega) (by omega) (fun h218 => ?_) (fun h218 => ?_)
          · skip
            refine r_return X dX7_advance_231 (by first | omega | decide | (simp only [rmL, rmA]; omega)) (by first | omega | decide | (simp only [rmL, rmA]; omega)) ?_
            have hno : ¬ (k0 = 1 ∨ k0 = 2) := fun z => z.elim h90 h98
            refine ⟨rfl, ?_⟩
            rw [hfin, tkVl, hk0, if_neg hno, tkKd, hk0, if_neg (fun z => hno (Or.inl z)), if_neg (fun z => hno (Or.inr z)), tkNx, hk0, if_neg hno, hqq]
            first | (rw [if_pos (by omega), setTok_3]; done) | (rw [if_neg (by omega)]; done)
          · skip
            refine r_aload_n X dX7_advance_221 rfl rfl ?_
            refine r_dup X dX7_advance_222 rfl ?_
            refine r_getI X dX7_advance_223 fX7_22 (by assumption) (by first | assumption | rfl) ?_
            refine r_iconst (v := 1) X dX7_advance_226 (by decide) ?_
            refine r_iadd X dX7_advance_227 ?_
            refine r_topi (nI (q + 1)) (nI_1 q) ?_
            refine r_putI X dX7_advance_228 fX7_22 wX7_22 (by assumption) rfl rfl ?_
            refine r_return X dX7_advance_231 (by first | omega | decide | (simp only [rmL, rmA]; omega)) (by first | omega | decide | (simp only [rmL, rmA]; omega)) ?_
            have hno : ¬ (k0 = 1 ∨ k0 = 2) := fun z => z.elim h90 h98
            refine ⟨rfl, ?_⟩
            rw [hfin, tkVl, hk0, if_neg hno, tkKd, hk0, if_neg (fun z => hno (Or.inl z)), if_neg (fun z => hno (Or.inr z)), tkNx, hk0, if_neg hno, hqq]
            first | (rw [if_pos (by omega), setTok_3]; done) | (rw [if_neg (by omega)]; done)
        · skip
          exact H101 k0 hk0 (by first | exact Or.inl h90 | exact Or.inr h98)
    refine r_aload_n X dX7_advance_41 rfl rfl ?_
    refine r_aload_n X dX7_advance_42 rfl rfl ?_
    refine r_getI X dX7_advance_43 fX7_22 (by assumption) (setTok_g3 _ _ _ _ _ _) ?_
    refine r_putI X dX7_advance_46 fX7_28 wX7_28 (by assumption) rfl rfl ?_
    refine r_world (w' := (S, setTok I a (nI q) (I a 4) (nI q) (I a 6), V, J, N)) (by rw [setTok_5]) ?_
    refine r_aload_n X dX7_advance_49 rfl rfl ?_
    refine r_iconst (v := 0) X dX7_advance_50 (by decide) ?_
    refine r_putI X dX7_advance_51 fX7_31 wX7_31 (by assumption) rfl rfl ?_
    refine r_world (w' := (S, setTok I a (nI q) (I a 4) (nI q) 0, V, J, N)) (by rw [setTok_6]) ?_
    refine r_aload_n X dX7_advance_54 rfl rfl ?_
    refine r_aload_n X dX7_advance_55 rfl rfl ?_
    refine r_getI X dX7_advance_56 fX7_22 (by assumption) (setTok_g3 _ _ _ _ _ _) ?_
    refine r_aload_n X dX7_advance_59 rfl rfl ?_
    refine r_getI X dX7_advance_60 fX7_19 (by assumption) (hE _ _ _ _) ?_
    refine r_icmpN_ge (tgt := 81) X dX7_advance_63 (by decide) (by omega) (by omega) (fun h63 => ?_) (fun h63 => ?_)
    · skip
      refine r_iconst (v := 0) X dX7_advance_81 (by decide) ?_
      first | exact H82 _ (by rw [tkK0, hqq, if_pos (by omega)]) | exact H82 _ (by rw [tkK0, hqq, if_neg (by omega)])
    · skip
      refine r_aload_n X dX7_advance_66 rfl rfl ?_
      refine r_getR X dX7_advance_67 fX7_9 (by assumption) (by assumption) ?_
      refine r_aload_n X dX7_advance_70 rfl rfl ?_
      refine r_getI X dX7_advance_71 fX7_22 (by assumption) (setTok_g3 _ _ _ _ _ _) ?_
      refine r_baldN X dX7_advance_74 (by assumption) (by omega) (by omega) (hB _ _ _ _ _) ?_
      refine q_callS X dX7_advance_75 mX7_49 cwX7_kindOf (c_kindOf GE _ _) rfl rfl (Nat.le_of_ble_eq_true rfl) ⟨Nat.le_of_ble_eq_true rfl, Nat.le_of_ble_eq_true rfl⟩ ⟨(by first | omega | decide | (simp only [rmL, rmA]; omega)), (by first | omega | decide | (simp only [rmL, rmA]; omega))⟩ ?_
      rintro _ _ ⟨rfl, rfl⟩
      refine r_goto (tgt := 82) X dX7_advance_78 (by decide) ?_
      first | exact H82 _ (by rw [tkK0, hqq, if_pos (by omega)]) | exact H82 _ (by rw [tkK0, hqq, if_neg (by omega)])
  have H0 : ∀ j, j ≤ e → span (fun k => decide (tkKind (I (a + 1) k) = 7)) j (e - j) = q → G E M 0 0 (qQ E M (rmL 1) (fun v w' => v = none ∧ w' = (S, tAdv I a e p, V, J, N))) 0 [some (.ref a)] [] (S, setTok I a (nI j) (I a 4) (I a 5) (I a 6), V, J, N) := by
    refine loopN e (fun j hj ih => ?_)
    intro hsp
    have hE' := hE (nI j) (I a 4) (I a 5) (I a 6)
    have h3' := setTok_g3 I a (nI j) (I a 4) (I a 5) (I a 6)
    refine r_aload_n X dX7_advance_0 rfl rfl ?_
    refine r_getI X dX7_advance_1 fX7_22 (by assumption) (by first | assumption | rfl) ?_
    refine r_aload_n X dX7_advance_4 rfl rfl ?_
    refine r_getI X dX7_advance_5 fX7_19 (by assumption) (by first | assumption | rfl) ?_
    refine r_icmpN_ge (tgt := 41) X dX7_advance_8 (by decide) (by omega) (by omega) (fun h8 => ?_) (fun h8 => ?_)
    · skip
      have hjq : j = q := by
        rw [← hsp]
        first | exact (span_stop (P := fun k => decide (tkKind (I (a + 1) k) = 7)) (fun z => absurd z (by omega))).symm | exact (span_stop (P := fun k => decide (tkKind (I (a + 1) k) = 7)) (fun z => by simpa using h25)).symm
      rw [hjq]
      exact H41
    · skip
      refine r_aload_n X dX7_advance_11 rfl rfl ?_
      refine r_getR X dX7_advance_12 fX7_9 (by assumption) (by assumption) ?_
      refine r_aload_n X dX7_advance_15 rfl rfl ?_
      refine r_getI X dX7_advance_16 fX7_22 (by assumption) (by first | assumption | rfl) ?_
      refine r_baldN X dX7_advance_19 (by assumption) (by omega) (by omega) (hB _ _ _ _ _) ?_
      refine q_callS X dX7_advance_20 mX7_49 cwX7_kindOf (c_kindOf GE _ _) rfl rfl (Nat.le_of_ble_eq_true rfl) ⟨Nat.le_of_ble_eq_true rfl, Nat.le_of_ble_eq_true rfl⟩ ⟨(by first | omega | decide | (simp only [rmL, rmA]; omega)), (by first | omega | decide | (simp only [rmL, rmA]; omega))⟩ ?_
      rintro _ _ ⟨rfl, rfl⟩
      refine r_bipush (v := 7) X dX7_advance_23 (by decide) ?_
      refine r_icmp_ne (tgt := 41) X dX7_advance_25 (by decide) (fun h25 => ?_) (fun h25 => ?_)
      · skip
        have hjq : j = q := by
          rw [← hsp]
          first | exact (span_stop (P := fun k => decide (tkKind (I (a + 1) k) = 7)) (fun z => absurd z (by omega))).symm | exact (span_stop (P := fun k => decide (tkKind (I (a + 1) k) = 7)) (fun z => by simpa using h25)).symm
        rw [hjq]
        exact H41
      · skip
        refine r_aload_n X dX7_advance_28 rfl rfl ?_
        refine r_dup X dX7_advance_29 rfl ?_
        refine r_getI X dX7_advance_30 fX7_22 (by assumption) (by first | assumption | rfl) ?_
        refine r_iconst (v := 1) X dX7_advance_33 (by decide) ?_
        refine r_iadd X dX7_advance_34 ?_
        refine r_topi (nI (j + 1)) (nI_1 j) ?_
        refine r_putI X dX7_advance_35 fX7_22 wX7_22 (by assumption) rfl rfl ?_
        refine r_world (w' := (S, setTok I a (nI (j + 1)) (I a 4) (I a 5) (I a 6), V, J, N)) (by rw [setTok_3]) ?_
        refine r_goto (tgt := 0) X dX7_advance_38 (by decide) ?_
        exact ih (by omega) (by rw [← hsp]; exact (span_step (P := fun k => decide (tkKind (I (a + 1) k) = 7)) (by omega) (by simpa using h25)).symm)
  have hw0 : setTok I a (nI p) (I a 4) (I a 5) (I a 6) = I := by rw [← hp]; exact setTok_id I a
  exact r_world (by rw [hw0]) (H0 p hpe (by rw [← hqq]; rfl))
