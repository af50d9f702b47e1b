/-! ===== phase 2: tokens ===== -/
/-- a word of letters, as a number -/
def wN (f : Nat → Int32) (q : Nat) : Nat → Nat
  | 0 => 0
  | j + 1 => 32 * wN f q j + ((f (q + j)).toNatClampNeg - 96)
def LetN (f : Nat → Int32) (q j : Nat) : Prop := ∀ i, i < j → ∃ n, 97 ≤ n ∧ n ≤ 122 ∧ f (q + i) = nI n
theorem wN_lt {f : Nat → Int32} {q : Nat} : ∀ {j : Nat}, LetN f q j → wN f q j < 32 ^ j
  | 0, _ => by show 0 < 32 ^ 0; decide
  | j + 1, h => by
    have ih := wN_lt (j := j) (fun i hi => h i (by omega))
    obtain ⟨n, n1, n2, n3⟩ := h j (by omega)
    rw [wN, n3, nI_clamp (by omega), Nat.pow_succ]
    omega
theorem wTo_N {f : Nat → Int32} {q : Nat} : ∀ {j : Nat}, j ≤ 8 → LetN f q j → wTo f q j = lN (wN f q j)
  | 0, _, _ => rfl
  | j + 1, hj, h => by
    have ih := wTo_N (j := j) (by omega) (fun i hi => h i (by omega))
    have hb := wN_lt (j := j) (fun i hi => h i (by omega))
    have hb2 : 32 ^ j ≤ 32 ^ 7 := Nat.pow_le_pow_right (by decide) (by omega)
    obtain ⟨n, n1, n2, n3⟩ := h j (by omega)
    have e1 : nI n - 97 + 1 = nI (n - 96) := by
      rw [show nI n - 97 = nI (n - 97) from pk_sub (b := 97) n1, nI_1, show n - 97 + 1 = n - 96 by omega]
    rw [wTo, wN, ih, n3, nI_clamp (by omega), e1, nI_l (by omega)]
    rw [show (32 : Int64) = lN 32 from rfl]
    refine Int64.toInt_inj.mp ?_
    have p7 : (32 : Nat) ^ 7 = 34359738368 := by decide
    have c1 : (lN 32 * lN (wN f q j)).toInt = ((32 * wN f q j : Nat) : Int) := by
      rw [Int64.toInt_mul, pk_lT (by decide), pk_lT (by omega), Int.bmod_def]
      omega
    rw [Int64.toInt_add, c1, pk_lT (by omega), pk_lT (by omega), Int.bmod_def]
    omega
theorem wN_inj {f f' : Nat → Int32} {q q' : Nat} : ∀ {j j' : Nat}, LetN f q j → LetN f' q' j' → wN f q j = wN f' q' j' → j = j' ∧ ∀ i, i < j → f (q + i) = f' (q' + i)
  | 0, 0, _, _, _ => ⟨rfl, fun i hi => by omega⟩
  | 0, j' + 1, _, h', e => by
    obtain ⟨n, n1, n2, n3⟩ := h' j' (by omega)
    rw [wN, wN, n3, nI_clamp (by omega)] at e
    omega
  | j + 1, 0, h, _, e => by
    obtain ⟨n, n1, n2, n3⟩ := h j (by omega)
    rw [wN, wN, n3, nI_clamp (by omega)] at e
    omega
  | j + 1, j' + 1, h, h', e => by
    obtain ⟨n, n1, n2, n3⟩ := h j (by omega)
    obtain ⟨n', n1', n2', n3'⟩ := h' j' (by omega)
    rw [wN, wN, n3, n3', nI_clamp (by omega), nI_clamp (by omega)] at e
    obtain ⟨a, b⟩ := wN_inj (j := j) (j' := j') (fun i hi => h i (by omega)) (fun i hi => h' i (by omega)) (by omega)
    subst a
    refine ⟨rfl, fun i hi => ?_⟩
    rcases Nat.lt_or_ge i j with z | z
    · exact b i z
    · obtain rfl : i = j := by omega
      rw [n3, n3', show n = n' by omega]
theorem wN_c {f f' : Nat → Int32} {q q' : Nat} : ∀ {j : Nat}, (∀ i, i < j → f (q + i) = f' (q' + i)) → wN f q j = wN f' q' j
  | 0, _ => rfl
  | j + 1, h => by rw [wN, wN, h j (by omega), wN_c (fun i hi => h i (by omega))]
/-- a keyword -/
def kwOK (bs : List Int32) : Bool := decide (bs.length ≤ 8) && (List.range bs.length).all fun i => decide (97 ≤ bs.getD i 0 &&& 255) && decide (bs.getD i 0 &&& 255 ≤ 122)
theorem kw_let {bs : List Int32} (h : kwOK bs = true) : bs.length ≤ 8 ∧ LetN (fun i => bs.getD i 0 &&& 255) 0 bs.length := by
  rw [kwOK, Bool.and_eq_true, decide_eq_true_eq, List.all_eq_true] at h
  refine ⟨h.1, fun i hi => ?_⟩
  have := h.2 i (List.mem_range.mpr hi)
  rw [Bool.and_eq_true, decide_eq_true_eq, decide_eq_true_eq] at this
  show ∃ n, 97 ≤ n ∧ n ≤ 122 ∧ bs.getD (0 + i) 0 &&& 255 = nI n
  rw [Nat.zero_add]
  obtain ⟨j, hj, e⟩ := nI_of2 (M := 122) (n := 122) (by decide) (fun z => absurd (Int32.lt_of_lt_of_le z (by decide : (0 : Int32) ≤ 97)) (Int32.not_lt.mpr this.1)) this.2
  refine ⟨j, ?_, hj, e⟩
  rw [e] at this
  exact (nI_leI (a := 97) (by decide) (by omega)).mp this.1
/-- the class's tape a stands where the reference g stands -/
def TkR (I : Mem) (K : MJ) (a g : Nat) : Prop := (TkOK I a ∧ MkOK K.1 g ∧ kE I a = mEn K.1 g ∧ I (a + 1) = K.1 (g + 20) ∧ I a 5 = K.1 g 27) ∧ (K.1 g 26 = mSo (I a 4) ∧ (I a 4 = 3 ∨ I a 4 = 4 ∨ I a 4 = 5 → K.1 g 28 = mSi (I a 4)) ∧ (I a 4 = 2 → K.1 g 29 = I a 6 ∧ ∃ x, x < 10000 ∧ I a 6 = nI x) ∧ (I a 4 = 1 → K.2 g 30 = wTo (I (a + 1)) (kA I a) (kN I a - kA I a) ∧ kN I a - kA I a ≤ 8 ∧ LetN (I (a + 1)) (kA I a) (kN I a - kA I a))) ∧ (¬ I a 4 = 6 → kN I a = mAt K.1 g) ∧ (I a 4 = 0 ∨ I a 4 = 1 ∨ I a 4 = 2 ∨ I a 4 = 3 ∨ I a 4 = 4 ∨ I a 4 = 5 ∨ I a 4 = 6)
theorem isW_eq {I : Mem} {K : MJ} {a g : Nat} {bs : List Int32} (h : TkR I K a g) (hk : kwOK bs = true) : isW I a bs = mIsW K.1 K.2 g bs := by
  obtain ⟨⟨h1, h2, h3, h4, h5⟩, ⟨h6, h7, h8, h9⟩, h10, h11⟩ := h
  obtain ⟨hl, hL⟩ := kw_let hk
  rw [isW, tkWord, mIsW]
  by_cases hd : I a 4 = 1
  · obtain ⟨w1, w2, w3⟩ := h9 hd
    have e26 : K.1 g 26 = 2 := by rw [h6, hd]; rfl
    rw [decide_eq_true hd, decide_eq_true e26, Bool.true_and, Bool.true_and, w1, wOf, wTo_N w2 w3, wTo_N hl hL]
    have hb1 := wN_lt w3
    have hb2 := wN_lt hL
    have hp1 : 32 ^ (kN I a - kA I a) ≤ 32 ^ 8 := Nat.pow_le_pow_right (by decide) w2
    have hp2 : 32 ^ bs.length ≤ 32 ^ 8 := Nat.pow_le_pow_right (by decide) hl
    have p8 : (32 : Nat) ^ 8 = 1099511627776 := by decide
    refine Bool.eq_iff_iff.mpr ?_
    rw [Bool.and_eq_true, decide_eq_true_eq, List.all_eq_true, decide_eq_true_eq, pk_lEQ (by omega) (by omega)]
    constructor
    · rintro ⟨q1, q2⟩
      rw [q1]
      refine wN_c (fun i hi => ?_)
      have := q2 i (List.mem_range.mpr hi)
      rw [decide_eq_true_eq] at this
      rw [this, Nat.zero_add]
    · intro e
      obtain ⟨q1, q2⟩ := wN_inj w3 hL e
      refine ⟨q1, fun i hi => decide_eq_true ?_⟩
      have := q2 i (by rw [q1]; exact List.mem_range.mp hi)
      rw [Nat.zero_add] at this
      exact this
  · have e26 : ¬ K.1 g 26 = 2 := by
      rw [h6]
      rcases h11 with z | z | z | z | z | z | z
      · rw [z]; decide
      · exact absurd z hd
      · rw [z]; decide
      · rw [z]; decide
      · rw [z]; decide
      · rw [z]; decide
      · rw [z]; decide
    rw [decide_eq_false hd, decide_eq_false e26]
    rfl
theorem span_in {P : Nat → Bool} : ∀ (n q i : Nat), q ≤ i → i < span P q n → P i = true
  | 0, q, i, h1, h2 => by rw [span] at h2; omega
  | n + 1, q, i, h1, h2 => by
    rw [span] at h2
    split at h2
    · rename_i hp
      by_cases hi : i = q
      · rw [hi]; exact hp
      · exact span_in n (q + 1) i (by omega) h2
    · omega
theorem span_end {P : Nat → Bool} : ∀ (n q : Nat), span P q n < q + n → P (span P q n) = false
  | 0, q, h => by rw [span] at h; omega
  | n + 1, q, h => by
    rw [span] at h ⊢
    split
    · rename_i hp
      rw [if_pos hp] at h
      exact span_end n (q + 1) (by omega)
    · rename_i hp
      exact Bool.not_eq_true _ ▸ hp
theorem tkVal_N {B : Nat → Int32} {q : Nat} : ∀ {j : Nat}, j ≤ 4 → (∀ i, i < j → ∃ n, 48 ≤ n ∧ n ≤ 57 ∧ B (q + i) = nI n) → ∃ x, x < 10 ^ j ∧ tkVal B q j = nI x
  | 0, _, _ => ⟨0, by decide, rfl⟩
  | j + 1, hj, h => by
    obtain ⟨x, hx, ex⟩ := tkVal_N (j := j) (by omega) (fun i hi => h i (by omega))
    obtain ⟨n, n1, n2, n3⟩ := h j (by omega)
    refine ⟨x * 10 + (n - 48), by rw [Nat.pow_succ]; omega, ?_⟩
    rw [tkVal, ex, n3, show nI n - 48 = nI (n - 48) from pk_sub (b := 48) n1, show nI x * 10 = nI (x * 10) from pk_mul x 10, nI_add]
theorem k0_range {B : Nat → Int32} {e p : Nat} (hB : ∀ k, k < 400 → ByOK (B k)) (he : e ≤ 400) (hp : p ≤ e) : tkK0 B e p = 0 ∨ tkK0 B e p = 1 ∨ tkK0 B e p = 2 ∨ tkK0 B e p = 3 ∨ tkK0 B e p = 4 ∨ tkK0 B e p = 5 ∨ tkK0 B e p = 6 := by
  rw [tkK0]
  by_cases h : tkAt B e p < e
  · rw [if_pos h]
    have h7 : ¬ tkKind (B (tkAt B e p)) = 7 := by
      have := span_end (P := fun k => decide (tkKind (B k) = 7)) (e - p) p (show tkAt B e p < p + (e - p) by omega)
      exact of_decide_eq_false this
    obtain ⟨n, n1, n2, n7, nk1, nk2, nk3, nk4, nk5, nal, n128⟩ := by_kinds (hB (tkAt B e p) (by omega))
    rcases nal with z | z | z | z | z | z | z
    · exact Or.inr (Or.inl z)
    · exact Or.inr (Or.inr (Or.inl z))
    · exact Or.inr (Or.inr (Or.inr (Or.inl z)))
    · exact Or.inr (Or.inr (Or.inr (Or.inr (Or.inl z))))
    · exact Or.inr (Or.inr (Or.inr (Or.inr (Or.inr (Or.inl z)))))
    · exact Or.inr (Or.inr (Or.inr (Or.inr (Or.inr (Or.inr z)))))
    · exact absurd z h7
  · rw [if_neg h]; exact Or.inl rfl
theorem run_kind {B : Nat → Int32} {e p : Nat} {k : Int32} (hk : tkK0 B e p = k) (h12 : k = 1 ∨ k = 2) : ∀ i, i < tkNx B e p - tkAt B e p → tkKind (B (tkAt B e p + i)) = k := by
  intro i hi
  have e1 : tkNx B e p = tkRun B e (tkAt B e p) k := by rw [tkNx, hk, if_pos h12]
  rw [e1] at hi
  have := span_in (P := fun i => decide (tkKind (B i) = k)) (e - tkAt B e p) (tkAt B e p) (tkAt B e p + i) (by omega) (show tkAt B e p + i < tkRun B e (tkAt B e p) k by omega)
  exact of_decide_eq_true this
theorem tok_sim {I : Mem} {K : MJ} {a g e p : Nat} (hE : I a 2 = nI e) (he4 : e ≤ 400) (hp : I a 3 = nI p) (hpe : p ≤ e) (hM : MkOK K.1 g) (hme : mEn K.1 g = e) (hma : mAt K.1 g = p) (hB : I (a + 1) = K.1 (g + 20)) (hTk : TkOK I a) : TkR (adv I a) (nxt K g) a g := by
  have kE' : kE I a = e := by rw [kE, hE]; exact nI_clamp (by omega)
  have kN' : kN I a = p := by rw [kN, hp]; exact nI_clamp (by omega)
  have eA : adv I a = tAdv I a e p := by rw [adv, kE', kN']
  have eN : nxt K g = (mNxI K.1 g e p, mNxJ K.1 K.2 g e p) := by rw [nxt, hme, hma]
  have hBy : ∀ k, k < 400 → ByOK (I (a + 1) k) := fun k hk => by rw [hB]; exact hM.2.2.2.2 k hk
  have a2 : adv I a a 2 = nI e := by rw [eA]; exact (setTok_g (by omega)).trans hE
  have a3 : adv I a a 3 = nI (tkNx (I (a + 1)) e p) := by rw [eA]; exact setTok_g3 _ _ _ _ _ _
  have a4 : adv I a a 4 = tkKd (I (a + 1)) e p := by rw [eA]; exact tAdv_4 _ _ _ _
  have a5 : adv I a a 5 = nI (tkAt (I (a + 1)) e p) := by rw [eA]; exact setTok_g5 _ _ _ _ _ _
  have a6 : adv I a a 6 = tkVl (I (a + 1)) e p := by rw [eA]; exact tAdv_6 _ _ _ _
  have aB : adv I a (a + 1) = I (a + 1) := by rw [eA]; exact tAdv_row (by omega)
  have hle := tkNx_le (I (a + 1)) hpe
  have hat := tkAt_le (I (a + 1)) hpe
  have hge := tkNx_ge (I (a + 1)) e p
  have kA2 : kA (adv I a) a = tkAt (I (a + 1)) e p := by rw [kA, a5]; exact nI_clamp (by omega)
  have kN2 : kN (adv I a) a = tkNx (I (a + 1)) e p := by rw [kN, a3]; exact nI_clamp (by omega)
  obtain ⟨g1, g2, g3, g4, g5⟩ := setN_g K.1 g (nI (mNx (K.1 (g + 20)) e p)) (mSo (tkKd (K.1 (g + 20)) e p)) (nI (tkAt (K.1 (g + 20)) e p)) (mSi (tkK0 (K.1 (g + 20)) e p)) (mNu (K.1 (g + 20)) e p (K.1 g 29))
  have gB : (nxt K g).1 (g + 20) = K.1 (g + 20) := by funext k; exact nxt_o (by omega)
  have hkd : tkKd (I (a + 1)) e p = if tkK0 (I (a + 1)) e p = 1 then (if tkNx (I (a + 1)) e p - tkAt (I (a + 1)) e p ≤ 8 then 1 else 6) else if tkK0 (I (a + 1)) e p = 2 then (if tkNx (I (a + 1)) e p - tkAt (I (a + 1)) e p ≤ 4 then 2 else 6) else tkK0 (I (a + 1)) e p := rfl
  have hr := k0_range hBy he4 hpe
  refine ⟨⟨hTk.adv, MkOK_nxt hM, ?_, ?_, ?_⟩, ⟨?_, ?_, ?_, ?_⟩, ?_, ?_⟩
  · rw [kE, a2, mEn, nxt_o (by omega), hM.1, hme]
  · rw [aB, gB]; exact hB
  · rw [a5, eN, hB]; exact g3.symm
  · rw [a4, eN, hB]; exact g2
  · intro z
    rw [a4] at z ⊢
    have e0 : tkK0 (I (a + 1)) e p = tkKd (I (a + 1)) e p := by
      rw [hkd] at z ⊢
      split at z
      · split at z
        · exact absurd z (by decide)
        · exact absurd z (by decide)
      · split at z
        · split at z
          · exact absurd z (by decide)
          · exact absurd z (by decide)
        · rename_i q1 q2
          rw [if_neg q1, if_neg q2]
    rw [← e0, eN, hB]
    exact g4
  · intro z
    rw [a4] at z
    rw [hkd] at z
    split at z
    · split at z
      · exact absurd z (by decide)
      · exact absurd z (by decide)
    · rename_i q1
      split at z
      · rename_i q2
        split at z
        · rename_i q3
          have eV : tkVl (I (a + 1)) e p = tkVal (I (a + 1)) (tkAt (I (a + 1)) e p) (tkNx (I (a + 1)) e p - tkAt (I (a + 1)) e p) := by rw [tkVl, if_pos (Or.inr q2)]
          refine ⟨?_, ?_⟩
          · rw [a6, eN, eV]
            refine g5.trans ?_
            rw [← hB, mNu, if_pos q2, Nat.min_eq_right q3]
          · rw [a6, eV]
            obtain ⟨x, hx, ex⟩ := tkVal_N (B := I (a + 1)) (q := tkAt (I (a + 1)) e p) q3 (fun i hi => by
              have hk := run_kind q2 (Or.inr rfl) i hi
              obtain ⟨n, n1, n2, n7, nk1, nk2, nk3, nk4, nk5, nal, n128⟩ := by_kinds (hBy (tkAt (I (a + 1)) e p + i) (by omega))
              have := nk2.mp hk
              exact ⟨n, this.1, this.2, n128 (by omega)⟩)
            exact ⟨x, Nat.lt_of_lt_of_le hx (Nat.pow_le_pow_right (n := 10) (by decide) q3), ex⟩
        · exact absurd z (by decide)
      · rename_i q2
        exact absurd z q2
  · intro z
    rw [a4, hkd] at z
    have q1 : tkK0 (I (a + 1)) e p = 1 := by
      split at z
      · assumption
      · split at z
        · split at z
          · exact absurd z (by decide)
          · exact absurd z (by decide)
        · rename_i q1 q2
          exact absurd z q1
    rw [if_pos q1] at z
    have q3 : tkNx (I (a + 1)) e p - tkAt (I (a + 1)) e p ≤ 8 := by
      split at z
      · assumption
      · exact absurd z (by decide)
    rw [kA2, kN2, aB]
    refine ⟨?_, q3, fun i hi => ?_⟩
    · rw [eN]
      show mNxJ K.1 K.2 g e p g 30 = _
      rw [mNxJ, ← hB, if_pos q1, up2_same, Nat.min_eq_right q3]
    · have hk := run_kind q1 (Or.inl rfl) i hi
      obtain ⟨n, n1, n2, n7, nk1, nk2, nk3, nk4, nk5, nal, n128⟩ := by_kinds (hBy (tkAt (I (a + 1)) e p + i) (by omega))
      have := nk1.mp hk
      exact ⟨n, this.1, this.2, n128 (by omega)⟩
  · intro z
    rw [a4] at z
    have q6 : ¬ tkK0 (I (a + 1)) e p = 6 := fun y => z (by rw [hkd, y]; rfl)
    have : (nxt K g).1 g 25 = nI (mNx (K.1 (g + 20)) e p) := by rw [eN]; exact g1
    rw [kN2, mAt, this, ← hB, mNx, if_neg q6]
    exact (nI_clamp (by omega)).symm
  · rw [a4, hkd]
    split
    · split
      · exact Or.inr (Or.inl rfl)
      · exact Or.inr (Or.inr (Or.inr (Or.inr (Or.inr (Or.inr rfl)))))
    · split
      · split
        · exact Or.inr (Or.inr (Or.inl rfl))
        · exact Or.inr (Or.inr (Or.inr (Or.inr (Or.inr (Or.inr rfl)))))
      · exact hr
theorem adv_sim {I : Mem} {K : MJ} {a g : Nat} (h : TkR I K a g) (h6 : ¬ I a 4 = 6) : TkR (adv I a) (nxt K g) a g := by
  obtain ⟨⟨h1, h2, h3, h4, h5⟩, -, h10, -⟩ := h
  exact tok_sim (e := kE I a) (p := kN I a) h1.1 h1.2.1 h1.2.2.1 (h1.2.2.2.2.2) h2 h3.symm (h10 h6).symm h4 h1
