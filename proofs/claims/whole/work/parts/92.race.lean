/-! ===== phase 2: two teams step; the relation of two races ===== -/
theorem TmR.ints {I I' : Mem} {t u n np s : Nat} (h : TmR I I' t u n np s) (hn : n ≤ 12) : TmOK I t n ∧ I t 7 = nI (pq I t) ∧ pq I t < np ∧ pq I t = mPl I' u ∧ tMm I t = mD I' u ∧ tL I t = mLn I' u ∧ tGm I t = mG I' u ∧ 0 < mD I' u ∧ TR I I' t u (mD I' u) := by
  obtain ⟨m, m0, h1, h2, h3, h4, h5, h6⟩ := h
  have hT := h1
  obtain ⟨⟨m1, m2, m3⟩, ⟨f4, f5, f6, f7, f8, f9, f10, f11, f12, f13, f14⟩, hD, hC, hG, hGs⟩ := h1
  obtain ⟨l1, l2, l3⟩ := h6.ln hn
  obtain ⟨g1, g2, g3, g4, g5, g6, g7, g8, g9, g10, g11⟩ := h6
  have e1 : tMm I t = m := by rw [tMm, m1]; exact nI_clamp (by omega)
  have e2 : mD I' u = m := by rw [mD, m2]; exact nI_clamp (by omega)
  have e3 : tL I t = mLn I' u := by rw [tL, mLn, f10]
  have e4 : tGm I t = mG I' u := by rw [tGm, mG, hG]
  have e5 : pq I t = mPl I' u := by rw [pq, mPl, f7]
  unfold TmOK
  rw [e1, e2, e3, e4, e5]
  exact ⟨⟨m1, m3, f10.trans l1, l2, hG.trans g7, g8⟩, f7.trans g5, g6, rfl, rfl, rfl, rfl, m0, hT⟩
theorem mOf_le (I : Mem) (u : Nat) (x : Int32) (m : Nat) : ∃ c, c ≤ m ∧ mOf I u x m = nI c := mOf_nI I u x m
theorem TmR.ld {I I' : Mem} {t u n np s m : Nat} (hT : TR I I' t u m) (h : tLoad I t = I' u 1) (h6 : MtG I' u n np s) : ∃ ca, ca ≤ 16 ∧ I' u 1 = nI (mOw I' u + 25 * ca) := by
  obtain ⟨⟨m1, m2, m3⟩, ⟨f4, f5, f6, f7, f8, f9, f10, f11, f12, f13, f14⟩, hD, hC, hG, hGs⟩ := hT
  obtain ⟨ca, c1, c2⟩ := mOf_nI I' u 1 m
  refine ⟨ca, by omega, ?_⟩
  rw [← h, tLoad, f4, hD.2.1, c2, h6.2.2.1, show (25 : Int32) * nI ca = nI (25 * ca) from pk_mul 25 ca, nI_add]
theorem tm_step {I I' : Mem} {t u r g n np s S' h : Nat} (hT : TmR I I' t u n np S') (hTl : TlR I I' r (g + 1) (g + 2) (g + 3) n) (hO : TlOK I' g n) (hL : LenOK I' (g + 1) n) (hs : s < 2000) (hP : ∀ q, q < np → PlR I I' (h + 87 + 7 * q) g q) (hgu : g + 3 < u) (hgu2 : u + 9 < g + 19 ∨ g + 27 < u) (hrt : r + 4 < t ∨ t + 9 < r) (ht : t + 9 < h + 87) :
    TmR (tStp I t r (h + 87 + 7 * pq I t) s) (mLd I' g u n s) t u n np S' := by
  obtain ⟨i1, i2, i3, i4, i5, i6, i7, i8, hTR⟩ := hT.ints hTl.2.1
  obtain ⟨m, m0, h1, h2, h3, h4, h5, h6⟩ := hT
  obtain ⟨l1, l2, l3⟩ := h6.ln hTl.2.1
  have em : mD I' u = m := by rw [mD, h1.1.2.1]; exact nI_clamp (by have := h1.1.2.2; omega)
  have en : rN I r = n := by rw [rN, hTl.1]; exact nI_clamp (by have := hTl.2.1; omega)
  have g5 : I' u 4 = nI (mPl I' u) := h6.2.2.2.2.1
  rw [tStp, mLd, i5, i6, en, em, i4]
  rw [em] at l3
  have hw : I' u 5 = 0 ∨ I' u 5 = 1 → mLn I' u < n ∧ dWeak I' u m = some ((dWeak I' u m).getD 0) := fun z => by
    obtain ⟨q1, q2⟩ := l3 z
    obtain ⟨w, hw⟩ := dWeak_of q2
    exact ⟨q1, by rw [hw]; rfl⟩
  obtain ⟨s1, s2, s3⟩ := step_sim (q := mPl I' u) h1 h2 h3 hTl hO hs l1 h6.2.2.1 h6.2.2.2.1 (hP _ (i4 ▸ i3)) hw hgu hgu2 hrt (by omega)
  refine ⟨m, m0, s1, s2, s3, far_lead h3 h1.1.2.2 h4 hL hO h6.2.2.1 h6.2.2.2.1 hgu hs l1 (TmR.ld h1 h2 h6) (fun z => (l3 z).1), ⟨std_lead h5.1, by obtain ⟨st, st1, st2⟩ := h5.2; exact ⟨st, st1, (kpm_lead _ _ (by unfold PM; omega)).trans st2⟩⟩, ?_⟩
  have := mtg_ld (g := g) (s := s) h6 hTl.2.1
  rw [mLd, em] at this
  exact this
/-- the row of distances of a trail -/
def PreOK (I : Mem) (r n : Nat) : Prop := I (r + 3) 0 = 0 ∧ ∀ k, k < n → I (r + 3) (k + 1) = I (r + 3) k + I (r + 1) k
/-- hardness and cold within their bounds -/
def TlX (I' : Mem) (a2 a3 n : Nat) : Prop := (∀ k, k < n → ∃ hd, 50 ≤ hd ∧ hd ≤ 200 ∧ I' a2 k = nI hd) ∧ ∀ k, k < 334 → -50 ≤ I' a3 k ∧ I' a3 k ≤ 20
/-- race r of the class and the race of the reference that lies in the rows a1, a2, a3 and the teams tu -/
def Race (I I' : Mem) (r a1 a2 a3 : Nat) (tu : Nat → Nat) (n c s e np : Nat) : Prop :=
  (I r 2 = nI c ∧ c ≤ 6 ∧ I r 3 = nI s ∧ s ≤ 2000 ∧ I r 4 = nI e ∧ 0 < e ∧ e ≤ 48 ∧ (0 < c → 0 < n)) ∧ (TlR I I' (r + 1) a1 a2 a3 n ∧ PreOK I (r + 1) n ∧ TlX I' a2 a3 n ∧ LenOK I' a1 n) ∧ ∀ i, i < c → TmR I I' (r + 7 + 10 * i) (tu i) n np s
theorem PreOK.keep {I I1 : Mem} {r n : Nat} (h : PreOK I r n) (hc : ∀ b k, b = r + 1 ∨ b = r + 3 → I1 b k = I b k) : PreOK I1 r n := ⟨by rw [hc _ _ (by omega)]; exact h.1, fun k hk => by rw [hc _ _ (by omega), hc _ _ (by omega), hc _ _ (by omega)]; exact h.2 k hk⟩
theorem TlX.keep {I I1 : Mem} {a2 a3 n : Nat} (h : TlX I a2 a3 n) (hm : ∀ b k, b = a2 ∨ b = a3 → I1 b k = I b k) : TlX I1 a2 a3 n := ⟨fun k hk => by rw [hm _ _ (by omega)]; exact h.1 k hk, fun k hk => by rw [hm _ _ (by omega)]; exact h.2 k hk⟩
theorem LenOK.keep {I I1 : Mem} {a n : Nat} (h : LenOK I a n) (hm : ∀ k, I1 a k = I a k) : LenOK I1 a n := fun k hk => by rw [hm]; exact h k hk
theorem Race.keep {I I' I1 I1' : Mem} {r a1 a2 a3 : Nat} {tu : Nat → Nat} {n c s e np : Nat} (h : Race I I' r a1 a2 a3 tu n c s e np)
    (hc : ∀ b k, r ≤ b → b ≤ r + 66 → I1 b k = I b k) (hm : ∀ b k, b = a1 ∨ b = a2 ∨ b = a3 → I1' b k = I' b k) (ht : ∀ i b k, i < c → (tu i ≤ b ∧ b ≤ tu i + 5) ∨ (tu i + 8 ≤ b ∧ b ≤ tu i + 9) → I1' b k = I' b k) : Race I1 I1' r a1 a2 a3 tu n c s e np := by
  obtain ⟨⟨q1, q2, q3, q4, q5, q6, q7, q8⟩, ⟨w1, w2, w3, w4⟩, hT⟩ := h
  refine ⟨⟨by rw [hc _ _ (by omega) (by omega)]; exact q1, q2, by rw [hc _ _ (by omega) (by omega)]; exact q3, q4, by rw [hc _ _ (by omega) (by omega)]; exact q5, q6, q7, q8⟩, ⟨w1.keep (fun b k z => hc _ _ (by omega) (by omega)) hm, w2.keep (fun b k z => hc _ _ (by omega) (by omega)), w3.keep (fun b k z => hm _ _ (by omega)), w4.keep (fun k => hm _ _ (by omega))⟩, fun i hi => (hT i hi).keep (fun b k z1 z2 => hc _ _ (by omega) (by omega)) (fun b k z => ht i b k hi z)⟩
theorem way_eq {I I' : Mem} {r g t u n : Nat} (hT : TlR I I' r (g + 1) (g + 2) (g + 3) n) (hP : PreOK I r n) (h7 : I t 11 = I' u 7) : ∀ l, l ≤ n → tWay I r t l = mWay I' g u l
  | 0, _ => by rw [tWay, mWay, hP.1, h7]; exact Int32.zero_add _
  | l + 1, hl => by
    have ih := way_eq hT hP h7 l (by omega)
    rw [tWay] at ih
    rw [tWay, mWay, ← ih, hP.2 l (by omega), (hT.2.2.1 l (by omega)).1]
    grind
theorem way_N {I : Mem} {g u n : Nat} (hf : FarOK I u) (hL : LenOK I (g + 1) n) : ∀ l, l ≤ n → ∃ x, x ≤ 2000 + 2000 * l ∧ mWay I g u l = nI x
  | 0, _ => by obtain ⟨f, h1, h2⟩ := hf; exact ⟨f, by omega, h2⟩
  | l + 1, hl => by
    obtain ⟨x, h1, h2⟩ := way_N hf hL l (by omega)
    obtain ⟨y, h3, h4⟩ := hL l (by omega)
    exact ⟨x + y, by omega, by rw [mWay, h2, h4, nI_add]⟩
theorem trail_eq {I I' : Mem} {r g n : Nat} (hT : TlR I I' r (g + 1) (g + 2) (g + 3) n) (hP : PreOK I r n) : ∀ l, l ≤ n → I (r + 3) l = mTrail I' g l
  | 0, _ => hP.1
  | l + 1, hl => by
    rw [hP.2 l (by omega), trail_eq hT hP l (by omega), mTrail, (hT.2.2.1 l (by omega)).1]
