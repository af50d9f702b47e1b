/-! ===== phase 2: the relation of the two memories between calls ===== -/
/-- the cells that the other run of team i by plan q reads in its first gs steps -/
def PGh (g q gs b k : Nat) : Prop := (g + 9 ≤ b ∧ b ≤ g + 18) ∨ (0 < gs ∧ (b = g + 1 ∨ b = g + 2)) ∨ (b = g + 3 ∧ 6 * k < gs) ∨ (b = g + 21 ∧ k = q) ∨ ((b = g + 22 ∨ b = g + 23) ∧ 12 * q ≤ k ∧ k < 12 * q + 12) ∨ ((b = g + 24 ∨ b = g + 25 ∨ b = g + 26) ∧ 48 * q ≤ k ∧ k < 48 * q + 48)
theorem Ag.beg {P : Nat → Nat → Prop} {A B : Mem} (h : Ag P A B) (t : Nat) (m l f s p : Int32) : Ag P (mBegin A t m l f s p) (mBegin B t m l f s p) := by
  have h1 : Ag P (mPuts A t m l f s p) (mPuts B t m l f s p) := by
    unfold mPuts
    exact ((((((((((((((h.up rfl).up rfl).up rfl).up rfl).up rfl).up rfl).up rfl).up rfl).up rfl).up rfl).up rfl).up rfl).up rfl).up rfl).up rfl
  have h2 : ∀ j, Ag P (dBeg (mPuts A t m l f s p) t j) (dBeg (mPuts B t m l f s p) t j) := by
    intro j
    induction j with
    | zero => exact h1
    | succ j ih => exact ((ih.up rfl).up rfl).up rfl
  have h3 : ∀ j, Ag P (mClr (dBeg (mPuts A t m l f s p) t 16) t j) (mClr (dBeg (mPuts B t m l f s p) t 16) t j) := by
    intro j
    induction j with
    | zero => exact h2 16
    | succ j ih => exact (ih.up rfl).up rfl
  exact h3 13
theorem gh_4 {A : Mem} {g i n q : Nat} : ∀ s, mGh A g i n (nI q) s (g + 9) 4 = nI q
  | 0 => by rw [mGh, mBegin_f]; exact (mPuts_f _ _ _ _ _ _ _).2.2.2.2.1
  | s + 1 => by rw [mGh]; exact (kpm_lead (g + 9) 4 (by unfold PM; omega)).trans (gh_4 s)
theorem gh_ag {A B : Mem} {g i n q gs : Nat} (h : Ag (PGh g q gs) A B) (hm : ∀ k, k = 0 ∨ k = 3 ∨ k = 13 ∨ k = 14 → A (mt g i) k = B (mt g i) k) (hq : q < 9) (hP : MplOK A g q) : ∀ s, s ≤ gs → Ag (PGh g q gs) (mGh A g i n (nI q) s) (mGh B g i n (nI q) s)
  | 0, _ => by
    rw [mGh, mGh, hm 0 (by omega), hm 3 (by omega), hm 13 (by omega), hm 14 (by omega)]
    exact h.beg _ _ _ _ _ _
  | s + 1, hs => by
    have ih := gh_ag (n := n) h hm hq hP s (by omega)
    have p4 : mPl (mGh A g i n (nI q) s) (g + 9) = q := by rw [mPl, gh_4]; exact nI_clamp (by omega)
    have p4' : mPl (mGh B g i n (nI q) s) (g + 9) = q := by rw [mPl, gh_4]; exact nI_clamp (by omega)
    have hP' : MplOK (mGh A g i n (nI q) s) g q := hP.c (fun k => kp_mGh s _ _ (by omega)) (fun k => kp_mGh s _ _ (by omega))
    rw [mGh, mGh, mLd, mLd, p4, p4']
    generalize mGh A g i n (nI q) s = A1 at *
    generalize mGh B g i n (nI q) s = B1 at *
    have hu : ∀ b k, g + 9 ≤ b → b ≤ g + 9 + 5 → PGh g q gs b k := fun b k h1 h2 => Or.inl (by omega)
    have e1 : mD A1 (g + 9) = mD B1 (g + 9) := by rw [mD, mD, ih _ _ (hu _ _ (by omega) (by omega))]
    have e2 : mLn A1 (g + 9) = mLn B1 (g + 9) := by rw [mLn, mLn, ih _ _ (hu _ _ (by omega) (by omega))]
    have e3 : dWeak A1 (g + 9) (mD B1 (g + 9)) = dWeak B1 (g + 9) (mD B1 (g + 9)) := dr_weak (ag_two ih hu)
    rw [e1, e2, e3]
    exact ag_lead ih hu (Or.inr (Or.inl (by omega))) (Or.inr (Or.inl (by omega))) (Or.inr (Or.inr (Or.inl (by omega)))) ⟨Or.inr (Or.inr (Or.inr (Or.inl (by omega)))), fun k h1 h2 => ⟨Or.inr (Or.inr (Or.inr (Or.inr (Or.inl (by omega))))), Or.inr (Or.inr (Or.inr (Or.inr (Or.inl (by omega)))))⟩, fun k h1 h2 => ⟨Or.inr (Or.inr (Or.inr (Or.inr (Or.inr (by omega))))), Or.inr (Or.inr (Or.inr (Or.inr (Or.inr (by omega))))), Or.inr (Or.inr (Or.inr (Or.inr (Or.inr (by omega)))))⟩⟩ hP' (by omega)
/-- the ghost of the class and the other run of the reference -/
def Ghost (I I' : Mem) (h g n c s np : Nat) : Prop := I h 9 = -1 ∨ ∃ i q gs, i < c ∧ q < np ∧ gs ≤ s ∧ I h 9 = nI i ∧ I h 10 = nI q ∧ I h 11 = nI gs ∧ ∀ B : Mem, (∀ b k, ¬ (g + 9 ≤ b ∧ b ≤ g + 18) → B b k = I' b k) → TmR I (mGh B g i n (nI q) gs) (h + 77) (g + 9) n np s
/-- what a change of the reference must leave to keep the other run of s steps at most -/
def GhK (I' I1' : Mem) (g n c s np : Nat) : Prop := (∀ i k, i < c → k = 0 ∨ k = 3 ∨ k = 13 ∨ k = 14 → I1' (mt g i) k = I' (mt g i) k) ∧ (0 < s → ∀ k, I1' (g + 1) k = I' (g + 1) k ∧ I1' (g + 2) k = I' (g + 2) k) ∧ (∀ k, 6 * k < s → I1' (g + 3) k = I' (g + 3) k) ∧ ∀ q, q < np → I1' (g + 21) q = I' (g + 21) q ∧ (∀ k, 12 * q ≤ k → k < 12 * q + 12 → I1' (g + 22) k = I' (g + 22) k ∧ I1' (g + 23) k = I' (g + 23) k) ∧ ∀ k, 48 * q ≤ k → k < 48 * q + 48 → I1' (g + 24) k = I' (g + 24) k ∧ I1' (g + 25) k = I' (g + 25) k ∧ I1' (g + 26) k = I' (g + 26) k
theorem GhK.all {I' I1' : Mem} {g n c s np : Nat} (h : ∀ b k, (b = g + 1 ∨ b = g + 2 ∨ b = g + 3 ∨ (g + 21 ≤ b ∧ b ≤ g + 26)) ∨ (∃ i, i < c ∧ b = mt g i ∧ (k = 0 ∨ k = 3 ∨ k = 13 ∨ k = 14)) → I1' b k = I' b k) : GhK I' I1' g n c s np :=
  ⟨fun i k hi hk => h _ _ (Or.inr ⟨i, hi, rfl, hk⟩), fun _ k => ⟨h _ _ (by omega), h _ _ (by omega)⟩, fun k _ => h _ _ (by omega), fun q _ => ⟨h _ _ (by omega), fun k _ _ => ⟨h _ _ (by omega), h _ _ (by omega)⟩, fun k _ _ => ⟨h _ _ (by omega), h _ _ (by omega), h _ _ (by omega)⟩⟩⟩
theorem Ghost.keep {I I' I1 I1' : Mem} {h g n n1 c s np : Nat} (H : Ghost I I' h g n c s np) (hnp : np ≤ 8) (hPl : ∀ q, q < np → MplOK I' g q) (hc : ∀ k, k = 9 ∨ k = 10 ∨ k = 11 → I1 h k = I h k) (hc2 : ∀ b k, h + 77 ≤ b → b ≤ h + 86 → I1 b k = I b k) (hk : GhK I' I1' g n c s np) (hn : 0 < s → n1 = n) (hn1 : n ≤ n1) : Ghost I1 I1' h g n1 c s np := by
  rcases H with H | ⟨i, q, gs, h1, h2, h3, h4, h5, h6, h7⟩
  · exact Or.inl (by rw [hc _ (by omega)]; exact H)
  · refine Or.inr ⟨i, q, gs, h1, h2, h3, by rw [hc _ (by omega)]; exact h4, by rw [hc _ (by omega)]; exact h5, by rw [hc _ (by omega)]; exact h6, fun B hB => ?_⟩
    have hA := h7 (fun b k => if g + 9 ≤ b ∧ b ≤ g + 18 then B b k else I' b k) (fun b k z => if_neg z)
    generalize hAe : (fun b k => if g + 9 ≤ b ∧ b ≤ g + 18 then B b k else I' b k : Mem) = A at hA
    have eo : ∀ b k, ¬ (g + 9 ≤ b ∧ b ≤ g + 18) → A b k = I' b k := fun b k z => by rw [← hAe]; simp only; rw [if_neg z]
    have ei : ∀ b k, g + 9 ≤ b ∧ b ≤ g + 18 → A b k = B b k := fun b k z => by rw [← hAe]; simp only; rw [if_pos z]
    obtain ⟨k1, k2, k3, k4⟩ := hk
    obtain ⟨k5, k6, k7⟩ := k4 q h2
    have hag : Ag (PGh g q gs) A B := by
      intro b k z
      rcases z with z | ⟨z0, z⟩ | z | z | z | z
      · exact ei b k z
      · rw [eo _ _ (by omega), hB _ _ (by omega)]
        rcases z with rfl | rfl
        · exact ((k2 (by omega) k).1).symm
        · exact ((k2 (by omega) k).2).symm
      · rw [eo _ _ (by omega), hB _ _ (by omega), z.1]
        exact (k3 k (by omega)).symm
      · rw [eo _ _ (by omega), hB _ _ (by omega), z.1, z.2]
        exact k5.symm
      · rw [eo _ _ (by omega), hB _ _ (by omega)]
        obtain ⟨z1, z2, z3⟩ := z
        rcases z1 with rfl | rfl
        · exact ((k6 k z2 z3).1).symm
        · exact ((k6 k z2 z3).2).symm
      · rw [eo _ _ (by omega), hB _ _ (by omega)]
        obtain ⟨z1, z2, z3⟩ := z
        rcases z1 with rfl | rfl | rfl
        · exact ((k7 k z2 z3).1).symm
        · exact ((k7 k z2 z3).2.1).symm
        · exact ((k7 k z2 z3).2.2).symm
    have m1 := mt_e g i
    have hmt : ∀ k, k = 0 ∨ k = 3 ∨ k = 13 ∨ k = 14 → A (mt g i) k = B (mt g i) k := fun k z => by
      rw [eo _ _ (by omega), hB _ _ (by omega)]
      exact (k1 i k h1 z).symm
    have hP : MplOK A g q := (hPl q h2).c (fun k => eo _ _ (by omega)) (fun k => eo _ _ (by omega))
    have hr := gh_ag (n := n) hag hmt (by omega) hP gs (Nat.le_refl _)
    have hr2 : ∀ b k, g + 9 ≤ b → b ≤ g + 18 → mGh B g i n (nI q) gs b k = mGh A g i n (nI q) gs b k := fun b k z1 z2 => (hr b k (Or.inl ⟨z1, z2⟩)).symm
    have hfin : TmR I1 (mGh B g i n (nI q) gs) (h + 77) (g + 9) n np s := hA.keep (fun b k z1 z2 => hc2 b k z1 (by omega)) (fun b k z => hr2 b k (by omega) (by omega))
    rcases Nat.eq_zero_or_pos s with z | z
    · obtain rfl : gs = 0 := by omega
      obtain ⟨m, m0, q1, q2, q3, q4, q5, q6⟩ := hfin
      refine ⟨m, m0, q1, q2, q3, q4, q5, ?_⟩
      obtain ⟨w1, w2, w3, w4, w5, w6, w7, w8, w9, w10, l, l1, l2, l3⟩ := q6
      exact ⟨w1, w2, w3, w4, w5, w6, w7, w8, w9, w10, l, l1, by omega, fun y => ⟨by have := (l3 y).1; omega, (l3 y).2⟩⟩
    · rw [hn z]
      exact hfin
abbrev rwA (V : Nat → Nat → Option Nat) (h i : Nat) : Nat := rowA V (h + 150 + 2 * i)
abbrev rwL (S : Nat → Option (Nat × Nat)) (V : Nat → Nat → Option Nat) (h i : Nat) : Nat := rowN S V (h + 150 + 2 * i)
/-- the rows of signs: where they lie -/
def RowsS (S : Nat → Option (Nat × Nat)) (V : Nat → Nat → Option Nat) (N h g : Nat) : Prop := (∀ i, i < 6 → RowSh S V (h + 150 + 2 * i) (rwA V h i) (rwL S V h i) ∧ (rwA V h i = h + 151 + 2 * i ∨ g + 148 ≤ rwA V h i) ∧ rwA V h i < N) ∧ ∀ i j, i < 6 → j < 6 → i ≠ j → rwA V h i ≠ rwA V h j
def Plans (I I' : Mem) (h g np : Nat) : Prop := I h 7 = nI np ∧ I' g 31 = nI np ∧ np ≤ 8 ∧ ∀ q, q < np → PlR I I' (h + 87 + 7 * q) g q
def Laws (I I' : Mem) (h g k : Nat) : Prop := I (h + 4) 4 = nI k ∧ I' g 38 = nI k ∧ k ≤ 10 ∧ ∀ j, j < k → LwE I I' (h + 4) g j
def TapeR (I I' : Mem) (h g z : Nat) : Prop := I (h + 1) 1 = nI z ∧ I' g 23 = nI z ∧ z ≤ 400 ∧ (∀ k, I (h + 2) k = I' (g + 20) k) ∧ ∀ k, k < 400 → ByOK (I' (g + 20) k)
def Trb (I I' : Mem) (h g : Nat) : Prop := I h 8 = I' g 1 ∧ I (h + 1) 7 = I' g 3 ∧ I' g 2 = if I h 8 = 4 then I (h + 1) 8 else -1
def Tims (I' : Mem) (tu : Nat → Nat) (n c s : Nat) : Prop := ∀ i, i < c → TimOK I' (tu i) n s
/-- the race that was kept, K that of the class -/
def KeptAt (S : Nat → Option (Nat × Nat)) (V : Nat → Nat → Option Nat) (N : Nat) (I I' : Mem) (h g s e np K n' c' s' e' : Nat) : Prop :=
  (V h 6 = some K ∧ g + 148 ≤ K ∧ K + 66 < N ∧ RaceSh S V K ∧ ∀ i, i < 6 → rwA V h i < K ∨ K + 66 < rwA V h i) ∧ Race I I' K (g + 5) (g + 6) (g + 7) (kt g) n' c' s' e' np ∧ (I' g 12 = nI n' ∧ I' g 13 = nI c' ∧ I' g 14 = nI s' ∧ I' g 15 = nI e') ∧ s' ≤ s ∧ (0 < s' → e' = e ∧ ∀ i, i < c' → rowMost e' ≤ rwL S V h i) ∧ (∀ i, i < c' → SgR I I' (rwA V h i) (kt g i) e' s') ∧ Tims I' (kt g) n' c' s'
def Kept (S : Nat → Option (Nat × Nat)) (V : Nat → Nat → Option Nat) (N : Nat) (I I' : Mem) (h g s e np : Nat) : Prop := (V h 6 = none ∧ I' g 12 = -1) ∨ ∃ K n' c' s' e', KeptAt S V N I I' h g s e np K n' c' s' e'
/-- the signs that came -/
def Signs (S : Nat → Option (Nat × Nat)) (V : Nat → Nat → Option Nat) (I I' : Mem) (h g c s e : Nat) : Prop := (0 < s → ∀ i, i < c → rowMost e ≤ rwL S V h i) ∧ ∀ i, i < c → SgR I I' (rwA V h i) (mt g i) e s
def Shp (S : Nat → Option (Nat × Nat)) (V : Nat → Nat → Option Nat) (N h g : Nat) : Prop := HouseSh S V h ∧ MdSh S V g ∧ MrSh S V g ∧ g = h + 162 ∧ g + 148 ≤ N ∧ RowsS S V N h g
def Nms (I' : Mem) (g n c s e : Nat) : Prop := I' g 0 = 0 ∧ I' g 4 = nI n ∧ I' g 5 = nI c ∧ I' g 6 = nI s ∧ I' g 7 = nI e
abbrev Now (I I' : Mem) (h g n c s e np : Nat) : Prop := Race I I' (h + 9) (g + 1) (g + 2) (g + 3) (mt g) n c s e np
/-- the class's memory I and the reference's I' between two calls -/
def RelA (S : Nat → Option (Nat × Nat)) (V : Nat → Nat → Option Nat) (N : Nat) (I I' : Mem) (h g n c s e np k z : Nat) : Prop :=
  Shp S V N h g ∧ Nms I' g n c s e ∧ Now I I' h g n c s e np ∧ Signs S V I I' h g c s e ∧ Tims I' (mt g) n c s ∧ Plans I I' h g np ∧ Laws I I' h g k ∧ TapeR I I' h g z ∧ Kept S V N I I' h g s e np ∧ Ghost I I' h g n c s np
def Rel (S : Nat → Option (Nat × Nat)) (V : Nat → Nat → Option Nat) (N : Nat) (I I' : Mem) (h g n c s e np k z : Nat) : Prop := RelA S V N I I' h g n c s e np k z ∧ Trb I I' h g
theorem MdSh.hHd {I' : Mem} {g n : Nat} (h : TlX I' (g + 2) (g + 3) n) : ∀ l, l < n → ¬ 1000 * I' (g + 2) l = 0 := fun l hl => by
  obtain ⟨hd, h1, h2, h3⟩ := h.1 l hl
  rw [h3, show (1000 : Int32) * nI hd = nI (1000 * hd) from pk_mul 1000 hd]
  exact fun z => absurd (nI_z (by omega) z) (by omega)
theorem rel_hs {S : Nat → Option (Nat × Nat)} {V : Nat → Nat → Option Nat} {N : Nat} {I I' : Mem} {h g n c s e np k z : Nat} (H : RelA S V N I I' h g n c s e np k z) : HS h c e n np s S I V N := by
  obtain ⟨⟨s1, s2, s3, s4, s5, s6, s7⟩, -, ⟨⟨q1, q2, q3, q4, q5, q6, q7, q8⟩, ⟨w1, w2, w3, w4⟩, hT⟩, -, -, ⟨p1, p2, p3, p4⟩, -⟩ := H
  refine ⟨s1, by omega, q1, q2, q5, q6, q7, q3, q4, w1.1, w1.2.1, by omega, fun i hi => ?_, fun q hq => (p4 q hq).1, fun i hi => ?_⟩
  · have := (hT i hi).ints w1.2.1
    exact ⟨this.1, this.2.1, this.2.2.1⟩
  · obtain ⟨r1, r2, r3⟩ := s6 i hi
    exact ⟨_, _, r1, by omega, r3⟩
theorem rel_ms {S : Nat → Option (Nat × Nat)} {V : Nat → Nat → Option Nat} {N : Nat} {I I' : Mem} {h g n c s e np k z : Nat} (H : RelA S V N I I' h g n c s e np k z) : MS g c e n np s S I' V := by
  obtain ⟨⟨s1, s2, s3, s4, s5, s6, s7⟩, ⟨n1, n2, n3, n4, n5⟩, ⟨⟨q1, q2, q3, q4, q5, q6, q7, q8⟩, ⟨w1, w2, w3, w4⟩, hT⟩, -, -, ⟨p1, p2, p3, p4⟩, -⟩ := H
  exact ⟨s2, s3, n1, n3, q2, n5, q6, q7, n4, q4, n2, w1.2.1, p2, p3, fun p hp => (p4 p hp).2.1, MdSh.hHd w3, fun i hi => by obtain ⟨m, m0, t1, t2, t3, t4, t5, t6⟩ := hT i hi; exact t6⟩
theorem SgR.kp {I I' I1 I1' : Mem} {a u e s : Nat} (h : SgR I I' a u e s) (hc : ∀ k, I1 a k = I a k) (hm : ∀ b k, (b = u ∧ k = 11) ∨ b = u + 6 ∨ b = u + 7 → I1' b k = I' b k) : SgR I1 I1' a u e s := h.keep (fun k _ => hc k) (hm _ _ (by omega)) (fun k _ => ⟨hm _ _ (by omega), hm _ _ (by omega)⟩)
theorem KeptAt.mem {S : Nat → Option (Nat × Nat)} {V : Nat → Nat → Option Nat} {N : Nat} {I I' I1 I1' : Mem} {h g s s1 e e1 np K n' c' s' e' : Nat} (H : KeptAt S V N I I' h g s e np K n' c' s' e')
    (hc : ∀ b k, K ≤ b → b ≤ K + 66 → I1 b k = I b k) (hr : ∀ i k, i < 6 → k < pP e' s' → I1 (rwA V h i) k = I (rwA V h i) k) (hm : ∀ b k, (b = g ∧ 12 ≤ k ∧ k ≤ 15) ∨ b = g + 5 ∨ b = g + 6 ∨ b = g + 7 → I1' b k = I' b k) (ht : ∀ i b k, i < 6 → kt g i ≤ b → b ≤ kt g i + 9 → I1' b k = I' b k) (hs : s ≤ s1) (he : 0 < s → e1 = e) : KeptAt S V N I1 I1' h g s1 e1 np K n' c' s' e' := by
  obtain ⟨a1, a2, ⟨b1, b2, b3, b4⟩, a4, a5, a6, a7⟩ := H
  have c6 : c' ≤ 6 := a2.1.2.1
  refine ⟨a1, a2.keep hc (fun b k z => hm b k (by omega)) (fun i b k hi z => ht i b k (by omega) (by omega) (by omega)), ⟨(hm _ _ (by omega)).trans b1, (hm _ _ (by omega)).trans b2, (hm _ _ (by omega)).trans b3, (hm _ _ (by omega)).trans b4⟩, by omega, fun z => ⟨by rw [he (by omega)]; exact (a5 z).1, (a5 z).2⟩, fun i hi => (a6 i hi).keep (fun k hk => hr i k (by omega) hk) (ht i _ _ (by omega) (by omega) (by omega)) (fun k _ => ⟨ht i _ _ (by omega) (by omega) (by omega), ht i _ _ (by omega) (by omega) (by omega)⟩), fun i hi => (a7 i hi).kp (fun b k z1 z2 => ht i b k (by omega) z1 (by omega))⟩
theorem rw_in {S : Nat → Option (Nat × Nat)} {V : Nat → Nat → Option Nat} {N h g : Nat} (H : Shp S V N h g) {i : Nat} (hi : i < 6) : (h + 150 ≤ rwA V h i ∧ rwA V h i < g) ∨ g + 148 ≤ rwA V h i := by
  obtain ⟨s1, s2, s3, s4, s5, s6, s7⟩ := H
  have := (s6 i hi).2.1
  omega
/-- cells that the relation doesn't read may change -/
theorem RelA.mem {S : Nat → Option (Nat × Nat)} {V : Nat → Nat → Option Nat} {N : Nat} {I I' I1 I1' : Mem} {h g n c s e np k z : Nat} (H : RelA S V N I I' h g n c s e np k z)
    (hc : ∀ b j, (b < g ∨ g + 148 ≤ b) → ¬ (b = h ∧ j = 8) → ¬ (b = h + 1 ∧ j ≠ 1) → I1 b j = I b j) (hm : ∀ b j, g ≤ b → b < g + 148 → ¬ (b = g ∧ (j = 1 ∨ j = 2 ∨ j = 3 ∨ (24 ≤ j ∧ j ≤ 30))) → b ≠ g + 19 → I1' b j = I' b j) : RelA S V N I1 I1' h g n c s e np k z := by
  obtain ⟨hS, ⟨n1, n2, n3, n4, n5⟩, hN, ⟨g1, g2⟩, hTi, ⟨p1, p2, p3, p4⟩, ⟨l1, l2, l3, l4⟩, ⟨t1, t2, t3, t4, t5⟩, hK, hG⟩ := H
  have hgh : g = h + 162 := hS.2.2.2.1
  have c6 : c ≤ 6 := hN.1.2.1
  have mo : ∀ i b j, i < 6 → (mt g i ≤ b ∧ b ≤ mt g i + 9) ∨ (kt g i ≤ b ∧ b ≤ kt g i + 9) → I1' b j = I' b j := fun i b j hi z => by
    have e1 := mt_e g i
    have e2 := kt_e g i
    exact hm _ _ (by omega) (by omega) (by omega) (by omega)
  refine ⟨hS, ⟨(hm _ _ (by omega) (by omega) (by omega) (by omega)).trans n1, (hm _ _ (by omega) (by omega) (by omega) (by omega)).trans n2, (hm _ _ (by omega) (by omega) (by omega) (by omega)).trans n3, (hm _ _ (by omega) (by omega) (by omega) (by omega)).trans n4, (hm _ _ (by omega) (by omega) (by omega) (by omega)).trans n5⟩, hN.keep (fun b j q1 q2 => hc _ _ (by omega) (by omega) (by omega)) (fun b j q => hm _ _ (by omega) (by omega) (by omega) (by omega)) (fun i b j hi q => mo i b j (by omega) (by omega)), ⟨g1, fun i hi => (g2 i hi).kp (fun j => hc _ _ (by have := rw_in hS (show i < 6 by omega); omega) (by have := rw_in hS (show i < 6 by omega); omega) (by have := rw_in hS (show i < 6 by omega); omega)) (fun b j q => mo i b j (by omega) (by omega))⟩, fun i hi => (hTi i hi).kp (fun b j q1 q2 => mo i b j (by omega) (by omega)), ⟨(hc _ _ (by omega) (by omega) (by omega)).trans p1, (hm _ _ (by omega) (by omega) (by omega) (by omega)).trans p2, p3, fun q hq => (p4 q hq).keep (fun b j q1 q2 => hc _ _ (by omega) (by omega) (by omega)) (fun b j q1 q2 => hm _ _ (by omega) (by omega) (by omega) (by omega))⟩, ⟨(hc _ _ (by omega) (by omega) (by omega)).trans l1, (hm _ _ (by omega) (by omega) (by omega) (by omega)).trans l2, l3, fun j hj => (l4 j hj).keep (fun b q1 q2 => hc _ _ (by omega) (by omega) (by omega)) (fun b q1 q2 => hm _ _ (by omega) (by omega) (by omega) (by omega))⟩, ⟨(hc _ _ (by omega) (by omega) (by omega)).trans t1, (hm _ _ (by omega) (by omega) (by omega) (by omega)).trans t2, t3, fun j => by rw [hc _ _ (by omega) (by omega) (by omega), hm _ _ (by omega) (by omega) (by omega) (by omega)]; exact t4 j, fun j hj => by rw [hm _ _ (by omega) (by omega) (by omega) (by omega)]; exact t5 j hj⟩, ?_, hG.keep p3 (fun q hq => (p4 q hq).2.1) (fun j q => hc _ _ (by omega) (by omega) (by omega)) (fun b j q1 q2 => hc _ _ (by omega) (by omega) (by omega)) (GhK.all fun b j q => ?_) (fun _ => rfl) (Nat.le_refl _)⟩
  · rcases hK with ⟨k1, k2⟩ | ⟨K, n', c', s', e', hK⟩
    · exact Or.inl ⟨k1, (hm _ _ (by omega) (by omega) (by omega) (by omega)).trans k2⟩
    · have k2 : g + 148 ≤ K := hK.1.2.1
      exact Or.inr ⟨K, n', c', s', e', hK.mem (fun b j q1 q2 => hc _ _ (by omega) (by omega) (by omega)) (fun i j hi _ => hc _ _ (by have := rw_in hS hi; omega) (by have := rw_in hS hi; omega) (by have := rw_in hS hi; omega)) (fun b j q => hm _ _ (by omega) (by omega) (by omega) (by omega)) (fun i b j hi q1 q2 => mo i b j hi (by omega)) (Nat.le_refl _) (fun _ => rfl)⟩
  · rcases q with q | ⟨i, hi, q1, q2⟩
    · exact hm _ _ (by omega) (by omega) (by omega) (by omega)
    · exact mo i b j (by omega) (by omega)
