/-! ===== SledHouse: oneStep, run ===== -/
theorem PlanSh.ag {S S' : Nat → Option (Nat × Nat)} {V V' : Nat → Nat → Option Nat} {p : Nat} (h : PlanSh S V p) (hb : ∀ b, p ≤ b → b ≤ p + 6 → S' b = S b ∧ V' b = V b) : PlanSh S' V' p := by
  have e0 := hb p (by omega) (by omega)
  have e1 := hb (p + 1) (by omega) (by omega)
  have e2 := hb (p + 2) (by omega) (by omega)
  have e3 := hb (p + 3) (by omega) (by omega)
  have e4 := hb (p + 4) (by omega) (by omega)
  have e5 := hb (p + 5) (by omega) (by omega)
  have e6 := hb (p + 6) (by omega) (by omega)
  unfold PlanSh at h ⊢
  rw [e0.1, e0.2, e1.1, e2.1, e3.1, e4.1, e5.1, e6.1]
  exact h
theorem LawSh.ag {S S' : Nat → Option (Nat × Nat)} {V V' : Nat → Nat → Option Nat} {p : Nat} (h : LawSh S V p) (hb : ∀ b, p ≤ b → b ≤ p + 4 → S' b = S b ∧ V' b = V b) : LawSh S' V' p := by
  have e0 := hb p (by omega) (by omega)
  have e1 := hb (p + 1) (by omega) (by omega)
  have e2 := hb (p + 2) (by omega) (by omega)
  have e3 := hb (p + 3) (by omega) (by omega)
  have e4 := hb (p + 4) (by omega) (by omega)
  unfold LawSh at h ⊢
  rw [e0.1, e0.2, e1.1, e2.1, e3.1, e4.1]
  exact h
theorem RaceSh.ag {S S' : Nat → Option (Nat × Nat)} {V V' : Nat → Nat → Option Nat} {r : Nat} (h : RaceSh S V r) (hb : ∀ b, r ≤ b → b ≤ r + 66 → S' b = S b ∧ V' b = V b) : RaceSh S' V' r := by
  have e0 := hb r (by omega) (by omega)
  have e6 := hb (r + 6) (by omega) (by omega)
  unfold RaceSh at h ⊢
  rw [e0.1, e0.2, e6.1, e6.2]
  obtain ⟨a, b, c, d, f, g⟩ := h
  exact ⟨a, b, c, d.ag (fun b a1 a2 => hb b (by omega) (by omega)), f, fun i hi => ⟨(g i hi).1, (g i hi).2.ag (fun b a1 a2 => hb b (by omega) (by omega))⟩⟩
theorem HouseSh.ag {S S' : Nat → Option (Nat × Nat)} {V V' : Nat → Nat → Option Nat} {h : Nat} (hh : HouseSh S V h) (hS : ∀ b, h ≤ b → b < h + 162 → S' b = S b) (hV : ∀ b, h ≤ b → b < h + 150 → V' b = V b) : HouseSh S' V' h := by
  have hb : ∀ b, h ≤ b → b < h + 150 → S' b = S b ∧ V' b = V b := fun b a1 a2 => ⟨hS b a1 (by omega), hV b a1 a2⟩
  have e0 := hb h (by omega) (by omega)
  have e1 := hb (h + 1) (by omega) (by omega)
  have e2 := hb (h + 1 + 1) (by omega) (by omega)
  have e3 := hb (h + 3) (by omega) (by omega)
  have e76 := hb (h + 76) (by omega) (by omega)
  unfold HouseSh at hh ⊢
  obtain ⟨a0, a1, a2, a3, a4, a5, a6, a7, a8, a9, a10, a11, a12, a13, a14⟩ := hh
  rw [e0.1, e0.2, e3.1, e3.2, e76.1, e76.2]
  refine ⟨a0, a1, a2, a3, a4, a5, a6, ?_, a8, fun i hi => ⟨(a9 i hi).1, (a9 i hi).2.ag (fun b c1 c2 => hb b (by omega) (by omega))⟩, a10.ag (fun b c1 c2 => hb b (by omega) (by omega)), a11.ag (fun b c1 c2 => hb b (by omega) (by omega)), a12, a13.ag (fun b c1 c2 => hb b (by omega) (by omega)), fun i hi => ⟨(a14 i hi).1, by rw [hS _ (by omega) (by omega)]; exact (a14 i hi).2⟩⟩
  unfold TapeSh at a7 ⊢
  rw [e1.1, e1.2, e2.1]
  exact a7
def rowA (V : Nat → Nat → Option Nat) (g : Nat) : Nat := (V g 0).getD 0
def rowN (S : Nat → Option (Nat × Nat)) (V : Nat → Nat → Option Nat) (g : Nat) : Nat := ((S (rowA V g)).getD (0, 0)).2
def tellW (g t r s e : Nat) : Wd → Wd
  | (S, I, V, J, N) => if s % e = 0 then
      if rowN S V g < rowMost e then (up1 S N (some (100, rowMost e)), up2 (cpyI (zr I N 0) (rowA V g) N 0 0 (rowN S V g)) N (s / e) (tTold (cpyI (zr I N 0) (rowA V g) N 0 0 (rowN S V g)) t r (tL I t) (tGm I t) (nI s)), up2 (zr V N none) g 0 (some N), zr J N 0, N + 1)
      else (S, up2 I (rowA V g) (s / e) (tTold I t r (tL I t) (tGm I t) (nI s)), V, J, N)
    else (S, I, V, J, N)
def tellC (g s e : Nat) : Wd → Nat
  | (S, _, V, _, _) => if s % e = 0 ∧ rowN S V g < rowMost e then 1 else 0
theorem row_a {S : Nat → Option (Nat × Nat)} {V : Nat → Nat → Option Nat} {g a n : Nat} (h : RowSh S V g a n) : rowA V g = a ∧ rowN S V g = n := by
  obtain ⟨h1, h2, h3, h4⟩ := h
  have e1 : rowA V g = a := by unfold rowA; rw [h2]; rfl
  exact ⟨e1, by unfold rowN; rw [e1, h3]; rfl⟩
theorem c_tellW {E : Ev} (GE : Glob E) (S : Nat → Option (Nat × Nat)) (I : Nat → Nat → Int32) (V : Nat → Nat → Option Nat) (J : Nat → Nat → Int64) (N : Nat) (g a n t r e s : Nat) (hW : RowSh S V g a n) (hT : TeamSh S V t) (hR : TrailSh S V r) (hl : I t 10 = nI (tL I t)) (hl12 : tL I t ≤ 12) (hgm : I (t + 5) 2 = nI (tGm I t)) (hg4 : tGm I t ≤ 4) (he : 0 < e) (he48 : e ≤ 48) (hs : s < 2000) (haN : a < N) (hgN : g < N) (htN : t + 9 < N) (hrN : r + 4 < N) (hgt : g < t ∨ t + 9 < g) (hgr2 : g < r ∨ r + 4 < g) :
    Ct E yX6_tell cX6_tell 7 none (rmA 2 (tellC g s e (S, I, V, J, N)) (2000 * tellC g s e (S, I, V, J, N))) [.ref g, .ref t, .ref r, .int (nI s), .int (nI e)] (S, I, V, J, N) (fun v w' => v = none ∧ w' = tellW g t r s e (S, I, V, J, N)) := by
  obtain ⟨ea, en⟩ := row_a hW
  by_cases hm : s % e = 0
  · by_cases hgr : n < rowMost e
    · have h1 : tellC g s e (S, I, V, J, N) = 1 := by rw [tellC, en, if_pos ⟨hm, hgr⟩]
      have h2 : tellW g t r s e (S, I, V, J, N) = (up1 S N (some (100, rowMost e)), up2 (cpyI (zr I N 0) a N 0 0 n) N (s / e) (tTold (cpyI (zr I N 0) a N 0 0 n) t r (tL I t) (tGm I t) (nI s)), up2 (zr V N none) g 0 (some N), zr J N 0, N + 1) := by
        rw [tellW, ea, en, if_pos hm, if_pos hgr]
      rw [h1, h2]
      exact c_tellG GE S I V J N g a n t r _ _ e s hW hT hR hl hl12 hgm hg4 he he48 hs hm hgr haN hgN htN hrN hgt hgr2
    · have h1 : tellC g s e (S, I, V, J, N) = 0 := by rw [tellC, en, if_neg (fun q => hgr q.2)]
      have h2 : tellW g t r s e (S, I, V, J, N) = (S, rowTell I a t r (tL I t) (tGm I t) e s, V, J, N) := by
        rw [tellW, rowTell, ea, en, if_pos hm, if_neg hgr, if_pos hm]
      rw [h1, h2]
      exact c_tell GE S I V J N g a n t r _ _ e s hW hT hR hl hl12 hgm hg4 he he48 hs (fun _ => Nat.le_of_not_lt hgr)
  · have h1 : tellC g s e (S, I, V, J, N) = 0 := by rw [tellC, if_neg (fun q => hm q.1)]
    have h2 : tellW g t r s e (S, I, V, J, N) = (S, rowTell I a t r (tL I t) (tGm I t) e s, V, J, N) := by
      rw [tellW, rowTell, if_neg hm, if_neg hm]
    rw [h1, h2]
    exact c_tell GE S I V J N g a n t r _ _ e s hW hT hR hl hl12 hgm hg4 he he48 hs (fun q => absurd q hm)
/-- the number of the team's plan -/
def pq (I : Mem) (t : Nat) : Nat := (I t 7).toNatClampNeg
def os1 (h s e j : Nat) : Wd → Wd
  | (S, I, V, J, N) => tellW (h + 150 + 2 * j) (tm h j) (h + 9 + 1) s e (S, tStp I (tm h j) (h + 9 + 1) (h + 87 + 7 * pq I (tm h j)) s, V, J, N)
def osT (h s e : Nat) (w : Wd) : Nat → Wd
  | 0 => w
  | j + 1 => os1 h s e j (osT h s e w j)
def osC (h s e : Nat) (w : Wd) : Nat → Nat
  | 0 => 0
  | j + 1 => osC h s e w j + tellC (h + 150 + 2 * j) s e (osT h s e w j)
def osD (h s e : Nat) (w : Wd) : Nat → Nat
  | 0 => 0
  | j + 1 => osD h s e w j + 2000 * tellC (h + 150 + 2 * j) s e (osT h s e w j)
def setI (f : Mem → Mem) : Wd → Wd
  | (S, I, V, J, N) => (S, f I, V, J, N)
def osW (h c s e : Nat) (w : Wd) : Wd := setI (fun I => up2 I (h + 9) 3 (nI (s + 1))) (osT h s e w c)
/-- what stands of a house between two steps -/
abbrev HS (h c e n pc u : Nat) (S : Nat → Option (Nat × Nat)) (I : Mem) (V : Nat → Nat → Option Nat) (N : Nat) : Prop :=
  (HouseSh S V h) ∧ (h + 162 ≤ N) ∧ (I (h + 9) 2 = nI c) ∧ (c ≤ 6) ∧ (I (h + 9) 4 = nI e) ∧ (0 < e) ∧ (e ≤ 48) ∧ (I (h + 9) 3 = nI u) ∧ (u ≤ 2000) ∧ (I (h + 9 + 1) 4 = nI n) ∧ (n ≤ 12) ∧ (pc ≤ 9) ∧ (∀ i, i < c → TmOK I (tm h i) n ∧ I (tm h i) 7 = nI (pq I (tm h i)) ∧ pq I (tm h i) < pc) ∧ (∀ q, q < pc → PlanOK I (h + 87 + 7 * q) (pN I (h + 87 + 7 * q))) ∧ (∀ i, i < 6 → ∃ a m, RowSh S V (h + 150 + 2 * i) a m ∧ (a = h + 151 + 2 * i ∨ h + 162 ≤ a) ∧ a < N)
theorem HS.hH {h c e n pc u : Nat} {S : Nat → Option (Nat × Nat)} {I : Mem} {V : Nat → Nat → Option Nat} {N : Nat} (H : HS h c e n pc u S I V N) : HouseSh S V h := H.1
theorem HS.hN {h c e n pc u : Nat} {S : Nat → Option (Nat × Nat)} {I : Mem} {V : Nat → Nat → Option Nat} {N : Nat} (H : HS h c e n pc u S I V N) : h + 162 ≤ N := H.2.1
theorem HS.hc {h c e n pc u : Nat} {S : Nat → Option (Nat × Nat)} {I : Mem} {V : Nat → Nat → Option Nat} {N : Nat} (H : HS h c e n pc u S I V N) : I (h + 9) 2 = nI c := H.2.2.1
theorem HS.hc6 {h c e n pc u : Nat} {S : Nat → Option (Nat × Nat)} {I : Mem} {V : Nat → Nat → Option Nat} {N : Nat} (H : HS h c e n pc u S I V N) : c ≤ 6 := H.2.2.2.1
theorem HS.hE {h c e n pc u : Nat} {S : Nat → Option (Nat × Nat)} {I : Mem} {V : Nat → Nat → Option Nat} {N : Nat} (H : HS h c e n pc u S I V N) : I (h + 9) 4 = nI e := H.2.2.2.2.1
theorem HS.he {h c e n pc u : Nat} {S : Nat → Option (Nat × Nat)} {I : Mem} {V : Nat → Nat → Option Nat} {N : Nat} (H : HS h c e n pc u S I V N) : 0 < e := H.2.2.2.2.2.1
theorem HS.he48 {h c e n pc u : Nat} {S : Nat → Option (Nat × Nat)} {I : Mem} {V : Nat → Nat → Option Nat} {N : Nat} (H : HS h c e n pc u S I V N) : e ≤ 48 := H.2.2.2.2.2.2.1
theorem HS.hU {h c e n pc u : Nat} {S : Nat → Option (Nat × Nat)} {I : Mem} {V : Nat → Nat → Option Nat} {N : Nat} (H : HS h c e n pc u S I V N) : I (h + 9) 3 = nI u := H.2.2.2.2.2.2.2.1
theorem HS.hu {h c e n pc u : Nat} {S : Nat → Option (Nat × Nat)} {I : Mem} {V : Nat → Nat → Option Nat} {N : Nat} (H : HS h c e n pc u S I V N) : u ≤ 2000 := H.2.2.2.2.2.2.2.2.1
theorem HS.hn {h c e n pc u : Nat} {S : Nat → Option (Nat × Nat)} {I : Mem} {V : Nat → Nat → Option Nat} {N : Nat} (H : HS h c e n pc u S I V N) : I (h + 9 + 1) 4 = nI n := H.2.2.2.2.2.2.2.2.2.1
theorem HS.hn12 {h c e n pc u : Nat} {S : Nat → Option (Nat × Nat)} {I : Mem} {V : Nat → Nat → Option Nat} {N : Nat} (H : HS h c e n pc u S I V N) : n ≤ 12 := H.2.2.2.2.2.2.2.2.2.2.1
theorem HS.hp9 {h c e n pc u : Nat} {S : Nat → Option (Nat × Nat)} {I : Mem} {V : Nat → Nat → Option Nat} {N : Nat} (H : HS h c e n pc u S I V N) : pc ≤ 9 := H.2.2.2.2.2.2.2.2.2.2.2.1
theorem HS.hT {h c e n pc u : Nat} {S : Nat → Option (Nat × Nat)} {I : Mem} {V : Nat → Nat → Option Nat} {N : Nat} (H : HS h c e n pc u S I V N) : ∀ i, i < c → TmOK I (tm h i) n ∧ I (tm h i) 7 = nI (pq I (tm h i)) ∧ pq I (tm h i) < pc := H.2.2.2.2.2.2.2.2.2.2.2.2.1
theorem HS.hO {h c e n pc u : Nat} {S : Nat → Option (Nat × Nat)} {I : Mem} {V : Nat → Nat → Option Nat} {N : Nat} (H : HS h c e n pc u S I V N) : ∀ q, q < pc → PlanOK I (h + 87 + 7 * q) (pN I (h + 87 + 7 * q)) := H.2.2.2.2.2.2.2.2.2.2.2.2.2.1
theorem HS.hW {h c e n pc u : Nat} {S : Nat → Option (Nat × Nat)} {I : Mem} {V : Nat → Nat → Option Nat} {N : Nat} (H : HS h c e n pc u S I V N) : ∀ i, i < 6 → ∃ a m, RowSh S V (h + 150 + 2 * i) a m ∧ (a = h + 151 + 2 * i ∨ h + 162 ≤ a) ∧ a < N := H.2.2.2.2.2.2.2.2.2.2.2.2.2.2
abbrev HSw (h c e n pc u : Nat) (w : Wd) : Prop := HS h c e n pc u w.1 w.2.1 w.2.2.1 w.2.2.2.2
theorem HS.mem {h c e n pc u : Nat} {S : Nat → Option (Nat × Nat)} {I I' : Mem} {V : Nat → Nat → Option Nat} {N : Nat} (H : HS h c e n pc u S I V N)
    (hk : ∀ b k, b = h + 9 ∨ (b = h + 9 + 1 ∧ k = 4) ∨ (h + 87 ≤ b ∧ b < h + 150) → I' b k = I b k) (hT : ∀ i, i < c → TmOK I' (tm h i) n ∧ I' (tm h i) 7 = I (tm h i) 7) : HS h c e n pc u S I' V N := by
  refine ⟨H.hH, H.hN, (hk _ _ (by omega)).trans H.hc, H.hc6, (hk _ _ (by omega)).trans H.hE, H.he, H.he48, (hk _ _ (by omega)).trans H.hU, H.hu, (hk _ _ (by omega)).trans H.hn, H.hn12, H.hp9, fun i hi => ?_, fun q hq => ?_, H.hW⟩
  · have e1 : pq I' (tm h i) = pq I (tm h i) := by unfold pq; rw [(hT i hi).2]
    rw [e1, (hT i hi).2]
    exact ⟨(hT i hi).1, (H.hT i hi).2⟩
  · have hp := H.hp9
    have e1 : pN I' (h + 87 + 7 * q) = pN I (h + 87 + 7 * q) := by unfold pN; rw [hk (h + 87 + 7 * q) 6 (by omega)]
    rw [e1]
    exact (H.hO q hq).keep (fun b k a1 a2 => hk b k (by omega))
theorem HS.stp {h c e n pc u : Nat} {S : Nat → Option (Nat × Nat)} {I : Mem} {V : Nat → Nat → Option Nat} {N : Nat} (H : HS h c e n pc u S I V N) (j p s : Nat) (hj : j < c) : HS h c e n pc u S (tStp I (tm h j) (h + 9 + 1) p s) V N := by
  have hk := kp_stp (I := I) (t := tm h j) (h + 9 + 1) p s
  have hc := H.hc6
  refine H.mem (fun b k q => hk b k (by unfold P0 tm; omega)) (fun i hi => ?_)
  by_cases hij : i = j
  · subst hij
    exact ⟨(H.hT i hi).1.stp H.hn12 _ p s H.hn, hk _ _ (by unfold P0; omega)⟩
  · exact ⟨(H.hT i hi).1.keep (hk _ _ (by unfold P0 tm; omega)) (hk _ _ (by unfold P0 tm; omega)) (hk _ _ (by unfold P0 tm; omega)), hk _ _ (by unfold P0 tm; omega)⟩
theorem rowMost_le {e : Nat} : rowMost e ≤ 2000 := by
  have : 1999 / e ≤ 1999 := Nat.div_le_self _ _
  unfold rowMost
  omega
theorem HS.tell {h c e n pc u : Nat} {w : Wd} (H : HSw h c e n pc u w) (j t r s : Nat) (hj : j < 6) : HSw h c e n pc u (tellW (h + 150 + 2 * j) t r s e w) := by
  obtain ⟨S, I, V, J, N⟩ := w
  obtain ⟨a, m, hW, ha, haN⟩ := H.hW j hj
  have hc := H.hc6
  have hN : h + 162 ≤ N := H.hN
  replace haN : a < N := haN
  obtain ⟨ea, en⟩ := row_a hW
  have H' : HS h c e n pc u S I V N := H
  rw [tellW, ea, en]
  split
  · split
    · have hI : ∀ b k x, b < N → up2 (cpyI (zr I N 0) a N 0 0 m) N (s / e) x b k = I b k := fun b k x hb => (up2_a (by omega)).trans (grow_I (by omega))
      have H2 : HS h c e n pc u S (up2 (cpyI (zr I N 0) a N 0 0 m) N (s / e) (tTold (cpyI (zr I N 0) a N 0 0 m) t r (tL I t) (tGm I t) (nI s))) V N := by
        refine H'.mem (fun b k q => hI b k _ (by omega)) (fun i hi => ?_)
        have ht : tm h i = h + 9 + 7 + 10 * i := rfl
        exact ⟨(H'.hT i hi).1.keep (hI _ _ _ (by omega)) (hI _ _ _ (by omega)) (hI _ _ _ (by omega)), hI _ _ _ (by omega)⟩
      refine ⟨H2.hH.ag (fun b a1 a2 => grow_S (by omega)) (fun b a1 a2 => grow_V (by omega) (by omega)), Nat.le_succ_of_le H2.hN, H2.hc, H2.hc6, H2.hE, H2.he, H2.he48, H2.hU, H2.hu, H2.hn, H2.hn12, H2.hp9, H2.hT, H2.hO, fun i hi => ?_⟩
      by_cases hij : i = j
      · subst hij
        refine ⟨N, rowMost e, ⟨(grow_S (by omega)).trans hW.1, up2_same _ _ _ _, ?_, rowMost_le⟩, Or.inr hN, Nat.lt_succ_self _⟩
        show up1 S N (some (100, rowMost e)) N = _
        rw [up1, if_pos rfl]
      · obtain ⟨a', m', hW', ha', haN'⟩ := H'.hW i hi
        refine ⟨a', m', ⟨(grow_S (by omega)).trans hW'.1, ?_, (grow_S (by omega)).trans hW'.2.2.1, hW'.2.2.2⟩, ha', Nat.lt_succ_of_lt haN'⟩
        have := grow_V (V := V) (N := N) (g := h + 150 + 2 * j) (b := h + 150 + 2 * i) (by omega) (by omega)
        exact (congrFun this 0).trans hW'.2.1
    · refine H'.mem (fun b k q => up2_a (by omega)) (fun i hi => ?_)
      have ht : tm h i = h + 9 + 7 + 10 * i := rfl
      exact ⟨(H'.hT i hi).1.keep (up2_a (by omega)) (up2_a (by omega)) (up2_a (by omega)), up2_a (by omega)⟩
  · exact H'
theorem HS.os1 {h c e n pc u : Nat} {w : Wd} (H : HSw h c e n pc u w) (j s : Nat) (hj : j < c) : HSw h c e n pc u (os1 h s e j w) := by
  obtain ⟨S, I, V, J, N⟩ := w
  have hc := H.hc6
  have H1 : HS h c e n pc u S I V N := H
  exact HS.tell (w := (S, tStp I (tm h j) (h + 9 + 1) (h + 87 + 7 * pq I (tm h j)) s, V, J, N)) (H1.stp j _ s hj) j _ _ s (by omega)
theorem HS.osT {h c e n pc u : Nat} {w : Wd} (H : HSw h c e n pc u w) (s : Nat) : ∀ j, j ≤ c → HSw h c e n pc u (osT h s e w j)
  | 0, _ => H
  | j + 1, hj => HS.os1 (HS.osT H s j (by omega)) j s (by omega)
theorem osC_mono {h s e : Nat} {w : Wd} {j c : Nat} (hj : j ≤ c) : osC h s e w j ≤ osC h s e w c ∧ osD h s e w j ≤ osD h s e w c := by
  induction c with
  | zero => obtain rfl : j = 0 := by omega
            exact ⟨Nat.le_refl _, Nat.le_refl _⟩
  | succ c ih =>
    rcases Nat.lt_or_ge j (c + 1) with z | z
    · have := ih (by omega)
      exact ⟨Nat.le_trans this.1 (Nat.le_add_right _ _), Nat.le_trans this.2 (Nat.le_add_right _ _)⟩
    · obtain rfl : j = c + 1 := by omega
      exact ⟨Nat.le_refl _, Nat.le_refl _⟩
set_option maxHeartbeats 2000000 in
set_option maxRecDepth 20000 in
/-- SledHouse.oneStep -/
theorem c_hOne {E : Ev} (GE : Glob E) (S : Nat → Option (Nat × Nat)) (I : Nat → Nat → Int32) (V : Nat → Nat → Option Nat) (J : Nat → Nat → Int64) (N : Nat) (h c e n pc s : Nat) (HI : HS h c e n pc s S I V N) (hs2 : s < 2000) : Ct E yX10_oneStep cX10_oneStep 4 none (rmA 6 (osC h s e (S, I, V, J, N) c) (osD h s e (S, I, V, J, N) c)) [.ref h] (S, I, V, J, N) (fun v w' => v = none ∧ w' = osW h c s e (S, I, V, J, N)) := by
  refine Ct.start GE (by decide) rfl (Nat.le_of_ble_eq_true rfl) (fun M X => ?_)
  have X : Cx E M RX10 cX10_oneStep 4 (rmA 6 (osC h s e (S, I, V, J, N) c) (osD h s e (S, I, V, J, N) c)) none "oneStep" := X
  refine r_loc (L' := [some (.ref h), none, none, none]) rfl ?_
  have hc6 := HI.hc6
  have he := HI.he
  have he48 := HI.he48
  have H : ∀ j, j ≤ c → ∀ x3, G E M (osC h s e (S, I, V, J, N) j) (osD h s e (S, I, V, J, N) j) (qQ E M (rmA 6 (osC h s e (S, I, V, J, N) c) (osD h s e (S, I, V, J, N) c)) (fun v w' => v = none ∧ w' = osW h c s e (S, I, V, J, N))) 10 [some (.ref h), some (.int (nI s)), some (.int (nI j)), x3] [] (osT h s e (S, I, V, J, N) j) := by
    refine loopN c (fun j hj ih => ?_)
    intro x3
    have H0 := HS.osT (w := (S, I, V, J, N)) HI s j hj
    have hm := osC_mono (h := h) (s := s) (e := e) (w := (S, I, V, J, N)) hj
    have hm1 : j < c → osC h s e (S, I, V, J, N) j + tellC (h + 150 + 2 * j) s e (osT h s e (S, I, V, J, N) j) ≤ osC h s e (S, I, V, J, N) c ∧ osD h s e (S, I, V, J, N) j + 2000 * tellC (h + 150 + 2 * j) s e (osT h s e (S, I, V, J, N) j) ≤ osD h s e (S, I, V, J, N) c := fun z => osC_mono (h := h) (s := s) (e := e) (w := (S, I, V, J, N)) (j := j + 1) z
    have hend : j = c → osW h c s e (S, I, V, J, N) = setI (fun I => up2 I (h + 9) 3 (nI (s + 1))) (osT h s e (S, I, V, J, N) j) := fun z => by rw [z]; rfl
    replace ih : ∀ z : j < c, ∀ x3, G E M (osC h s e (S, I, V, J, N) j + tellC (h + 150 + 2 * j) s e (osT h s e (S, I, V, J, N) j)) (osD h s e (S, I, V, J, N) j + 2000 * tellC (h + 150 + 2 * j) s e (osT h s e (S, I, V, J, N) j)) (qQ E M (rmA 6 (osC h s e (S, I, V, J, N) c) (osD h s e (S, I, V, J, N) c)) (fun v w' => v = none ∧ w' = osW h c s e (S, I, V, J, N))) 10 [some (.ref h), some (.int (nI s)), some (.int (nI (j + 1))), x3] [] (os1 h s e j (osT h s e (S, I, V, J, N) j)) := ih
    revert H0 hm hm1 hend ih
    generalize osT h s e (S, I, V, J, N) j = w1
    generalize osC h s e (S, I, V, J, N) j = x1
    generalize osD h s e (S, I, V, J, N) j = y1
    obtain ⟨S1, I1, V1, J1, N1⟩ := w1
    intro H0 hm hm1 hend ih
    replace H0 : HS h c e n pc s S1 I1 V1 N1 := H0
    have hH := H0.hH
    have hc := H0.hc
    have hE := H0.hE
    have hU := H0.hU
    have hN1 := H0.hN
    obtain ⟨hs0, hv0, hv1, hv2, hv3, hv4, hv5, hTp, hs3, hPl, hLw, hRc, hs76, hGh, hRow⟩ := id hH
    obtain ⟨rs0, rv0, rv1, rTr, rs6, rTe⟩ := id hRc
    have qs0 := rTr.1
    have ts0 := hTp.1
    have ls0 := hLw.1
    rcases Nat.lt_or_ge j c with z | z
    · skip
      replace hm1 := hm1 z
      have te1 := (rTe j (by omega)).1
      have te2 := (rTe j (by omega)).2
      have as0 := te2.1
      have rw1 := (hRow j (by omega)).1
      have rw2 := (hRow j (by omega)).2
      obtain ⟨hT, hp7, hpq⟩ := H0.hT j z
      have hp9 := H0.hp9
      have pe1 := (hPl (pq I1 (tm h j)) (by omega)).1
      have pe2 := (hPl (pq I1 (tm h j)) (by omega)).2
      obtain ⟨a, m, hW, ha, haN⟩ := H0.hW j (by omega)
      have eR : rN I1 (h + 9 + 1) = n := by unfold rN; rw [H0.hn, nI_clamp (by have := H0.hn12; omega)]
      have hn12 := H0.hn12
      have H1 := H0.stp j (h + 87 + 7 * pq I1 (tm h j)) s z
      have hT1 := (H1.hT j z).1
      have hE1 := H1.hE
      have hU1 := H1.hU
      have ht : tm h j = h + 9 + 7 + 10 * j := rfl
      have hTC : tellC (h + 150 + 2 * j) s e (S1, tStp I1 (tm h j) (h + 9 + 1) (h + 87 + 7 * pq I1 (tm h j)) s, V1, J1, N1) = tellC (h + 150 + 2 * j) s e (S1, I1, V1, J1, N1) := rfl
      refine r_iload_n X dX10_oneStep_10 rfl rfl ?_
      refine r_aload_n X dX10_oneStep_11 rfl rfl ?_
      refine r_getR X dX10_oneStep_12 fX10_32 (by assumption) (by assumption) ?_
      refine r_getI X dX10_oneStep_15 fX10_142 (by assumption) (by first | assumption | rfl) ?_
      refine r_icmpN_ge (tgt := 83) X dX10_oneStep_18 (by decide) (by omega) (by omega) (fun h18 => ?_) (fun h18 => ?_)
      · skip
        omega
      · skip
        refine r_aload_n X dX10_oneStep_21 rfl rfl ?_
        refine r_getR X dX10_oneStep_22 fX10_32 (by assumption) (by assumption) ?_
        refine r_getR X dX10_oneStep_25 fX10_145 (by assumption) (by assumption) ?_
        refine r_iload_n X dX10_oneStep_28 rfl rfl ?_
        refine r_aaldN X dX10_oneStep_29 (by assumption) (by decide) rfl (by omega) (by omega) te1 ?_
        refine r_astore_n X dX10_oneStep_30 rfl (by decide) rfl ?_
        refine r_aload_n X dX10_oneStep_31 rfl rfl ?_
        refine r_aload_n X dX10_oneStep_32 rfl rfl ?_
        refine r_getR X dX10_oneStep_33 fX10_32 (by assumption) (by assumption) ?_
        refine r_getR X dX10_oneStep_36 fX10_81 (by assumption) (by assumption) ?_
        refine r_aload_n X dX10_oneStep_39 rfl rfl ?_
        refine r_getR X dX10_oneStep_40 fX10_18 (by assumption) (by assumption) ?_
        refine r_aload_n X dX10_oneStep_43 rfl rfl ?_
        refine r_getI X dX10_oneStep_44 fX10_159 (by assumption) hp7 ?_
        refine r_aaldN X dX10_oneStep_47 (by assumption) (by decide) rfl (by omega) (by omega) pe1 ?_
        refine r_iload_n X dX10_oneStep_48 rfl rfl ?_
        refine q_callV X dX10_oneStep_49 mX10_288 cwX8_doStep (c_tStep GE S1 _ V1 J1 N1 (tm h j) (h + 9 + 1) (h + 87 + 7 * pq I1 (tm h j)) _ (rN I1 (h + 9 + 1)) _ s _ te2 rTr pe2 hT.1 hT.2.1 hT.2.2.1 (by have := hT.2.2.2.1; omega) (by rw [eR]; exact H0.hn) (by omega) (by omega) (H0.hO _ hpq) (by omega) (by omega)) rfl (by assumption) rfl rfl rfl (Nat.le_of_ble_eq_true rfl) ⟨Nat.le_of_ble_eq_true rfl, Nat.le_of_ble_eq_true rfl⟩ ⟨(by first | omega | decide | (simp only [rmL, rmA]; omega)), (by first | omega | decide | (simp only [rmL, rmA]; omega))⟩ ?_
        rintro _ _ ⟨rfl, rfl⟩
        refine r_world (w' := (S1, tStp I1 (tm h j) (h + 9 + 1) (h + 87 + 7 * pq I1 (tm h j)) s, V1, J1, N1)) rfl ?_
        refine r_aload_n X dX10_oneStep_52 rfl rfl ?_
        refine r_getR X dX10_oneStep_53 fX10_38 (by assumption) (by assumption) ?_
        refine r_iload_n X dX10_oneStep_56 rfl rfl ?_
        refine r_aaldN X dX10_oneStep_57 (by assumption) (by decide) rfl (by omega) (by omega) rw1 ?_
        refine r_aload_n X dX10_oneStep_58 rfl rfl ?_
        refine r_aload_n X dX10_oneStep_59 rfl rfl ?_
        refine r_getR X dX10_oneStep_60 fX10_32 (by assumption) (by assumption) ?_
        refine r_getR X dX10_oneStep_63 fX10_81 (by assumption) (by assumption) ?_
        refine r_iload_n X dX10_oneStep_66 rfl rfl ?_
        refine r_aload_n X dX10_oneStep_67 rfl rfl ?_
        refine r_getR X dX10_oneStep_68 fX10_32 (by assumption) (by assumption) ?_
        refine r_getI X dX10_oneStep_71 fX10_170 (by assumption) hE1 ?_
        refine q_callV X dX10_oneStep_74 mX10_292 cwX6_tell (c_tellW GE S1 _ V1 J1 N1 (h + 150 + 2 * j) a m (tm h j) (h + 9 + 1) e s hW te2 rTr hT1.2.2.1 (by have := hT1.2.2.2.1; omega) hT1.2.2.2.2.1 hT1.2.2.2.2.2 he he48 hs2 haN (by omega) (by omega) (by omega) (by omega) (by omega)) rfl (by assumption) rfl rfl rfl (Nat.le_of_ble_eq_true rfl) ⟨Nat.le_of_ble_eq_true rfl, Nat.le_of_ble_eq_true rfl⟩ ⟨(by first | omega | decide | (simp only [rmL, rmA]; omega)), (by first | omega | decide | (simp only [rmL, rmA]; omega))⟩ ?_
        rintro _ _ ⟨rfl, rfl⟩
        first | refine r_iincN X dX10_oneStep_77 rfl (by decide) rfl ?_ | refine r_iinc X dX10_oneStep_77 rfl rfl (by decide) rfl ?_
        refine r_goto (tgt := 10) X dX10_oneStep_80 (by decide) ?_
        exact ih z _
    · skip
      obtain rfl : j = c := by omega
      refine r_iload_n X dX10_oneStep_10 rfl rfl ?_
      refine r_aload_n X dX10_oneStep_11 rfl rfl ?_
      refine r_getR X dX10_oneStep_12 fX10_32 (by assumption) (by assumption) ?_
      refine r_getI X dX10_oneStep_15 fX10_142 (by assumption) (by first | assumption | rfl) ?_
      refine r_icmpN_ge (tgt := 83) X dX10_oneStep_18 (by decide) (by omega) (by omega) (fun h18 => ?_) (fun h18 => ?_)
      · skip
        refine r_aload_n X dX10_oneStep_83 rfl rfl ?_
        refine r_getR X dX10_oneStep_84 fX10_32 (by assumption) (by assumption) ?_
        refine r_iload_n X dX10_oneStep_87 rfl rfl ?_
        refine r_iconst (v := 1) X dX10_oneStep_88 (by decide) ?_
        refine r_iadd X dX10_oneStep_89 ?_
        refine r_topi (nI (s + 1)) (nI_1 _) ?_
        refine r_putI X dX10_oneStep_90 fX10_70 wX10_70 (by assumption) rfl rfl ?_
        refine r_return X dX10_oneStep_93 (by first | omega | decide | (simp only [rmL, rmA]; omega)) (by first | omega | decide | (simp only [rmL, rmA]; omega)) ?_
        exact ⟨rfl, (hend rfl).symm⟩
      · skip
        omega
  have hH := HI.hH
  have hU := HI.hU
  obtain ⟨hs0, hv0, hv1, hv2, hv3, hv4, hv5, hTp, hs3, hPl, hLw, hRc, hs76, hGh, hRow⟩ := id hH
  obtain ⟨rs0, rv0, rv1, rTr, rs6, rTe⟩ := id hRc
  have qs0 := rTr.1
  have ts0 := hTp.1
  have ls0 := hLw.1
  refine r_aload_n X dX10_oneStep_0 rfl rfl ?_
  refine r_getR X dX10_oneStep_1 fX10_32 (by assumption) (by assumption) ?_
  refine r_getI X dX10_oneStep_4 fX10_70 (by assumption) (by first | assumption | rfl) ?_
  refine r_istore_n X dX10_oneStep_7 rfl (by decide) rfl ?_
  refine r_iconst (v := nI 0) X dX10_oneStep_8 (by decide) ?_
  refine r_istore_n X dX10_oneStep_9 rfl (by decide) rfl ?_
  exact H 0 (Nat.zero_le _) none
