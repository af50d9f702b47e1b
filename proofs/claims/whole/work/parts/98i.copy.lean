/-! ===== phase 2: copies of races ===== -/
/-- team t1 in the memory A is as team t in I -/
def TC (A I : Mem) (t1 t : Nat) : Prop := (∀ k, 4 ≤ k → k ≤ 14 → A t1 k = I t k) ∧ (∀ k, k = 3 ∨ k = 4 ∨ k = 5 → A (t1 + 1) k = I (t + 1) k) ∧ (∀ k, k < 16 → A (t1 + 2) k = I (t + 2) k ∧ A (t1 + 3) k = I (t + 3) k ∧ A (t1 + 4) k = I (t + 4) k) ∧ A (t1 + 5) 2 = I (t + 5) 2 ∧ (∀ k, k < 4 → A (t1 + 6) k = I (t + 6) k ∧ A (t1 + 7) k = I (t + 7) k) ∧ ∀ k, k < 13 → A (t1 + 8) k = I (t + 8) k ∧ A (t1 + 9) k = I (t + 9) k
/-- the same of the reference, sg signs and gp gaps -/
def MC (A I : Mem) (u1 u sg gp : Nat) : Prop := (∀ k, k ≤ 14 → A u1 k = I u k) ∧ (∀ k, k < 16 → A (u1 + 1) k = I (u + 1) k ∧ A (u1 + 2) k = I (u + 2) k ∧ A (u1 + 3) k = I (u + 3) k) ∧ (∀ k, k < 13 → A (u1 + 4) k = I (u + 4) k ∧ A (u1 + 5) k = I (u + 5) k) ∧ (∀ k, k < sg → A (u1 + 6) k = I (u + 6) k ∧ A (u1 + 7) k = I (u + 7) k) ∧ ∀ k, k < gp → A (u1 + 8) k = I (u + 8) k ∧ A (u1 + 9) k = I (u + 9) k
theorem tc_copy {I : Mem} {t e : Nat} (hne : e + 9 < t ∨ t + 9 < e) : TC (tCopy I t e) I t e := by
  refine ⟨fun k h1 h2 => tCopy_k h1 h2, fun k hk => ?_, fun k hk => ⟨?_, ?_, ?_⟩, ?_, fun k hk => ⟨?_, ?_⟩, fun k hk => ⟨?_, ?_⟩⟩
  · unfold tCopy
    rw [if_neg (by omega), if_neg (by omega), if_neg (by omega), gCopy_a (by omega) (by omega) (by omega)]
    unfold dCopy
    rw [if_pos ⟨rfl, hk⟩]
  · unfold tCopy
    rw [if_neg (by omega), if_neg (by omega), if_neg (by omega), gCopy_a (by omega) (by omega) (by omega)]
    unfold dCopy
    rw [if_neg (by omega), if_pos ⟨rfl, hk⟩]
  · unfold tCopy
    rw [if_neg (by omega), if_neg (by omega), if_neg (by omega), gCopy_a (by omega) (by omega) (by omega)]
    unfold dCopy
    rw [if_neg (by omega), if_neg (by omega), if_pos ⟨rfl, hk⟩]
  · unfold tCopy
    rw [if_neg (by omega), if_neg (by omega), if_neg (by omega), gCopy_a (by omega) (by omega) (by omega)]
    unfold dCopy
    rw [if_neg (by omega), if_neg (by omega), if_neg (by omega), if_pos ⟨rfl, hk⟩]
  · unfold tCopy
    rw [if_neg (by omega), if_neg (by omega), if_neg (by omega)]
    unfold gCopy
    rw [if_pos ⟨rfl, rfl⟩, dCopy_a (by omega) (by omega) (by omega) (by omega)]
  · unfold tCopy
    rw [if_neg (by omega), if_neg (by omega), if_neg (by omega)]
    unfold gCopy
    rw [if_neg (by omega), if_pos ⟨rfl, hk⟩, dCopy_a (by omega) (by omega) (by omega) (by omega)]
  · unfold tCopy
    rw [if_neg (by omega), if_neg (by omega), if_neg (by omega)]
    unfold gCopy
    rw [if_neg (by omega), if_neg (by omega), if_pos ⟨rfl, hk⟩, dCopy_a (by omega) (by omega) (by omega) (by omega)]
  · unfold tCopy
    rw [if_neg (by omega), if_pos ⟨rfl, hk⟩]
  · unfold tCopy
    rw [if_neg (by omega), if_neg (by omega), if_pos ⟨rfl, hk⟩]
theorem TC.c {A I A1 I1 : Mem} {t1 t : Nat} (h : TC A I t1 t) (hA : ∀ b k, t1 ≤ b → b ≤ t1 + 9 → A1 b k = A b k) (hI : ∀ b k, t ≤ b → b ≤ t + 9 → I b k = I1 b k) : TC A1 I1 t1 t := by
  obtain ⟨h1, h2, h3, h4, h5, h6⟩ := h
  refine ⟨fun k a b => ?_, fun k a => ?_, fun k a => ?_, ?_, fun k a => ?_, fun k a => ?_⟩
  · rw [hA _ _ (by omega) (by omega), ← hI _ _ (by omega) (by omega)]; exact h1 k a b
  · rw [hA _ _ (by omega) (by omega), ← hI _ _ (by omega) (by omega)]; exact h2 k a
  · rw [hA _ _ (by omega) (by omega), hA _ _ (by omega) (by omega), hA _ _ (by omega) (by omega), ← hI _ _ (by omega) (by omega), ← hI _ _ (by omega) (by omega), ← hI _ _ (by omega) (by omega)]; exact h3 k a
  · rw [hA _ _ (by omega) (by omega), ← hI _ _ (by omega) (by omega)]; exact h4
  · rw [hA _ _ (by omega) (by omega), hA _ _ (by omega) (by omega), ← hI _ _ (by omega) (by omega), ← hI _ _ (by omega) (by omega)]; exact h5 k a
  · rw [hA _ _ (by omega) (by omega), hA _ _ (by omega) (by omega), ← hI _ _ (by omega) (by omega), ← hI _ _ (by omega) (by omega)]; exact h6 k a
theorem rcopyT_tc {I : Mem} {r e : Nat} (hne : e + 66 < r ∨ r + 66 < e) : ∀ j, j ≤ 6 → ∀ i, i < j → TC (rCopyT I r e j) I (r + 7 + 10 * i) (e + 7 + 10 * i)
  | 0, _, i, hi => by omega
  | j + 1, hj, i, hi => by
    rcases Nat.lt_or_ge i j with z | z
    · exact (rcopyT_tc hne j (by omega) i z).c (fun b k q1 q2 => by rw [rCopyT, tCopy_a (by omega)]) (fun b k _ _ => rfl)
    · obtain rfl : i = j := by omega
      rw [rCopyT]
      exact (tc_copy (by omega)).c (fun b k _ _ => rfl) (fun b k q1 q2 => rCopyT_a i (by omega))
/-- race r of the memory A is as race e in I, c teams -/
def RC (A I : Mem) (r e c : Nat) : Prop := (A r 2 = I e 2 ∧ A r 3 = I e 3 ∧ A r 4 = I e 4) ∧ (A (r + 1) 4 = I (e + 1) 4 ∧ (∀ k, k < 12 → A (r + 2) k = I (e + 2) k ∧ A (r + 3) k = I (e + 3) k) ∧ (∀ k, k < 13 → A (r + 4) k = I (e + 4) k) ∧ ∀ k, k < 334 → A (r + 5) k = I (e + 5) k) ∧ ∀ i, i < c → TC A I (r + 7 + 10 * i) (e + 7 + 10 * i)
theorem rc_copy {I : Mem} {r e c : Nat} (hne : e + 66 < r ∨ r + 66 < e) (hc : c ≤ 6) : RC (rCopy I r e c) I r e c := by
  have key : ∀ b k, b ≠ r → rCopy I r e c b k = rCopyT (trCopy I (r + 1) (e + 1)) r e c b k := fun b k hb => by rw [rCopy, up2_a hb, up2_a hb, up2_a hb]
  have k2 : ∀ b k, r + 1 ≤ b → b ≤ r + 5 → rCopy I r e c b k = trCopy I (r + 1) (e + 1) b k := fun b k h1 h2 => (key b k (by omega)).trans (rCopyT_a c (by omega))
  refine ⟨⟨?_, ?_, ?_⟩, ⟨?_, fun k hk => ⟨?_, ?_⟩, fun k hk => ?_, fun k hk => ?_⟩, fun i hi => ?_⟩
  · rw [rCopy, up2_k (by decide), up2_k (by decide), up2_same]
  · rw [rCopy, up2_k (by decide), up2_same]
  · rw [rCopy, up2_same]
  · rw [k2 _ _ (by omega) (by omega)]; unfold trCopy; rw [if_pos ⟨rfl, rfl⟩]
  · rw [k2 _ _ (by omega) (by omega)]; unfold trCopy; rw [if_neg (by omega), if_pos ⟨by omega, hk⟩]
  · rw [k2 _ _ (by omega) (by omega)]; unfold trCopy; rw [if_neg (by omega), if_neg (by omega), if_pos ⟨by omega, hk⟩]
  · rw [k2 _ _ (by omega) (by omega)]; unfold trCopy; rw [if_neg (by omega), if_neg (by omega), if_neg (by omega), if_pos ⟨by omega, hk⟩]
  · rw [k2 _ _ (by omega) (by omega)]; unfold trCopy; rw [if_neg (by omega), if_neg (by omega), if_neg (by omega), if_neg (by omega), if_pos ⟨by omega, hk⟩]
  · exact (rcopyT_tc (I := trCopy I (r + 1) (e + 1)) hne c hc i hi).c (fun b k q1 q2 => key b k (by omega)) (fun b k q1 q2 => trCopy_a (by omega))
theorem rCopy_o {I : Mem} {r e c b k : Nat} (hc : c ≤ 6) (h : b < r ∨ r + 66 < b) : rCopy I r e c b k = I b k := by
  rw [rCopy, up2_a (by omega), up2_a (by omega), up2_a (by omega), rCopyT_a c (by omega), trCopy_a (by omega)]
theorem mc_bec {I : Mem} {t u sg gp : Nat} (hd : u + 9 < t ∨ t + 9 < u) : MC (mBec I t u sg gp) I t u sg gp := by
  have b0 : ∀ k, k ≤ 14 → mBec0 I t u t k = I u k := fun k hk => by
    unfold mBec0
    have e := mBegin_f I t (I u 0) (I u 13) (I u 14) (I u 3) (I u 4)
    obtain ⟨a0, a1, a2, a3, a4, a5, a6, a7, a8, a9, a10, a11, a12, a13, a14⟩ := mPuts_f I t (I u 0) (I u 13) (I u 14) (I u 3) (I u 4)
    have hk2 : k = 0 ∨ k = 1 ∨ k = 2 ∨ k = 3 ∨ k = 4 ∨ k = 5 ∨ k = 6 ∨ k = 7 ∨ k = 8 ∨ k = 9 ∨ k = 10 ∨ k = 11 ∨ k = 12 ∨ k = 13 ∨ k = 14 := by omega
    rcases hk2 with rfl | rfl | rfl | rfl | rfl | rfl | rfl | rfl | rfl | rfl | rfl | rfl | rfl | rfl | rfl <;> simp [up2, e, a0, a3, a4, a13, a14]
  have f0 : ∀ x k, x < t ∨ t + 9 < x → mBec0 I t u x k = I x k := fun x k h => mBec0_a h
  refine ⟨fun k hk => ?_, fun k hk => ⟨?_, ?_, ?_⟩, fun k hk => ⟨?_, ?_⟩, fun k hk => ⟨?_, ?_⟩, fun k hk => ⟨?_, ?_⟩⟩
  · rw [mBec, cp2_a (by omega) (by omega), mBec3, cp2_a (by omega) (by omega), mBec2, cp2_a (by omega) (by omega), mBec1, cp3_a (by omega) (by omega) (by omega)]; exact b0 k hk
  · rw [mBec, cp2_a (by omega) (by omega), mBec3, cp2_a (by omega) (by omega), mBec2, cp2_a (by omega) (by omega), mBec1, cp3, cp1_a (by omega), cp2, cp1_a (by omega), cp1_in hk]; exact f0 _ _ (by omega)
  · rw [mBec, cp2_a (by omega) (by omega), mBec3, cp2_a (by omega) (by omega), mBec2, cp2_a (by omega) (by omega), mBec1, cp3, cp1_a (by omega), cp2, cp1_in hk, cp1_a (by omega)]; exact f0 _ _ (by omega)
  · rw [mBec, cp2_a (by omega) (by omega), mBec3, cp2_a (by omega) (by omega), mBec2, cp2_a (by omega) (by omega), mBec1, cp3, cp1_in hk, cp2_a (by omega) (by omega)]; exact f0 _ _ (by omega)
  · rw [mBec, cp2_a (by omega) (by omega), mBec3, cp2_a (by omega) (by omega), mBec2, cp2, cp1_a (by omega), cp1_in hk, mBec1, cp3_a (by omega) (by omega) (by omega)]; exact f0 _ _ (by omega)
  · rw [mBec, cp2_a (by omega) (by omega), mBec3, cp2_a (by omega) (by omega), mBec2, cp2, cp1_in hk, cp1_a (by omega), mBec1, cp3_a (by omega) (by omega) (by omega)]; exact f0 _ _ (by omega)
  · rw [mBec, cp2_a (by omega) (by omega), mBec3, cp2, cp1_a (by omega), cp1_in hk, mBec2, cp2_a (by omega) (by omega), mBec1, cp3_a (by omega) (by omega) (by omega)]; exact f0 _ _ (by omega)
  · rw [mBec, cp2_a (by omega) (by omega), mBec3, cp2, cp1_in hk, cp1_a (by omega), mBec2, cp2_a (by omega) (by omega), mBec1, cp3_a (by omega) (by omega) (by omega)]; exact f0 _ _ (by omega)
  · rw [mBec, cp2, cp1_a (by omega), cp1_in hk, mBec3, cp2_a (by omega) (by omega), mBec2, cp2_a (by omega) (by omega), mBec1, cp3_a (by omega) (by omega) (by omega)]; exact f0 _ _ (by omega)
  · rw [mBec, cp2, cp1_in hk, cp1_a (by omega), mBec3, cp2_a (by omega) (by omega), mBec2, cp2_a (by omega) (by omega), mBec1, cp3_a (by omega) (by omega) (by omega)]; exact f0 _ _ (by omega)
theorem MC.c {A I A1 I1 : Mem} {u1 u sg gp : Nat} (h : MC A I u1 u sg gp) (hA : ∀ b k, u1 ≤ b → b ≤ u1 + 9 → A1 b k = A b k) (hI : ∀ b k, u ≤ b → b ≤ u + 9 → I b k = I1 b k) : MC A1 I1 u1 u sg gp := by
  obtain ⟨h1, h2, h3, h4, h5⟩ := h
  refine ⟨fun k a => ?_, fun k a => ?_, fun k a => ?_, fun k a => ?_, fun k a => ?_⟩
  · rw [hA _ _ (by omega) (by omega), ← hI _ _ (by omega) (by omega)]; exact h1 k a
  · rw [hA _ _ (by omega) (by omega), hA _ _ (by omega) (by omega), hA _ _ (by omega) (by omega), ← hI _ _ (by omega) (by omega), ← hI _ _ (by omega) (by omega), ← hI _ _ (by omega) (by omega)]; exact h2 k a
  · rw [hA _ _ (by omega) (by omega), hA _ _ (by omega) (by omega), ← hI _ _ (by omega) (by omega), ← hI _ _ (by omega) (by omega)]; exact h3 k a
  · rw [hA _ _ (by omega) (by omega), hA _ _ (by omega) (by omega), ← hI _ _ (by omega) (by omega), ← hI _ _ (by omega) (by omega)]; exact h4 k a
  · rw [hA _ _ (by omega) (by omega), hA _ _ (by omega) (by omega), ← hI _ _ (by omega) (by omega), ← hI _ _ (by omega) (by omega)]; exact h5 k a
theorem mkt_mc {I : Mem} {g : Nat} : ∀ j, j ≤ 6 → ∀ i, i < j → MC (mKT I g j) I (kt g i) (mt g i) (mSg I (mt g i)) (mG I (mt g i))
  | 0, _, i, hi => by omega
  | j + 1, hj, i, hi => by
    have e1 := kt_e g i
    have e2 := mt_e g i
    have e3 := kt_e g j
    have e4 := mt_e g j
    rcases Nat.lt_or_ge i j with z | z
    · exact (mkt_mc j (by omega) i z).c (fun b k q1 q2 => by rw [mKT, mBc, mBec_a (by omega)]) (fun b k _ _ => rfl)
    · obtain rfl : i = j := by omega
      have hI : ∀ b k, mt g i ≤ b → b ≤ mt g i + 9 → mKT I g i b k = I b k := fun b k q1 q2 => mKT_a i (fun a ha => by have := kt_e g a; omega)
      rw [mKT, mBc, mSg, hI _ _ (by omega) (by omega), mG, hI _ _ (by omega) (by omega)]
      exact (mc_bec (by omega)).c (fun b k _ _ => rfl) hI
theorem mbt_mc {I : Mem} {g : Nat} : ∀ j, j ≤ 6 → ∀ i, i < j → MC (mBT I g j) I (mt g i) (kt g i) (mSg I (kt g i)) (mG I (kt g i))
  | 0, _, i, hi => by omega
  | j + 1, hj, i, hi => by
    have e1 := kt_e g i
    have e2 := mt_e g i
    have e3 := kt_e g j
    have e4 := mt_e g j
    rcases Nat.lt_or_ge i j with z | z
    · exact (mbt_mc j (by omega) i z).c (fun b k q1 q2 => by rw [mBT, mBc, mBec_a (by omega)]) (fun b k _ _ => rfl)
    · obtain rfl : i = j := by omega
      have hI : ∀ b k, kt g i ≤ b → b ≤ kt g i + 9 → mBT I g i b k = I b k := fun b k q1 q2 => mBT_a i (fun a ha => by have := mt_e g a; omega)
      rw [mBT, mBc, mSg, hI _ _ (by omega) (by omega), mG, hI _ _ (by omega) (by omega)]
      exact (mc_bec (by omega)).c (fun b k _ _ => rfl) hI
