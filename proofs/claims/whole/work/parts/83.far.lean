/-! ===== phase 2: the way a team has gone ===== -/
theorem sum_N {I : Mem} {u m : Nat} (hs : StrOK I u m) : ∀ j, j ≤ m → ∃ S c, dSum I u j = nI S ∧ mOf I u 0 j = nI c ∧ S ≤ 1000 * c ∧ c ≤ j
  | 0, _ => ⟨0, 0, rfl, rfl, by omega, by omega⟩
  | j + 1, hj => by
    obtain ⟨S, c, e1, e2, h1, h2⟩ := sum_N hs j (by omega)
    obtain ⟨x, hx, ex⟩ := hs j (by omega)
    rw [dSum, mOf, e1, e2, ex]
    by_cases h0 : I (u + 2) j = 0
    · rw [if_pos h0, if_pos h0]
      exact ⟨S + x, c + 1, nI_add _ _, nI_1 c, by omega, by omega⟩
    · rw [if_neg h0, if_neg h0]
      exact ⟨S, c, rfl, Int32.add_zero _, h1, by omega⟩
theorem mean_N {I : Mem} {u m : Nat} (hs : StrOK I u m) (hm : m ≤ 16) : ∃ x, x ≤ 1000 ∧ mMean I u m = nI x := by
  obtain ⟨S, c, e1, e2, h1, h2⟩ := sum_N hs m (Nat.le_refl m)
  rw [mMean, e1, e2]
  rcases Nat.eq_zero_or_pos c with z | z
  · subst z
    rw [if_pos (show nI 0 = 0 from rfl)]
    exact ⟨0, by omega, rfl⟩
  · rw [if_neg (nI_ne0 z (by omega)), pk_div (by omega) z (by omega)]
    exact ⟨S / c, by rw [Nat.div_le_iff_le_mul_add_pred z]; omega, rfl⟩
theorem reach_N {I : Mem} {g u m l hd ow : Nat} (hs : StrOK I u m) (hm : m ≤ 16) (hh : I (g + 2) l = nI hd) (hd1 : 50 ≤ hd) (hd2 : hd ≤ 200) (hL : I u 1 = nI ow) (how : ow ≤ 1000) (h0 : ¬ mOf I u 0 m = 0) : ∃ x, x ≤ 20000 ∧ mReach I g u m l = nI x := by
  obtain ⟨x, hx, ex⟩ := mean_N hs hm
  obtain ⟨c, hc, ec⟩ := mOf_nI I u 0 m
  have hc0 : 0 < c := by
    rcases Nat.eq_zero_or_pos c with z | z
    · exact absurd (by rw [ec, z]; rfl) h0
    · exact z
  have b1 : 30 * x * c * 100 ≤ 48000000 := by
    have h1 : 30 * x ≤ 30000 := by omega
    have h2 : 30 * x * c ≤ 30000 * 16 := Nat.mul_le_mul h1 (by omega)
    omega
  have b2 : 30 * x * c * 100 / (1000 * hd) ≤ 960 := by
    have : 30 * x * c * 100 / (1000 * hd) ≤ 48000000 / 50000 := Nat.div_le_div b1 (by omega) (by omega)
    omega
  have b3 : 30 * x * c * 100 / (1000 * hd) * 20 / (20 * c + ow) ≤ 20000 := Nat.le_trans (Nat.div_le_self _ _) (by omega)
  refine ⟨_, b3, ?_⟩
  rw [mReach, ex, ec, hh, hL, show (30 : Int32) * nI x = nI (30 * x) from pk_mul 30 x, pk_mul, show nI (30 * x * c) * 100 = nI (30 * x * c * 100) from pk_mul _ 100, show (1000 : Int32) * nI hd = nI (1000 * hd) from pk_mul 1000 hd, pk_div (by omega) (by omega) (by omega), show nI (30 * x * c * 100 / (1000 * hd)) * 20 = nI (30 * x * c * 100 / (1000 * hd) * 20) from pk_mul _ 20, show (20 : Int32) * nI c = nI (20 * c) from pk_mul 20 c, nI_add, pk_div (by omega) (by omega) (by omega)]
def FarOK (I : Mem) (u : Nat) : Prop := ∃ f, f ≤ 2000 ∧ I u 7 = nI f
def LenOK (I : Mem) (a n : Nat) : Prop := ∀ k, k < n → ∃ x, x ≤ 2000 ∧ I a k = nI x
theorem far_goZ {I : Mem} {g u m l n s hd ow : Nat} (hs : StrOK I u m) (hm : m ≤ 16) (hf : FarOK I u) (hlen : LenOK I (g + 1) n) (hl : l < n) (hh : I (g + 2) l = nI hd) (hd1 : 50 ≤ hd) (hd2 : hd ≤ 200) (how : I u 13 = nI ow) (how3 : ow ≤ 300) (hgu : g + 3 < u) : FarOK (mGoY I g u m l n s) u := by
  rw [mGoY]
  obtain ⟨ca, hca, eca⟩ := mOf_nI I u 1 m
  have e1 : up2 I u 1 (I u 13 + 25 * mOf I u 1 m) u 1 = nI (ow + 25 * ca) := by
    rw [up2_same, how, eca, show (25 : Int32) * nI ca = nI (25 * ca) from pk_mul 25 ca, nI_add]
  have s4 : StrOK (up2 I u 1 (I u 13 + 25 * mOf I u 1 m)) u m := str_row hs (fun k hk => up2_a (by omega))
  have hf4 : FarOK (up2 I u 1 (I u 13 + 25 * mOf I u 1 m)) u := by
    obtain ⟨f, h1, h2⟩ := hf
    exact ⟨f, h1, (up2_k (by decide)).trans h2⟩
  have hlen4 : LenOK (up2 I u 1 (I u 13 + 25 * mOf I u 1 m)) (g + 1) n := fun k hk => by rw [up2_a (by omega)]; exact hlen k hk
  have hh4 : up2 I u 1 (I u 13 + 25 * mOf I u 1 m) (g + 2) l = nI hd := by rw [up2_a (by omega)]; exact hh
  generalize up2 I u 1 (I u 13 + 25 * mOf I u 1 m) = B at *
  rw [mGoZ]
  split
  · obtain ⟨f, h1, h2⟩ := hf4
    exact ⟨f, h1, (up2_k (by decide)).trans h2⟩
  · rename_i h0
    obtain ⟨x, hx, ex⟩ := reach_N (l := l) (g := g) s4 hm hh4 hd1 hd2 e1 (by omega) h0
    obtain ⟨f, h1, h2⟩ := hf4
    obtain ⟨y, hy, ey⟩ := hlen4 l hl
    rw [ex, h2, nI_add, mGoW, up2_same, up2_a (by omega), ey]
    split
    · rename_i q
      have := (nI_ltI (by omega) (by omega)).mp q
      exact ⟨f + x, by omega, up2_same _ _ _ _⟩
    · have hz : ∀ J : Mem, mArr1 (mArr0 J u l s) u m l u 7 = 0 := fun J => by rw [mArr1, up2_k (by decide), mLc_k (by omega) (by omega), mArr0, up2_a (by omega), up2_same]
      rw [mArr]
      split
      · exact ⟨0, by omega, by rw [up2_k (by decide), hz]; rfl⟩
      · exact ⟨0, by omega, by rw [hz]; rfl⟩
theorem far_pauZ {I : Mem} {u m : Nat} {c : Int32} (h : FarOK I u) : FarOK (mPauZ I u m c) u := by
  obtain ⟨f, h1, h2⟩ := h
  exact ⟨f, h1, by rw [mPauZ, up2_k (by decide), up2_k (by decide), dGain_t (by omega)]; exact h2⟩
theorem far_lead {I : Mem} {g u m w l n s q ow : Nat} (hs : StrOK I u m) (hm : m ≤ 16) (hf : FarOK I u) (hlen : LenOK I (g + 1) n) (hO : TlOK I g n) (how : I u 13 = nI ow) (how3 : ow ≤ 300) (hgu : g + 3 < u) (hs2 : s < 2000) (hl6 : I u 6 = nI l) (hld : ∃ ca, ca ≤ 16 ∧ I u 1 = nI (ow + 25 * ca)) (hon : I u 5 = 0 ∨ I u 5 = 1 → l < n) : FarOK (mLead I g u m w l n s q) u := by
  have key : ∀ A : Mem, (∀ b k, b ≠ u ∧ b ≠ u + 4 → A b k = I b k) → A u 7 = I u 7 → A u 13 = I u 13 → A u 1 = I u 1 → (A u 5 = 1 → l < n) → FarOK (mLeadZ A g u m w l n s q) u := by
    intro A hA a7 a13 a1 aon
    rw [mLeadZ]
    have fA : FarOK A u := by
      obtain ⟨f, h1, h2⟩ := hf
      exact ⟨f, h1, a7.trans h2⟩
    split
    · rename_i h5
      have hl := aon h5
      obtain ⟨hd, d1, d2, d3⟩ := hO.1 l hl
      obtain ⟨c1, c2⟩ := hO.2 (s / 6) (by omega)
      generalize mRule A g u m w l s q = o
      rw [mActs]
      have fB : ∀ x, FarOK (up2 A u 10 x) u := fun x => by
        obtain ⟨f, h1, h2⟩ := fA
        exact ⟨f, h1, (up2_k (by decide)).trans h2⟩
      have hc3 : A (g + 3) (s / 6) = I (g + 3) (s / 6) := hA _ _ (by omega)
      split
      · have goX : ∀ B : Mem, (∀ b k, b ≠ u ∧ b ≠ u + 4 ∧ b ≠ u + 5 → B b k = I b k) → FarOK B u → B u 13 = nI ow → B u 1 = I u 1 → FarOK (mGoX B g u m l n s (A (g + 3) (s / 6))) u := by
          intro B hB fB b13 b1
          rw [mGoX]
          obtain ⟨ca, hca, eL⟩ := hld
          obtain ⟨z, hz, ez⟩ := heat_N c1 c2
          have eX : 6 + B u 1 / 40 + B (g + 2) l / 25 + tHeat (A (g + 3) (s / 6)) = nI (6 + (ow + 25 * ca) / 40 + hd / 25 + z) := by
            rw [b1, eL, hB _ _ (by omega), d3, hc3, ez, show nI (ow + 25 * ca) / 40 = nI ((ow + 25 * ca) / 40) from pk_div (d := 40) (by omega) (by decide) (by decide), show nI hd / 25 = nI (hd / 25) from pk_div (d := 25) (by omega) (by decide) (by decide), show (6 : Int32) + nI ((ow + 25 * ca) / 40) = nI (6 + (ow + 25 * ca) / 40) from nI_add 6 _, nI_add, nI_add]
          rw [eX]
          have sB : StrOK (up2 (up2 B u 8 (B u 8 + 1)) u 9 0) u m := str_row hs (fun k hk => by rw [up2_a (by omega), up2_a (by omega)]; exact hB _ _ (by omega))
          refine far_goZ (hd := hd) (ow := ow) (str_lose sB (by omega) m) hm ?_ ?_ hl ?_ d1 d2 ?_ how3 hgu
          · obtain ⟨f, h1, h2⟩ := fB
            exact ⟨f, h1, by rw [mLose_k (by omega) (by omega), up2_k (by decide), up2_k (by decide)]; exact h2⟩
          · intro k hk
            rw [mLose_k (by omega) (by omega), up2_a (by omega), up2_a (by omega), hB _ _ (by omega)]
            exact hlen k hk
          · rw [mLose_k (by omega) (by omega), up2_a (by omega), up2_a (by omega), hB _ _ (by omega)]; exact d3
          · rw [mLose_k (by omega) (by omega), up2_k (by decide), up2_k (by decide)]; exact b13
        rw [mGo]
        split
        · refine goX _ (fun b k z => ?_) ?_ ?_ ?_
          · rw [up2_a (by omega), up2_a (by omega)]; exact hA b k (by omega)
          · obtain ⟨f, h1, h2⟩ := fB (rI o)
            exact ⟨f, h1, (up2_a (by omega)).trans h2⟩
          · rw [up2_a (by omega), up2_k (by decide), a13]; exact how
          · rw [up2_a (by omega), up2_k (by decide), a1]
        · refine goX _ (fun b k z => ?_) (fB _) ?_ ?_
          · rw [up2_a (by omega)]; exact hA b k (by omega)
          · rw [up2_k (by decide), a13]; exact how
          · rw [up2_k (by decide), a1]
      · rw [mPau]
        split
        · refine far_pauZ ?_
          obtain ⟨f, h1, h2⟩ := fB (rI o)
          exact ⟨f, h1, by rw [dGain_t (by omega), up2_k (by decide)]; exact h2⟩
        · split
          · refine far_pauZ ?_
            obtain ⟨f, h1, h2⟩ := fB (rI o)
            exact ⟨f, h1, by rw [up2_a (by omega), up2_a (by omega)]; exact h2⟩
          · exact far_pauZ (fB _)
    · exact fA
  rw [mLead, mOn]
  split
  · rename_i hc
    exact key _ (fun b k z => (up2_a (by omega)).trans (up2_a (by omega))) ((up2_a (by omega)).trans (up2_k (by decide))) ((up2_a (by omega)).trans (up2_k (by decide))) ((up2_a (by omega)).trans (up2_k (by decide))) (fun _ => hon (Or.inl hc.1))
  · exact key I (fun b k _ => rfl) rfl rfl rfl (fun z => hon (Or.inr z))
