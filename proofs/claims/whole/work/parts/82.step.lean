/-! ===== phase 2: a step, the whole of it ===== -/
theorem TlR.keep {I I' I1 I1' : Mem} {r a1 a2 a3 n : Nat} (h : TlR I I' r a1 a2 a3 n) (hc : ∀ b k, (b = r ∧ k = 4) ∨ (r < b ∧ b ≤ r + 4) → I1 b k = I b k) (hm : ∀ b k, b = a1 ∨ b = a2 ∨ b = a3 → I1' b k = I' b k) : TlR I1 I1' r a1 a2 a3 n := by
  obtain ⟨t1, t2, t3, t4⟩ := h
  refine ⟨(hc _ _ (by omega)).trans t1, t2, fun k hk => ?_, fun k hk => ?_⟩
  · rw [hc _ _ (by omega), hc _ _ (by omega), hm _ _ (by omega), hm _ _ (by omega)]; exact t3 k hk
  · rw [hc _ _ (by omega), hm _ _ (by omega)]; exact t4 k hk
theorem TlOK.keep {I I1 : Mem} {g n : Nat} (h : TlOK I g n) (hm : ∀ b k, b = g + 2 ∨ b = g + 3 → I1 b k = I b k) : TlOK I1 g n := by
  refine ⟨fun k hk => ?_, fun k hk => ?_⟩
  · rw [hm _ _ (by omega)]; exact h.1 k hk
  · rw [hm _ _ (by omega)]; exact h.2 k hk
theorem mTs_c {I I' : Mem} {g p : Nat} (h : ∀ k, I' (g + 23) k = I (g + 23) k) : ∀ j, mTs I' g p j = mTs I g p j
  | 0 => rfl
  | j + 1 => by rw [mTs, mTs, mTs_c h j, h]
theorem PlR.keep {I I' I1 I1' : Mem} {p g q : Nat} (h : PlR I I' p g q) (hc : ∀ b k, p ≤ b → b ≤ p + 6 → I1 b k = I b k) (hm : ∀ b k, g + 21 ≤ b → b ≤ g + 26 → I1' b k = I' b k) : PlR I1 I1' p g q := by
  obtain ⟨p1, p2, p3, p5, p4⟩ := h
  have e1 : pN I1 p = pN I p := by rw [pN, pN, hc _ _ (by omega) (by omega)]
  have e2 : mNr I1' g q = mNr I' g q := by rw [mNr, mNr, hm _ _ (by omega) (by omega)]
  have e3 : ∀ j, mTc I1' g j = mTc I' g j := fun j => by rw [mTc, mTc, hm _ _ (by omega) (by omega)]
  have e4 : ∀ j, pF I1 p j = pF I p j := fun j => by rw [pF, pF, hc _ _ (by omega) (by omega)]
  have e5 : ∀ j, pC I1 p j = pC I p j := fun j => by rw [pC, pC, hc _ _ (by omega) (by omega)]
  refine ⟨by rw [e1]; exact p1.keep (fun b k h1 h2 => hc b k h1 h2), p2.c (fun k => hm _ _ (by omega) (by omega)) (fun k => hm _ _ (by omega) (by omega)), by rw [e1, e2]; exact p3, ?_, fun j hj => ?_⟩
  · rw [e2, hc _ _ (by omega) (by omega), mTs_c (fun k => hm _ _ (by omega) (by omega))]; exact p5
  · rw [e2] at hj
    obtain ⟨c1, c2, c3⟩ := p4 j hj
    refine ⟨?_, ?_, fun i hi => ?_⟩
    · rw [hc _ _ (by omega) (by omega), hm _ _ (by omega) (by omega)]; exact c1
    · rw [e5, e3]; exact c2
    · rw [e3] at hi
      rw [e4, hc _ _ (by omega) (by omega), hc _ _ (by omega) (by omega), hc _ _ (by omega) (by omega), hm _ _ (by omega) (by omega), hm _ _ (by omega) (by omega), hm _ _ (by omega) (by omega)]
      exact c3 i hi
theorem pAct_a {I : Mem} {p t k : Nat} {x : Int32} (h : p + 6 < t ∨ t + 9 < p) (o : Option Nat) : pAct (up2 I t k x) p o = pAct I p o := by
  cases o with
  | none => rfl
  | some j => exact up2_a (by omega)
theorem step_sim {I I' : Mem} {t u r g m n l s p q ow w : Nat} (h : TR I I' t u m) (hld : tLoad I t = I' u 1) (hs : StrOK I' u m) (hT : TlR I I' r (g + 1) (g + 2) (g + 3) n) (hO : TlOK I' g n) (hs2 : s < 2000) (hl6 : I' u 6 = nI l) (how : I' u 13 = nI ow) (how3 : ow ≤ 300) (hP : PlR I I' p g q) (hon : I' u 5 = 0 ∨ I' u 5 = 1 → l < n ∧ dWeak I' u m = some w) (hgu : g + 3 < u) (hgu2 : u + 9 < g + 19 ∨ g + 27 < u) (hrt : r + 4 < t ∨ t + 9 < r) (hpt : p + 6 < t ∨ t + 9 < p) :
    TR (tStep I t r p m n l s (pN I p)) (mLead I' g u m w l n s q) t u m ∧ tLoad (tStep I t r p m n l s (pN I p)) t = mLead I' g u m w l n s q u 1 ∧ StrOK (mLead I' g u m w l n s q) u m := by
  have f8 : I t 8 = I' u 5 := h.2.1.2.2.2.2.1
  have f6 : I t 6 = I' u 3 := h.2.1.2.2.1
  rw [tStep, mLead]
  have key : ∀ A B : Mem, TR A B t u m → tLoad A t = B u 1 → StrOK B u m → TlR A B r (g + 1) (g + 2) (g + 3) n → TlOK B g n → B u 13 = nI ow → PlR A B p g q → pN A p = pN I p → (B u 5 = 1 → l < n ∧ dWeak B u m = some w) → TR (tStepZ A t r p m n l s (pN I p)) (mLeadZ B g u m w l n s q) t u m ∧ tLoad (tStepZ A t r p m n l s (pN I p)) t = mLeadZ B g u m w l n s q u 1 ∧ StrOK (mLeadZ B g u m w l n s q) u m := by
    intro A B hA lA sA tA oA wA pA eN onA
    rw [tStepZ, mLeadZ, hA.2.1.2.2.2.2.1]
    by_cases h1 : B u 5 = 1
    · obtain ⟨hl, hw⟩ := onA h1
      rw [if_pos ⟨h1, hl⟩, if_pos h1, ← eN, tActs, mActs, rule_eq hA lA tA sA hw hl hs2 pA]
      have ho : ∀ j, mRule B g u m w l s q = some j → j < mNr B g q := fun j hj => fst1_lt hj
      generalize mRule B g u m w l s q = o at *
      rw [pAct_a hpt, act_eq pA ho, up2_a (by omega)]
      have k1 : TR (up2 A t 14 (rI o)) (up2 B u 10 (rI o)) t u m := tr_did hA
      have l1 : tLoad (up2 A t 14 (rI o)) t = up2 B u 10 (rI o) u 1 := by rw [up2_k (by decide), ← lA, tLoad, tLoad, up2_k (by decide), up2_a (by omega)]
      have s1 : StrOK (up2 B u 10 (rI o)) u m := str_row sA (fun k hk => up2_a (by omega))
      have t1 : TlR (up2 A t 14 (rI o)) (up2 B u 10 (rI o)) r (g + 1) (g + 2) (g + 3) n := tA.keep (fun b k z => up2_a (by omega)) (fun b k z => up2_a (by omega))
      have o1 : TlOK (up2 B u 10 (rI o)) g n := oA.keep (fun b k z => up2_a (by omega))
      have e3 : up2 B u 10 (rI o) (g + 3) (s / 6) = B (g + 3) (s / 6) := up2_a (by omega)
      by_cases h0 : mAct B g q o = 0
      · rw [if_pos h0, if_pos h0]
        have := go_sim k1 l1 s1 hl t1 o1 hs2 ((up2_k (by decide)).trans wA) how3 hgu hrt
        rw [e3] at this
        exact this
      · rw [if_neg h0, if_neg h0, tA.2.2.2 _ (by omega)]
        exact pau_sim (l := l) k1 l1 s1 ((dWeak_c (fun k => up2_a (by omega)) (fun k => up2_a (by omega)) m).trans hw)
    · rw [if_neg (fun z => h1 z.1), if_neg h1]
      exact ⟨hA, lA, sA⟩
  rw [tOn, mOn, f8, f6]
  by_cases hc : I' u 5 = 0 ∧ I' u 3 = nI s
  · rw [if_pos ⟨hc.1, hc.2.symm⟩, if_pos hc, hc.2]
    refine key _ _ (tr_cam (tr_st h)) ?_ (str_row hs (fun k hk => (up2_a (by omega)).trans (up2_a (by omega)))) (hT.keep (fun b k z => (up2_a (by omega)).trans (up2_a (by omega))) (fun b k z => (up2_a (by omega)).trans (up2_a (by omega)))) (hO.keep (fun b k z => (up2_a (by omega)).trans (up2_a (by omega)))) ((up2_a (by omega)).trans ((up2_k (by decide)).trans how)) (hP.keep (fun b k h1 h2 => (up2_a (by omega)).trans (up2_a (by omega))) (fun b k h1 h2 => (up2_a (by omega)).trans (up2_a (by omega)))) (by rw [pN, pN, up2_a (by omega), up2_a (by omega)]) (fun _ => ?_)
    · rw [up2_a (by omega), up2_k (by decide), ← hld, tLoad, tLoad, up2_a (by omega), up2_k (by decide), up2_a (by omega), up2_a (by omega)]
    · obtain ⟨a, b⟩ := hon (Or.inl hc.1)
      exact ⟨a, (dWeak_c (fun k => (up2_a (by omega)).trans (up2_a (by omega))) (fun k => (up2_a (by omega)).trans (up2_a (by omega))) m).trans b⟩
  · rw [if_neg (fun z => hc ⟨z.1, z.2.symm⟩), if_neg hc]
    exact key I I' h hld hs hT hO how hP rfl (fun z => hon (Or.inr z))
