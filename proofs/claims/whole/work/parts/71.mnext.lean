/-! ===== the reference: next ===== -/
def ByOK (x : Int32) : Prop := x.toInt8.toInt32 = x
theorem by_and {x : Int32} (h : ByOK x) : (0 ≤ x ∧ x &&& 255 = x ∧ ∃ n, n < 128 ∧ x = nI n) ∨ (x < 0 ∧ ∃ n, 128 ≤ n ∧ n < 256 ∧ x &&& 255 = nI n) := by
  have h1 : x.toInt = x.toInt8.toInt := by
    rw [← Int8.toInt_toInt32, h]
  have h2 := Int8.le_toInt x.toInt8
  have h3 := Int8.toInt_lt x.toInt8
  rcases Classical.em (x < 0) with hx | hx
  · refine Or.inr ⟨hx, x.toBitVec.toNat % 256, ?_⟩
    have hx' : x.toInt < 0 := by simpa [Int32.lt_iff_toInt_lt] using hx
    have e1 : x &&& 255 = nI (x.toBitVec.toNat % 2 ^ 8) := pk_and x 8 (by decide)
    have e2 : x.toInt = (x.toBitVec.toNat : Int) - 2 ^ 32 := by
      have := BitVec.toInt_eq_toNat_cond x.toBitVec
      have e3 : x.toInt = x.toBitVec.toInt := rfl
      rw [e3, this]
      split
      · rename_i q
        rw [if_pos q] at this
        rw [e3, this] at hx'
        omega
      · rfl
    refine ⟨by omega, by omega, e1⟩
  · refine Or.inl ⟨Int32.not_lt.mp hx, ?_⟩
    obtain ⟨n, hn, rfl⟩ := nI_of hx
    have h4 : (nI n).toInt = (n : Int) := nI_toInt hn
    have hn8 : n < 128 := by omega
    refine ⟨?_, n, hn8, rfl⟩
    rw [pk_andN (by omega) (m := 255) 8 (by decide), Nat.mod_eq_of_lt (by omega)]
theorem tkKind_neg {x : Int32} (h : x < 0) : tkKind x = 6 := by
  unfold tkKind
  have h0 : ∀ k : Int32, 0 ≤ k → ¬ k ≤ x := fun k hk z => absurd (Int32.le_trans hk z) (Int32.not_le.mpr h)
  have h1 : ∀ k : Int32, 0 ≤ k → ¬ x = k := fun k hk z => by rw [z] at h; exact absurd h (Int32.not_lt.mpr hk)
  rw [if_neg (fun z => h0 97 (by decide) z.1), if_neg (fun z => h0 48 (by decide) z.1), if_neg (h1 10 (by decide)), if_neg (h1 32 (by decide)), if_neg (h1 59 (by decide)), if_neg (h1 60 (by decide)), if_neg (h1 62 (by decide))]
theorem tkKind_N {n : Nat} (hn : n < 2 ^ 31) : tkKind (nI n) = if 97 ≤ n ∧ n ≤ 122 then 1 else if 48 ≤ n ∧ n ≤ 57 then 2 else if n = 10 then 7 else if n = 32 then 7 else if n = 59 then 5 else if n = 60 then 3 else if n = 62 then 4 else 6 := by
  unfold tkKind
  have e1 : ∀ k : Nat, k < 2 ^ 31 → (nI k ≤ nI n ↔ k ≤ n) := fun k hk => nI_leI hk hn
  have e2 : ∀ k : Nat, k < 2 ^ 31 → (nI n ≤ nI k ↔ n ≤ k) := fun k hk => nI_leI hn hk
  have e3 : ∀ k : Nat, k < 2 ^ 31 → (nI n = nI k ↔ n = k) := fun k hk => nI_eq hn hk
  have a1 := e1 97 (by decide)
  have a2 := e2 122 (by decide)
  have a3 := e1 48 (by decide)
  have a4 := e2 57 (by decide)
  have b1 := e3 10 (by decide)
  have b2 := e3 32 (by decide)
  have b3 := e3 59 (by decide)
  have b4 := e3 60 (by decide)
  have b5 := e3 62 (by decide)
  have c97 : (97 : Int32) = nI 97 := rfl
  have c122 : (122 : Int32) = nI 122 := rfl
  have c48 : (48 : Int32) = nI 48 := rfl
  have c57 : (57 : Int32) = nI 57 := rfl
  have c10 : (10 : Int32) = nI 10 := rfl
  have c32 : (32 : Int32) = nI 32 := rfl
  have c59 : (59 : Int32) = nI 59 := rfl
  have c60 : (60 : Int32) = nI 60 := rfl
  have c62 : (62 : Int32) = nI 62 := rfl
  rw [c97, c122, c48, c57, c10, c32, c59, c60, c62]
  simp only [a1, a2, a3, a4, b1, b2, b3, b4, b5]
/-- what the reference sees of a byte -/
theorem by_sees {x : Int32} (h : ByOK x) : ∃ n, n < 256 ∧ x &&& 255 = nI n ∧ tkKind x = (if 97 ≤ n ∧ n ≤ 122 then 1 else if 48 ≤ n ∧ n ≤ 57 then 2 else if n = 10 then 7 else if n = 32 then 7 else if n = 59 then 5 else if n = 60 then 3 else if n = 62 then 4 else 6) ∧ (n < 128 → x = nI n) := by
  rcases by_and h with ⟨h0, h1, n, hn, rfl⟩ | ⟨h0, n, h1, h2, h3⟩
  · exact ⟨n, by omega, h1, tkKind_N (by omega), fun _ => rfl⟩
  · refine ⟨n, h2, h3, ?_, fun z => by omega⟩
    rw [tkKind_neg h0, if_neg (by omega), if_neg (by omega), if_neg (by omega), if_neg (by omega), if_neg (by omega), if_neg (by omega), if_neg (by omega)]
def setN (I : Mem) (g : Nat) (a so pl si nu : Int32) : Mem := up2 (up2 (up2 (up2 (up2 I g 25 a) g 26 so) g 27 pl) g 28 si) g 29 nu
theorem setN_id (I : Mem) (g : Nat) : setN I g (I g 25) (I g 26) (I g 27) (I g 28) (I g 29) = I := by
  funext b k; simp only [setN, up2]; grind
theorem setN_25 (I : Mem) (g : Nat) (a so pl si nu x : Int32) : up2 (setN I g a so pl si nu) g 25 x = setN I g x so pl si nu := by
  funext b k; simp only [setN, up2]; grind
theorem setN_26 (I : Mem) (g : Nat) (a so pl si nu x : Int32) : up2 (setN I g a so pl si nu) g 26 x = setN I g a x pl si nu := by
  funext b k; simp only [setN, up2]; grind
theorem setN_27 (I : Mem) (g : Nat) (a so pl si nu x : Int32) : up2 (setN I g a so pl si nu) g 27 x = setN I g a so x si nu := by
  funext b k; simp only [setN, up2]; grind
theorem setN_28 (I : Mem) (g : Nat) (a so pl si nu x : Int32) : up2 (setN I g a so pl si nu) g 28 x = setN I g a so pl x nu := by
  funext b k; simp only [setN, up2]; grind
theorem setN_29 (I : Mem) (g : Nat) (a so pl si nu x : Int32) : up2 (setN I g a so pl si nu) g 29 x = setN I g a so pl si x := by
  funext b k; simp only [setN, up2]; grind
theorem setN_g (I : Mem) (g : Nat) (a so pl si nu : Int32) : setN I g a so pl si nu g 25 = a ∧ setN I g a so pl si nu g 26 = so ∧ setN I g a so pl si nu g 27 = pl ∧ setN I g a so pl si nu g 28 = si ∧ setN I g a so pl si nu g 29 = nu := by
  simp [setN, up2]
theorem setN_o {I : Mem} {g : Nat} {a so pl si nu : Int32} {b k : Nat} (h : b ≠ g ∨ k < 25 ∨ 29 < k) : setN I g a so pl si nu b k = I b k := by
  unfold setN up2
  rw [if_neg (by omega), if_neg (by omega), if_neg (by omega), if_neg (by omega), if_neg (by omega)]
theorem up2J (J : Nat → Nat → Int64) (a k : Nat) (x y : Int64) : up2 (up2 J a k x) a k y = up2 J a k y := by
  funext b j; simp only [up2]; grind
theorem by_kinds {x : Int32} (h : ByOK x) : ∃ n, n < 256 ∧ x &&& 255 = nI n ∧ (tkKind x = 7 ↔ n = 10 ∨ n = 32) ∧ (tkKind x = 1 ↔ 97 ≤ n ∧ n ≤ 122) ∧ (tkKind x = 2 ↔ 48 ≤ n ∧ n ≤ 57) ∧ (tkKind x = 3 ↔ n = 60) ∧ (tkKind x = 4 ↔ n = 62) ∧ (tkKind x = 5 ↔ n = 59) ∧ (tkKind x = 1 ∨ tkKind x = 2 ∨ tkKind x = 3 ∨ tkKind x = 4 ∨ tkKind x = 5 ∨ tkKind x = 6 ∨ tkKind x = 7) ∧ (n < 128 → x = nI n) := by
  obtain ⟨n, h1, h2, h3, h4⟩ := by_sees h
  refine ⟨n, h1, h2, ?_⟩
  generalize tkKind x = k at h3
  have d1 : ¬ (1 : Int32) = 7 ∧ ¬ (2 : Int32) = 7 ∧ ¬ (5 : Int32) = 7 ∧ ¬ (3 : Int32) = 7 ∧ ¬ (4 : Int32) = 7 ∧ ¬ (6 : Int32) = 7 := by decide
  have d2 : ¬ (7 : Int32) = 1 ∧ ¬ (2 : Int32) = 1 ∧ ¬ (5 : Int32) = 1 ∧ ¬ (3 : Int32) = 1 ∧ ¬ (4 : Int32) = 1 ∧ ¬ (6 : Int32) = 1 := by decide
  have d3 : ¬ (7 : Int32) = 2 ∧ ¬ (1 : Int32) = 2 ∧ ¬ (5 : Int32) = 2 ∧ ¬ (3 : Int32) = 2 ∧ ¬ (4 : Int32) = 2 ∧ ¬ (6 : Int32) = 2 := by decide
  have d4 : ¬ (7 : Int32) = 3 ∧ ¬ (1 : Int32) = 3 ∧ ¬ (5 : Int32) = 3 ∧ ¬ (2 : Int32) = 3 ∧ ¬ (4 : Int32) = 3 ∧ ¬ (6 : Int32) = 3 := by decide
  have d5 : ¬ (7 : Int32) = 4 ∧ ¬ (1 : Int32) = 4 ∧ ¬ (5 : Int32) = 4 ∧ ¬ (2 : Int32) = 4 ∧ ¬ (3 : Int32) = 4 ∧ ¬ (6 : Int32) = 4 := by decide
  have d6 : ¬ (7 : Int32) = 5 ∧ ¬ (1 : Int32) = 5 ∧ ¬ (4 : Int32) = 5 ∧ ¬ (2 : Int32) = 5 ∧ ¬ (3 : Int32) = 5 ∧ ¬ (6 : Int32) = 5 := by decide
  obtain ⟨d11, d12, d13, d14, d15, d16⟩ := d1
  obtain ⟨d21, d22, d23, d24, d25, d26⟩ := d2
  obtain ⟨d31, d32, d33, d34, d35, d36⟩ := d3
  obtain ⟨d41, d42, d43, d44, d45, d46⟩ := d4
  obtain ⟨d51, d52, d53, d54, d55, d56⟩ := d5
  obtain ⟨d61, d62, d63, d64, d65, d66⟩ := d6
  split at h3
  · subst h3
    simp only [d21, d11, d31, d32, d42, d52, d62, true_iff, false_iff, true_or, or_true, and_true, true_and]
    refine ⟨by omega, by omega, by omega, by omega, by omega, by omega, h4⟩
  · split at h3
    · subst h3
      simp only [d12, d22, d44, d54, d64, true_iff, false_iff, true_or, or_true, true_and]
      refine ⟨by omega, by omega, by omega, by omega, by omega, by omega, h4⟩
    · split at h3
      · subst h3
        simp only [d21, d31, d41, d51, d61, true_iff, false_iff, true_or, or_true, true_and]
        refine ⟨by omega, by omega, by omega, by omega, by omega, by omega, h4⟩
      · split at h3
        · subst h3
          simp only [d21, d31, d41, d51, d61, true_iff, false_iff, true_or, or_true, true_and]
          refine ⟨by omega, by omega, by omega, by omega, by omega, by omega, h4⟩
        · split at h3
          · subst h3
            simp only [d13, d23, d33, d43, d53, true_iff, false_iff, true_or, or_true, true_and]
            refine ⟨by omega, by omega, by omega, by omega, by omega, by omega, h4⟩
          · split at h3
            · subst h3
              simp only [d14, d24, d34, d55, d65, true_iff, false_iff, true_or, or_true, true_and]
              refine ⟨by omega, by omega, by omega, by omega, by omega, by omega, h4⟩
            · split at h3
              · subst h3
                simp only [d15, d25, d35, d45, d63, true_iff, false_iff, true_or, or_true, true_and]
                refine ⟨by omega, by omega, by omega, by omega, by omega, by omega, h4⟩
              · subst h3
                simp only [d16, d26, d36, d46, d56, d66, false_iff, true_or, or_true, true_and]
                refine ⟨by omega, by omega, by omega, by omega, by omega, by omega, h4⟩
theorem inB_N {n a b : Nat} (hn : n < 2 ^ 31) (ha : a < 2 ^ 31) (hb : b < 2 ^ 31) : inB (nI n) (nI a) (nI b) = true ↔ a ≤ n ∧ n ≤ b := by
  unfold inB
  rw [Bool.and_eq_true, decide_eq_true_eq, decide_eq_true_eq, nI_leI ha hn, nI_leI hn hb]
