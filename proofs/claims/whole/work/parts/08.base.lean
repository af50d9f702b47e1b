/-! ===== loops, calls with the stack told apart, small numbers ===== -/
theorem loopN {P : Nat → Prop} (m : Nat) (step : ∀ j, j ≤ m → (j < m → P (j + 1)) → P j) : ∀ j, j ≤ m → P j := by
  have h : ∀ n j, j ≤ m → m - j = n → P j := by
    intro n
    induction n with
    | zero => intro j hj hn; exact step j hj (fun h => absurd h (by omega))
    | succ n ih => intro j hj hn; exact step j hj (fun h => ih (j + 1) (by omega) (by omega))
  exact fun j hj => h _ j hj rfl
theorem loopM {α : Type} {P : α → Prop} (μ : α → Nat) (step : ∀ a, (∀ b, μ b < μ a → P b) → P a) : ∀ a, P a := by
  have h : ∀ n a, μ a < n → P a := by
    intro n
    induction n with
    | zero => intro a ha; exact absurd ha (by omega)
    | succ n ih => intro a ha; exact step a (fun b hb => ih b (by omega))
  exact fun a => h _ a (Nat.lt_succ_self _)
section QC
variable {E : Ev} {M : Mc} {own : String} {cc : ByteArray} {nL : Nat} {rm : Room} {ret : Option FieldType} {nm : String} {cells slots : Nat} {Q : State → Prop} {pc : Nat} {L : List (Option Value)} {st st0 : List Value} {w : Wd} {post : Option Value → Wd → Prop}
variable {y : MethodName} {bytes : ByteArray} {maxL n idx : Nat} {rt : Option FieldType} {rm' : Room} {As : List Value} {b : Nat}
theorem q_callV {ci nb : Nat} {r : vw_C} (X : Cx E M own cc nL rm ret nm) (hd : decode cc pc = .ok (.invokevirtual idx, 3)) (hlk : VLk own idx y) (hw : CWd y bytes maxL rt n) (hct : Ct E y bytes maxL rt rm' (.ref b :: As) w post) (hst0 : st0 = As.reverse ++ .ref b :: st) (hs : w.1 b = some (ci, nb)) (hr : kCl[ci]? = some r) (hcl : r.1 = y.cls) (hn : As.length = n) (hst : (st.map fun v => v.category).sum ≤ 8) (hrm : rm'.frames + 1 ≤ rm.frames ∧ 19 + maxL + rm'.locals ≤ rm.locals) (hf : cells + rm'.cells ≤ rm.cells ∧ slots + rm'.slots ≤ rm.slots)
    (kk : ∀ v w', post v w' → G E M (cells + rm'.cells) (slots + rm'.slots) Q (pc + 3) L (v.toList ++ st) w') : G E M cells slots Q pc L st0 w := by
  subst hst0
  exact r_callV X hd hlk hw hct hs hr hcl hn hst hrm hf kk
theorem q_callS (X : Cx E M own cc nL rm ret nm) (hd : decode cc pc = .ok (.invokestatic idx, 3)) (hlk : SLk own idx y) (hw : CWd y bytes maxL rt n) (hct : Ct E y bytes maxL rt rm' As w post) (hst0 : st0 = As.reverse ++ st) (hn : As.length = n) (hst : (st.map fun v => v.category).sum ≤ 8) (hrm : rm'.frames + 1 ≤ rm.frames ∧ 19 + maxL + rm'.locals ≤ rm.locals) (hf : cells + rm'.cells ≤ rm.cells ∧ slots + rm'.slots ≤ rm.slots)
    (kk : ∀ v w', post v w' → G E M (cells + rm'.cells) (slots + rm'.slots) Q (pc + 3) L (v.toList ++ st) w') : G E M cells slots Q pc L st0 w := by
  subst hst0
  exact r_callS X hd hlk hw hct hn hst hrm hf kk
theorem q_callI (X : Cx E M own cc nL rm ret nm) (hd : decode cc pc = .ok (.invokespecial idx, 3)) (hlk : ILk own idx y) (hw : CWd y bytes maxL none n) (hct : Ct E y bytes maxL none rm' (.ref b :: As) w post) (hst0 : st0 = As.reverse ++ .ref b :: st) (hn : As.length = n) (hst : (st.map fun v => v.category).sum ≤ 8) (hrm : rm'.frames + 1 ≤ rm.frames ∧ 19 + maxL + rm'.locals ≤ rm.locals) (hf : cells + rm'.cells ≤ rm.cells ∧ slots + rm'.slots ≤ rm.slots)
    (kk : ∀ v w', post v w' → G E M (cells + rm'.cells) (slots + rm'.slots) Q (pc + 3) L (v.toList ++ st) w') : G E M cells slots Q pc L st0 w := by
  subst hst0
  exact r_callI X hd hlk hw hct hn hst hrm hf kk
end QC
def iMax (x y : Int32) : Int32 := if x < y then y else x
def iMin (x y : Int32) : Int32 := if y < x then y else x
def iCmp (x y : Int32) : Int32 := if x < y then -1 else if x = y then 0 else 1
abbrev rmZ : Room := { frames := 0, cells := 0, slots := 0, locals := 0 }
/-- the room of a method that stands k calls high, and makes nothing -/
abbrev rmL (k : Nat) : Room := { frames := k, cells := 0, slots := 0, locals := 40 * k }
abbrev rmA (k c s : Nat) : Room := { frames := k, cells := c, slots := s, locals := 40 * k }
theorem r_sw {E : Ev} {M : Mc} {cells slots : Nat} {Q : State → Prop} {pc : Nat} {L : List (Option Value)} {st : List Value} {w : Wd} {x : Int32} (k : Int32) (h1 : x = k → G E M cells slots Q pc L (.int x :: st) w) (h2 : ¬ x = k → G E M cells slots Q pc L (.int x :: st) w) : G E M cells slots Q pc L (.int x :: st) w := by
  by_cases h : x = k
  · exact h1 h
  · exact h2 h
/-- the first place below n with p -/
def fst1 (p : Nat → Bool) : Nat → Option Nat
  | 0 => none
  | n + 1 => match fst1 p n with
    | some i => some i
    | none => if p n then some n else none
theorem fst1_none {p : Nat → Bool} : ∀ {n : Nat}, (∀ q, q < n → p q = false) → fst1 p n = none
  | 0, _ => rfl
  | n + 1, h => by
    rw [fst1, fst1_none (fun q hq => h q (by omega))]
    simp [h n (by omega)]
theorem fst1_some {p : Nat → Bool} {j : Nat} (hj : p j = true) (hn : ∀ q, q < j → p q = false) : ∀ {n : Nat}, j < n → fst1 p n = some j
  | 0, h => absurd h (by omega)
  | n + 1, h => by
    rcases Nat.lt_or_ge j n with q | q
    · rw [fst1, fst1_some hj hn q]
    · obtain rfl : j = n := by omega
      rw [fst1, fst1_none hn]
      simp [hj]
theorem fst1_nn {p : Nat → Bool} : ∀ {n : Nat}, fst1 p n = none → ∀ q, q < n → p q = false
  | 0, _, q, hq => absurd hq (by omega)
  | n + 1, h, q, hq => by
    rw [fst1] at h
    cases hf : fst1 p n with
    | some i => simp [hf] at h
    | none =>
      simp [hf] at h
      rcases Nat.lt_or_ge q n with z | z
      · exact fst1_nn hf q z
      · obtain rfl : q = n := by omega
        simpa using h
theorem fst1_spec {p : Nat → Bool} : ∀ {n j : Nat}, fst1 p n = some j → j < n ∧ p j = true ∧ ∀ q, q < j → p q = false
  | 0, j, h => by simp [fst1] at h
  | n + 1, j, h => by
    rw [fst1] at h
    cases hf : fst1 p n with
    | some i =>
      simp [hf] at h
      subst h
      obtain ⟨a, b, c⟩ := fst1_spec hf
      exact ⟨by omega, b, c⟩
    | none =>
      simp [hf] at h
      obtain ⟨h1, rfl⟩ := h
      exact ⟨by omega, h1, fun q hq => fst1_nn hf q hq⟩
