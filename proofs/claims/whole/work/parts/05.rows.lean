/-! ===== rows: an instruction each, over G ===== -/
def up2 {α : Type} (f : Nat → Nat → α) (a k : Nat) (x : α) : Nat → Nat → α := fun b j => if b = a ∧ j = k then x else f b j
def up1 {α : Type} (f : Nat → α) (a : Nat) (x : α) : Nat → α := fun b => if b = a then x else f b
def zr {α : Type} (f : Nat → Nat → α) (a : Nat) (x : α) : Nat → Nat → α := fun b j => if b = a then x else f b j
theorem up2_same {α : Type} (f : Nat → Nat → α) (a k : Nat) (x : α) : up2 f a k x a k = x := by simp [up2]
theorem up2_a {α : Type} {f : Nat → Nat → α} {a k b j : Nat} {x : α} (h : b ≠ a) : up2 f a k x b j = f b j := by simp [up2, h]
theorem up2_k {α : Type} {f : Nat → Nat → α} {a k b j : Nat} {x : α} (h : j ≠ k) : up2 f a k x b j = f b j := by simp [up2, h]
theorem up2_row {α : Type} {f : Nat → Nat → α} {a k b : Nat} {x : α} (h : b ≠ a) : up2 f a k x b = f b := by funext j; simp [up2, h]
def prs (L : List (Option Value)) : List (Nat × Value) := (List.range L.length).filterMap (fun i => match L[i]? with
  | some (some v) => some (i, v)
  | _ => none)
theorem mem_prs {L : List (Option Value)} {i : Nat} {v : Value} : (i, v) ∈ prs L ↔ L[i]? = some (some v) := by
  unfold prs
  rw [List.mem_filterMap]
  constructor
  · rintro ⟨j, hj, h⟩
    split at h
    · next x hx =>
      cases h
      exact hx
    · cases h
  · intro h
    have hlt : i < L.length := (List.getElem?_eq_some_iff.mp h).1
    exact ⟨i, List.mem_range.mpr hlt, by rw [h]⟩
theorem lok.has {n : Nat} {ls : Array Slot} {L : List (Option Value)} (h : lok n ls L) : lv_has ls n (prs L) := ⟨h.1, h.2.1, fun q hq => h.2.2 q.1 q.2 (mem_prs.mp hq)⟩
/-- no long lies just ahead of place i -/
def okst (L : List (Option Value)) (i : Nat) : Bool := match i with
  | 0 => true
  | j + 1 => match L[j]? with
    | some (some v) => v.category == 1
    | _ => true
theorem lok.st1 {n : Nat} {ls' : Array Slot} {L : List (Option Value)} {i : Nat} {v : Value} (ho : okst L i = true) (h : lv_has ls' n ((i, v) :: (prs L).filter (fun q => !(q.1 == i) && !(q.1 + 1 == i && q.2.category == 2)))) : lok n ls' (L.set i (some v)) := by
  refine ⟨h.1, h.2.1, fun j w hj => ?_⟩
  by_cases hji : j = i
  · subst hji
    have hw : w = v := by
      rw [List.getElem?_set] at hj
      simp only [if_true] at hj
      split at hj
      · cases hj; rfl
      · cases hj
    rw [hw]
    exact h.2.2 (j, v) List.mem_cons_self
  · have hj2 : L[j]? = some (some w) := by
      rw [List.getElem?_set_ne (Ne.symm hji)] at hj
      exact hj
    refine h.2.2 (j, w) (List.mem_cons_of_mem _ (List.mem_filter.mpr ⟨mem_prs.mpr hj2, ?_⟩))
    simp only [Bool.and_eq_true, Bool.not_eq_true', beq_eq_false_iff_ne, Bool.and_eq_false_iff]
    refine ⟨hji, ?_⟩
    by_cases hj1 : j + 1 = i
    · right
      subst hj1
      simp only [okst, hj2] at ho
      have : w.category = 1 := by simpa using ho
      omega
    · left
      exact hj1
theorem lok.st2 {n : Nat} {ls' : Array Slot} {L : List (Option Value)} {i : Nat} {v : Value} (ho : okst L i = true) (h : lv_has ls' n ((i, v) :: (prs L).filter (fun q => !(q.1 == i) && (!(q.1 == i + 1) && !(q.1 + 1 == i && q.2.category == 2))))) : lok n ls' ((L.set i (some v)).set (i + 1) none) := by
  refine ⟨h.1, h.2.1, fun j w hj => ?_⟩
  by_cases hji1 : j = i + 1
  · subst hji1
    rw [List.getElem?_set] at hj
    simp only [if_true] at hj
    split at hj
    · cases hj
    · cases hj
  · rw [List.getElem?_set_ne (Ne.symm hji1)] at hj
    by_cases hji : j = i
    · subst hji
      have hw : w = v := by
        rw [List.getElem?_set] at hj
        simp only [if_true] at hj
        split at hj
        · cases hj; rfl
        · cases hj
      rw [hw]
      exact h.2.2 (j, v) List.mem_cons_self
    · have hj2 : L[j]? = some (some w) := by
        rw [List.getElem?_set_ne (Ne.symm hji)] at hj
        exact hj
      refine h.2.2 (j, w) (List.mem_cons_of_mem _ (List.mem_filter.mpr ⟨mem_prs.mpr hj2, ?_⟩))
      simp only [Bool.and_eq_true, Bool.not_eq_true', beq_eq_false_iff_ne, Bool.and_eq_false_iff]
      refine ⟨hji, hji1, ?_⟩
      by_cases hj1 : j + 1 = i
      · right
        subst hj1
        simp only [okst, hj2] at ho
        have : w.category = 1 := by simpa using ho
        omega
      · left
        exact hj1
section RW
variable {E : Ev} {M : Mc} {own : String} {cc : ByteArray} {nL : Nat} {rm : Room} {ret : Option FieldType} {nm : String} {cells slots : Nat} {Q : State → Prop} {pc : Nat} {L : List (Option Value)} {st : List Value} {w : Wd}
theorem r_iconst {n : Int} {v : Int32} (X : Cx E M own cc nL rm ret nm) (hd : decode cc pc = .ok (.iconst n, 1)) (hv : Int32.ofInt n = v) (kk : G E M cells slots Q (pc + 1) L (.int v :: st) w) : G E M cells slots Q pc L (st) w := fun H locs ls hR hl hls => lv_iconst X.hx X.hb hd hv (kk H locs ls hR hl hls)
theorem r_bipush {n : Int} {v : Int32} (X : Cx E M own cc nL rm ret nm) (hd : decode cc pc = .ok (.bipush n, 2)) (hv : (Int8.ofInt n).toInt32 = v) (kk : G E M cells slots Q (pc + 2) L (.int v :: st) w) : G E M cells slots Q pc L (st) w := fun H locs ls hR hl hls => lv_bipush X.hx X.hb hd hv (kk H locs ls hR hl hls)
theorem r_sipush {n : Int} {v : Int32} (X : Cx E M own cc nL rm ret nm) (hd : decode cc pc = .ok (.sipush n, 3)) (hv : (Int16.ofInt n).toInt32 = v) (kk : G E M cells slots Q (pc + 3) L (.int v :: st) w) : G E M cells slots Q pc L (st) w := fun H locs ls hR hl hls => lv_sipush X.hx X.hb hd hv (kk H locs ls hR hl hls)
theorem r_lconst {n : Fin 2} {v : Int64} (X : Cx E M own cc nL rm ret nm) (hd : decode cc pc = .ok (.lconst n, 1)) (hv : Int64.ofNat (n : Nat) = v) (kk : G E M cells slots Q (pc + 1) L (.long v :: st) w) : G E M cells slots Q pc L (st) w := fun H locs ls hR hl hls => lv_lconst X.hx X.hb hd hv (kk H locs ls hR hl hls)
theorem r_null  (X : Cx E M own cc nL rm ret nm) (hd : decode cc pc = .ok (.aconst_null, 1))  (kk : G E M cells slots Q (pc + 1) L (.null :: st) w) : G E M cells slots Q pc L (st) w := fun H locs ls hR hl hls => lv_null X.hx X.hb hd  (kk H locs ls hR hl hls)
theorem r_iload_n {k : Fin 4} {i : Nat} {x : Int32} (X : Cx E M own cc nL rm ret nm) (hd : decode cc pc = .ok (.iload_n k, 1)) (hi : (k : Nat) = i) (hx : L[i]? = some (some (.int x))) (kk : G E M cells slots Q (pc + 1) L (.int x :: st) w) : G E M cells slots Q pc L st w := fun H locs ls hR hl hls => lv_iload_n X.hx X.hb hd hi (hls.2.2 _ _ hx) (kk H locs ls hR hl hls)
theorem r_iload {i : Nat} {x : Int32} (X : Cx E M own cc nL rm ret nm) (hd : decode cc pc = .ok (.iload i, 2)) (hx : L[i]? = some (some (.int x))) (kk : G E M cells slots Q (pc + 2) L (.int x :: st) w) : G E M cells slots Q pc L st w := fun H locs ls hR hl hls => lv_iload X.hx X.hb hd (hls.2.2 _ _ hx) (kk H locs ls hR hl hls)
theorem r_lload_n {k : Fin 4} {i : Nat} {x : Int64} (X : Cx E M own cc nL rm ret nm) (hd : decode cc pc = .ok (.lload_n k, 1)) (hi : (k : Nat) = i) (hx : L[i]? = some (some (.long x))) (kk : G E M cells slots Q (pc + 1) L (.long x :: st) w) : G E M cells slots Q pc L st w := fun H locs ls hR hl hls => lv_lload_n X.hx X.hb hd hi (hls.2.2 _ _ hx) (kk H locs ls hR hl hls)
theorem r_lload {i : Nat} {x : Int64} (X : Cx E M own cc nL rm ret nm) (hd : decode cc pc = .ok (.lload i, 2)) (hx : L[i]? = some (some (.long x))) (kk : G E M cells slots Q (pc + 2) L (.long x :: st) w) : G E M cells slots Q pc L st w := fun H locs ls hR hl hls => lv_lload X.hx X.hb hd (hls.2.2 _ _ hx) (kk H locs ls hR hl hls)
theorem r_aload_n {k : Fin 4} {i : Nat} {x : Nat} (X : Cx E M own cc nL rm ret nm) (hd : decode cc pc = .ok (.aload_n k, 1)) (hi : (k : Nat) = i) (hx : L[i]? = some (some (.ref x))) (kk : G E M cells slots Q (pc + 1) L (.ref x :: st) w) : G E M cells slots Q pc L st w := fun H locs ls hR hl hls => lv_aload_n X.hx X.hb hd hi (hls.2.2 _ _ hx) (kk H locs ls hR hl hls)
theorem r_aload {i : Nat} {x : Nat} (X : Cx E M own cc nL rm ret nm) (hd : decode cc pc = .ok (.aload i, 2)) (hx : L[i]? = some (some (.ref x))) (kk : G E M cells slots Q (pc + 2) L (.ref x :: st) w) : G E M cells slots Q pc L st w := fun H locs ls hR hl hls => lv_aload X.hx X.hb hd (hls.2.2 _ _ hx) (kk H locs ls hR hl hls)
theorem r_istore_n {k : Fin 4} {i : Nat} {x : Int32} (X : Cx E M own cc nL rm ret nm) (hd : decode cc pc = .ok (.istore_n k, 1)) (hi : (k : Nat) = i) (hn : i < nL) (ho : okst L i = true) (kk : G E M cells slots Q (pc + 1) (L.set i (some (.int x))) st w) : G E M cells slots Q pc L (.int x :: st) w := fun H locs ls hR hl hls => lv_istore_n X.hx X.hb hd hi hls.has (by rw [X.hml]; exact hn) rfl (fun ls' h' => kk H locs ls' hR hl (lok.st1 ho h'))
theorem r_istore {i : Nat} {x : Int32} (X : Cx E M own cc nL rm ret nm) (hd : decode cc pc = .ok (.istore i, 2)) (hn : i < nL) (ho : okst L i = true) (kk : G E M cells slots Q (pc + 2) (L.set i (some (.int x))) st w) : G E M cells slots Q pc L (.int x :: st) w := fun H locs ls hR hl hls => lv_istore X.hx X.hb hd hls.has (by rw [X.hml]; exact hn) rfl (fun ls' h' => kk H locs ls' hR hl (lok.st1 ho h'))
theorem r_astore_n {k : Fin 4} {i : Nat} {x : Nat} (X : Cx E M own cc nL rm ret nm) (hd : decode cc pc = .ok (.astore_n k, 1)) (hi : (k : Nat) = i) (hn : i < nL) (ho : okst L i = true) (kk : G E M cells slots Q (pc + 1) (L.set i (some (.ref x))) st w) : G E M cells slots Q pc L (.ref x :: st) w := fun H locs ls hR hl hls => lv_astore_n X.hx X.hb hd hi hls.has (by rw [X.hml]; exact hn) rfl (fun ls' h' => kk H locs ls' hR hl (lok.st1 ho h'))
theorem r_astore {i : Nat} {x : Nat} (X : Cx E M own cc nL rm ret nm) (hd : decode cc pc = .ok (.astore i, 2)) (hn : i < nL) (ho : okst L i = true) (kk : G E M cells slots Q (pc + 2) (L.set i (some (.ref x))) st w) : G E M cells slots Q pc L (.ref x :: st) w := fun H locs ls hR hl hls => lv_astore X.hx X.hb hd hls.has (by rw [X.hml]; exact hn) rfl (fun ls' h' => kk H locs ls' hR hl (lok.st1 ho h'))
theorem r_lstore_n {k : Fin 4} {i : Nat} {x : Int64} (X : Cx E M own cc nL rm ret nm) (hd : decode cc pc = .ok (.lstore_n k, 1)) (hi : (k : Nat) = i) (hn : i + 1 < nL) (ho : okst L i = true) (kk : G E M cells slots Q (pc + 1) ((L.set i (some (.long x))).set (i + 1) none) st w) : G E M cells slots Q pc L (.long x :: st) w := fun H locs ls hR hl hls => lv_lstore_n X.hx X.hb hd hi hls.has (by rw [X.hml]; exact hn) rfl (fun ls' h' => kk H locs ls' hR hl (lok.st2 ho h'))
theorem r_iinc {i : Nat} {n : Int} {x v : Int32} (X : Cx E M own cc nL rm ret nm) (hd : decode cc pc = .ok (.iinc i n, 3)) (hx : L[i]? = some (some (.int x))) (hv : x + Int32.ofInt n = v) (hn : i < nL) (ho : okst L i = true) (kk : G E M cells slots Q (pc + 3) (L.set i (some (.int v))) st w) : G E M cells slots Q pc L st w := by
  intro H locs ls hR hl hls
  obtain ⟨k, hk⟩ := List.getElem?_of_mem (mem_prs.mpr hx)
  exact lv_iinc X.hx X.hb hd hls.has hk hv (by rw [X.hml]; exact hn) rfl (fun ls' h' => kk H locs ls' hR hl (lok.st1 ho h'))
/-- a counter goes on -/
theorem r_iincN {i j : Nat} (X : Cx E M own cc nL rm ret nm) (hd : decode cc pc = .ok (.iinc i 1, 3)) (hx : L[i]? = some (some (.int (nI j)))) (hn : i < nL) (ho : okst L i = true) (kk : G E M cells slots Q (pc + 3) (L.set i (some (.int (nI (j + 1))))) st w) : G E M cells slots Q pc L st w := r_iinc X hd hx (show nI j + Int32.ofInt 1 = nI (j + 1) from nI_1 j) hn ho kk
theorem r_iadd {x y : Int32} (X : Cx E M own cc nL rm ret nm) (hd : decode cc pc = .ok (.iadd, 1))  (kk : G E M cells slots Q (pc + 1) L (.int (x + y) :: st) w) : G E M cells slots Q pc L (.int y :: .int x :: st) w := fun H locs ls hR hl hls => lv_iadd X.hx X.hb hd  (kk H locs ls hR hl hls)
theorem r_isub {x y : Int32} (X : Cx E M own cc nL rm ret nm) (hd : decode cc pc = .ok (.isub, 1))  (kk : G E M cells slots Q (pc + 1) L (.int (x - y) :: st) w) : G E M cells slots Q pc L (.int y :: .int x :: st) w := fun H locs ls hR hl hls => lv_isub X.hx X.hb hd  (kk H locs ls hR hl hls)
theorem r_imul {x y : Int32} (X : Cx E M own cc nL rm ret nm) (hd : decode cc pc = .ok (.imul, 1))  (kk : G E M cells slots Q (pc + 1) L (.int (x * y) :: st) w) : G E M cells slots Q pc L (.int y :: .int x :: st) w := fun H locs ls hR hl hls => lv_imul X.hx X.hb hd  (kk H locs ls hR hl hls)
theorem r_iand {x y : Int32} (X : Cx E M own cc nL rm ret nm) (hd : decode cc pc = .ok (.iand, 1))  (kk : G E M cells slots Q (pc + 1) L (.int (x &&& y) :: st) w) : G E M cells slots Q pc L (.int y :: .int x :: st) w := fun H locs ls hR hl hls => lv_iand X.hx X.hb hd  (kk H locs ls hR hl hls)
theorem r_ishr {x y : Int32} (X : Cx E M own cc nL rm ret nm) (hd : decode cc pc = .ok (.ishr, 1))  (kk : G E M cells slots Q (pc + 1) L (.int (x >>> (y &&& 31)) :: st) w) : G E M cells slots Q pc L (.int y :: .int x :: st) w := fun H locs ls hR hl hls => lv_ishr X.hx X.hb hd  (kk H locs ls hR hl hls)
theorem r_idiv {x y : Int32} (X : Cx E M own cc nL rm ret nm) (hd : decode cc pc = .ok (.idiv, 1)) (hne : ¬ y = 0) (kk : G E M cells slots Q (pc + 1) L (.int (x / y) :: st) w) : G E M cells slots Q pc L (.int y :: .int x :: st) w := fun H locs ls hR hl hls => lv_idiv X.hx X.hb hd hne (kk H locs ls hR hl hls)
theorem r_irem {x y : Int32} (X : Cx E M own cc nL rm ret nm) (hd : decode cc pc = .ok (.irem, 1)) (hne : ¬ y = 0) (kk : G E M cells slots Q (pc + 1) L (.int (x - x / y * y) :: st) w) : G E M cells slots Q pc L (.int y :: .int x :: st) w := fun H locs ls hR hl hls => lv_irem X.hx X.hb hd hne (kk H locs ls hR hl hls)
theorem r_ineg {x : Int32} (X : Cx E M own cc nL rm ret nm) (hd : decode cc pc = .ok (.ineg, 1))  (kk : G E M cells slots Q (pc + 1) L (.int (-x) :: st) w) : G E M cells slots Q pc L (.int x :: st) w := fun H locs ls hR hl hls => lv_ineg X.hx X.hb hd  (kk H locs ls hR hl hls)
theorem r_ladd {x y : Int64} (X : Cx E M own cc nL rm ret nm) (hd : decode cc pc = .ok (.ladd, 1))  (kk : G E M cells slots Q (pc + 1) L (.long (x + y) :: st) w) : G E M cells slots Q pc L (.long y :: .long x :: st) w := fun H locs ls hR hl hls => lv_ladd X.hx X.hb hd  (kk H locs ls hR hl hls)
theorem r_lmul {x y : Int64} (X : Cx E M own cc nL rm ret nm) (hd : decode cc pc = .ok (.lmul, 1))  (kk : G E M cells slots Q (pc + 1) L (.long (x * y) :: st) w) : G E M cells slots Q pc L (.long y :: .long x :: st) w := fun H locs ls hR hl hls => lv_lmul X.hx X.hb hd  (kk H locs ls hR hl hls)
theorem r_i2l {x : Int32} (X : Cx E M own cc nL rm ret nm) (hd : decode cc pc = .ok (.i2l, 1))  (kk : G E M cells slots Q (pc + 1) L (.long x.toInt64 :: st) w) : G E M cells slots Q pc L (.int x :: st) w := fun H locs ls hR hl hls => lv_i2l X.hx X.hb hd rfl (kk H locs ls hR hl hls)
theorem r_i2b {x : Int32} (X : Cx E M own cc nL rm ret nm) (hd : decode cc pc = .ok (.i2b, 1))  (kk : G E M cells slots Q (pc + 1) L (.int x.toInt8.toInt32 :: st) w) : G E M cells slots Q pc L (.int x :: st) w := fun H locs ls hR hl hls => lv_i2b X.hx X.hb hd rfl (kk H locs ls hR hl hls)
theorem r_lcmp {x y : Int64} (X : Cx E M own cc nL rm ret nm) (hd : decode cc pc = .ok (.lcmp, 1)) (kk : G E M cells slots Q (pc + 1) L (.int (lg_cmp x y) :: st) w) : G E M cells slots Q pc L (.long y :: .long x :: st) w := fun H locs ls hR hl hls => W.lcmp X.hx X.hb hd (kk H locs ls hR hl hls)
theorem r_dup {va : Value} (X : Cx E M own cc nL rm ret nm) (hd : decode cc pc = .ok (.dup, 1)) (hva : va.category = 1) (kk : G E M cells slots Q (pc + 1) L (va :: va :: st) w) : G E M cells slots Q pc L (va :: st) w := fun H locs ls hR hl hls => lv_dup X.hx X.hb hd hva (kk H locs ls hR hl hls)
theorem r_pop {va : Value} (X : Cx E M own cc nL rm ret nm) (hd : decode cc pc = .ok (.pop, 1)) (hva : va.category = 1) (kk : G E M cells slots Q (pc + 1) L (st) w) : G E M cells slots Q pc L (va :: st) w := fun H locs ls hR hl hls => lv_pop X.hx X.hb hd hva (kk H locs ls hR hl hls)
theorem r_dup_x1 {va vb : Value} (X : Cx E M own cc nL rm ret nm) (hd : decode cc pc = .ok (.dup_x1, 1)) (hva : va.category = 1) (hvb : vb.category = 1) (kk : G E M cells slots Q (pc + 1) L (va :: vb :: va :: st) w) : G E M cells slots Q pc L (va :: vb :: st) w := fun H locs ls hR hl hls => lv_dup_x1 X.hx X.hb hd hva hvb (kk H locs ls hR hl hls)
theorem r_dup2 {va vb : Value} (X : Cx E M own cc nL rm ret nm) (hd : decode cc pc = .ok (.dup2, 1)) (hva : va.category = 1) (hvb : vb.category = 1) (kk : G E M cells slots Q (pc + 1) L (va :: vb :: va :: vb :: st) w) : G E M cells slots Q pc L (va :: vb :: st) w := fun H locs ls hR hl hls => lv_dup2_11 X.hx X.hb hd hva hvb (kk H locs ls hR hl hls)
theorem r_if_eq {x : Int32} {off : Int} {tgt : Nat} (X : Cx E M own cc nL rm ret nm) (hd : decode cc pc = .ok (.ifCond .eq off, 3)) (ht : (pc : Int) + off = (tgt : Int)) (kt : x = 0 → G E M cells slots Q tgt L st w) (kf : ¬ x = 0 → G E M cells slots Q (pc + 3) L st w) : G E M cells slots Q pc L (.int x :: st) w := fun H locs ls hR hl hls => lv_if_eq X.hx X.hb hd ht (fun h => kt h H locs ls hR hl hls) (fun h => kf h H locs ls hR hl hls)
theorem r_icmp_eq {x y : Int32} {off : Int} {tgt : Nat} (X : Cx E M own cc nL rm ret nm) (hd : decode cc pc = .ok (.if_icmp .eq off, 3)) (ht : (pc : Int) + off = (tgt : Int)) (kt : x = y → G E M cells slots Q tgt L st w) (kf : ¬ x = y → G E M cells slots Q (pc + 3) L st w) : G E M cells slots Q pc L (.int y :: .int x :: st) w := fun H locs ls hR hl hls => lv_icmp_eq X.hx X.hb hd ht (fun h => kt h H locs ls hR hl hls) (fun h => kf h H locs ls hR hl hls)
theorem r_icmpN_eq {i j : Nat} {off : Int} {tgt : Nat} (X : Cx E M own cc nL rm ret nm) (hd : decode cc pc = .ok (.if_icmp .eq off, 3)) (ht : (pc : Int) + off = (tgt : Int)) (hi : i < 2 ^ 31) (hj : j < 2 ^ 31) (kt : i = j → G E M cells slots Q tgt L st w) (kf : ¬ i = j → G E M cells slots Q (pc + 3) L st w) : G E M cells slots Q pc L (.int (nI j) :: .int (nI i) :: st) w := r_icmp_eq X hd ht (fun h => kt ((nI_eq hi hj).mp h)) (fun h => kf (fun q => h ((nI_eq hi hj).mpr q)))
theorem r_if_ne {x : Int32} {off : Int} {tgt : Nat} (X : Cx E M own cc nL rm ret nm) (hd : decode cc pc = .ok (.ifCond .ne off, 3)) (ht : (pc : Int) + off = (tgt : Int)) (kt : ¬ x = 0 → G E M cells slots Q tgt L st w) (kf : x = 0 → G E M cells slots Q (pc + 3) L st w) : G E M cells slots Q pc L (.int x :: st) w := fun H locs ls hR hl hls => lv_if_ne X.hx X.hb hd ht (fun h => kt h H locs ls hR hl hls) (fun h => kf h H locs ls hR hl hls)
theorem r_icmp_ne {x y : Int32} {off : Int} {tgt : Nat} (X : Cx E M own cc nL rm ret nm) (hd : decode cc pc = .ok (.if_icmp .ne off, 3)) (ht : (pc : Int) + off = (tgt : Int)) (kt : ¬ x = y → G E M cells slots Q tgt L st w) (kf : x = y → G E M cells slots Q (pc + 3) L st w) : G E M cells slots Q pc L (.int y :: .int x :: st) w := fun H locs ls hR hl hls => lv_icmp_ne X.hx X.hb hd ht (fun h => kt h H locs ls hR hl hls) (fun h => kf h H locs ls hR hl hls)
theorem r_icmpN_ne {i j : Nat} {off : Int} {tgt : Nat} (X : Cx E M own cc nL rm ret nm) (hd : decode cc pc = .ok (.if_icmp .ne off, 3)) (ht : (pc : Int) + off = (tgt : Int)) (hi : i < 2 ^ 31) (hj : j < 2 ^ 31) (kt : ¬ i = j → G E M cells slots Q tgt L st w) (kf : i = j → G E M cells slots Q (pc + 3) L st w) : G E M cells slots Q pc L (.int (nI j) :: .int (nI i) :: st) w := r_icmp_ne X hd ht (fun h => kt (fun q => h ((nI_eq hi hj).mpr q))) (fun h => kf ((nI_eq hi hj).mp h))
theorem r_if_lt {x : Int32} {off : Int} {tgt : Nat} (X : Cx E M own cc nL rm ret nm) (hd : decode cc pc = .ok (.ifCond .lt off, 3)) (ht : (pc : Int) + off = (tgt : Int)) (kt : x < 0 → G E M cells slots Q tgt L st w) (kf : ¬ x < 0 → G E M cells slots Q (pc + 3) L st w) : G E M cells slots Q pc L (.int x :: st) w := fun H locs ls hR hl hls => lv_if_lt X.hx X.hb hd ht (fun h => kt h H locs ls hR hl hls) (fun h => kf h H locs ls hR hl hls)
theorem r_icmp_lt {x y : Int32} {off : Int} {tgt : Nat} (X : Cx E M own cc nL rm ret nm) (hd : decode cc pc = .ok (.if_icmp .lt off, 3)) (ht : (pc : Int) + off = (tgt : Int)) (kt : x < y → G E M cells slots Q tgt L st w) (kf : ¬ x < y → G E M cells slots Q (pc + 3) L st w) : G E M cells slots Q pc L (.int y :: .int x :: st) w := fun H locs ls hR hl hls => lv_icmp_lt X.hx X.hb hd ht (fun h => kt h H locs ls hR hl hls) (fun h => kf h H locs ls hR hl hls)
theorem r_icmpN_lt {i j : Nat} {off : Int} {tgt : Nat} (X : Cx E M own cc nL rm ret nm) (hd : decode cc pc = .ok (.if_icmp .lt off, 3)) (ht : (pc : Int) + off = (tgt : Int)) (hi : i < 2 ^ 31) (hj : j < 2 ^ 31) (kt : i < j → G E M cells slots Q tgt L st w) (kf : j ≤ i → G E M cells slots Q (pc + 3) L st w) : G E M cells slots Q pc L (.int (nI j) :: .int (nI i) :: st) w := r_icmp_lt X hd ht (fun h => kt ((nI_ltI hi hj).mp h)) (fun h => kf (by have := mt (nI_ltI hi hj).mpr h; omega))
theorem r_if_ge {x : Int32} {off : Int} {tgt : Nat} (X : Cx E M own cc nL rm ret nm) (hd : decode cc pc = .ok (.ifCond .ge off, 3)) (ht : (pc : Int) + off = (tgt : Int)) (kt : 0 ≤ x → G E M cells slots Q tgt L st w) (kf : ¬ 0 ≤ x → G E M cells slots Q (pc + 3) L st w) : G E M cells slots Q pc L (.int x :: st) w := fun H locs ls hR hl hls => lv_if_ge X.hx X.hb hd ht (fun h => kt h H locs ls hR hl hls) (fun h => kf h H locs ls hR hl hls)
theorem r_icmp_ge {x y : Int32} {off : Int} {tgt : Nat} (X : Cx E M own cc nL rm ret nm) (hd : decode cc pc = .ok (.if_icmp .ge off, 3)) (ht : (pc : Int) + off = (tgt : Int)) (kt : y ≤ x → G E M cells slots Q tgt L st w) (kf : ¬ y ≤ x → G E M cells slots Q (pc + 3) L st w) : G E M cells slots Q pc L (.int y :: .int x :: st) w := fun H locs ls hR hl hls => lv_icmp_ge X.hx X.hb hd ht (fun h => kt h H locs ls hR hl hls) (fun h => kf h H locs ls hR hl hls)
theorem r_icmpN_ge {i j : Nat} {off : Int} {tgt : Nat} (X : Cx E M own cc nL rm ret nm) (hd : decode cc pc = .ok (.if_icmp .ge off, 3)) (ht : (pc : Int) + off = (tgt : Int)) (hi : i < 2 ^ 31) (hj : j < 2 ^ 31) (kt : j ≤ i → G E M cells slots Q tgt L st w) (kf : i < j → G E M cells slots Q (pc + 3) L st w) : G E M cells slots Q pc L (.int (nI j) :: .int (nI i) :: st) w := r_icmp_ge X hd ht (fun h => kt ((nI_leI hj hi).mp h)) (fun h => kf (by have := mt (nI_leI hj hi).mpr h; omega))
theorem r_if_gt {x : Int32} {off : Int} {tgt : Nat} (X : Cx E M own cc nL rm ret nm) (hd : decode cc pc = .ok (.ifCond .gt off, 3)) (ht : (pc : Int) + off = (tgt : Int)) (kt : 0 < x → G E M cells slots Q tgt L st w) (kf : ¬ 0 < x → G E M cells slots Q (pc + 3) L st w) : G E M cells slots Q pc L (.int x :: st) w := fun H locs ls hR hl hls => lv_if_gt X.hx X.hb hd ht (fun h => kt h H locs ls hR hl hls) (fun h => kf h H locs ls hR hl hls)
theorem r_icmp_gt {x y : Int32} {off : Int} {tgt : Nat} (X : Cx E M own cc nL rm ret nm) (hd : decode cc pc = .ok (.if_icmp .gt off, 3)) (ht : (pc : Int) + off = (tgt : Int)) (kt : y < x → G E M cells slots Q tgt L st w) (kf : ¬ y < x → G E M cells slots Q (pc + 3) L st w) : G E M cells slots Q pc L (.int y :: .int x :: st) w := fun H locs ls hR hl hls => lv_icmp_gt X.hx X.hb hd ht (fun h => kt h H locs ls hR hl hls) (fun h => kf h H locs ls hR hl hls)
theorem r_icmpN_gt {i j : Nat} {off : Int} {tgt : Nat} (X : Cx E M own cc nL rm ret nm) (hd : decode cc pc = .ok (.if_icmp .gt off, 3)) (ht : (pc : Int) + off = (tgt : Int)) (hi : i < 2 ^ 31) (hj : j < 2 ^ 31) (kt : j < i → G E M cells slots Q tgt L st w) (kf : i ≤ j → G E M cells slots Q (pc + 3) L st w) : G E M cells slots Q pc L (.int (nI j) :: .int (nI i) :: st) w := r_icmp_gt X hd ht (fun h => kt ((nI_ltI hj hi).mp h)) (fun h => kf (by have := mt (nI_ltI hj hi).mpr h; omega))
theorem r_if_le {x : Int32} {off : Int} {tgt : Nat} (X : Cx E M own cc nL rm ret nm) (hd : decode cc pc = .ok (.ifCond .le off, 3)) (ht : (pc : Int) + off = (tgt : Int)) (kt : x ≤ 0 → G E M cells slots Q tgt L st w) (kf : ¬ x ≤ 0 → G E M cells slots Q (pc + 3) L st w) : G E M cells slots Q pc L (.int x :: st) w := fun H locs ls hR hl hls => lv_if_le X.hx X.hb hd ht (fun h => kt h H locs ls hR hl hls) (fun h => kf h H locs ls hR hl hls)
theorem r_icmp_le {x y : Int32} {off : Int} {tgt : Nat} (X : Cx E M own cc nL rm ret nm) (hd : decode cc pc = .ok (.if_icmp .le off, 3)) (ht : (pc : Int) + off = (tgt : Int)) (kt : x ≤ y → G E M cells slots Q tgt L st w) (kf : ¬ x ≤ y → G E M cells slots Q (pc + 3) L st w) : G E M cells slots Q pc L (.int y :: .int x :: st) w := fun H locs ls hR hl hls => lv_icmp_le X.hx X.hb hd ht (fun h => kt h H locs ls hR hl hls) (fun h => kf h H locs ls hR hl hls)
theorem r_icmpN_le {i j : Nat} {off : Int} {tgt : Nat} (X : Cx E M own cc nL rm ret nm) (hd : decode cc pc = .ok (.if_icmp .le off, 3)) (ht : (pc : Int) + off = (tgt : Int)) (hi : i < 2 ^ 31) (hj : j < 2 ^ 31) (kt : i ≤ j → G E M cells slots Q tgt L st w) (kf : j < i → G E M cells slots Q (pc + 3) L st w) : G E M cells slots Q pc L (.int (nI j) :: .int (nI i) :: st) w := r_icmp_le X hd ht (fun h => kt ((nI_leI hi hj).mp h)) (fun h => kf (by have := mt (nI_leI hi hj).mpr h; omega))
theorem r_goto {off : Int} {tgt : Nat} (X : Cx E M own cc nL rm ret nm) (hd : decode cc pc = .ok (.goto off, 3)) (ht : (pc : Int) + off = (tgt : Int)) (kk : G E M cells slots Q tgt L st w) : G E M cells slots Q pc L st w := fun H locs ls hR hl hls => lv_goto X.hx X.hb hd ht (kk H locs ls hR hl hls)
theorem r_ifnonnull {x : Nat} {off : Int} {tgt : Nat} (X : Cx E M own cc nL rm ret nm) (hd : decode cc pc = .ok (.ifnonnull off, 3)) (ht : (pc : Int) + off = (tgt : Int)) (kk : G E M cells slots Q tgt L st w) : G E M cells slots Q pc L (.ref x :: st) w := fun H locs ls hR hl hls => lv_ifnonnull X.hx X.hb hd ht (kk H locs ls hR hl hls)
theorem r_ifnonnullN {off : Int} (X : Cx E M own cc nL rm ret nm) (hd : decode cc pc = .ok (.ifnonnull off, 3)) (kk : G E M cells slots Q (pc + 3) L st w) : G E M cells slots Q pc L (.null :: st) w := fun H locs ls hR hl hls => lv_ifnonnullN X.hx X.hb hd (kk H locs ls hR hl hls)
theorem r_lookup {dflt : Int} {ps : Array (Int × Int)} {len : Nat} {x : Int32} {off : Int} {tgt : Nat} (X : Cx E M own cc nL rm ret nm) (hd : decode cc pc = .ok (.lookupswitch dflt ps, len)) (hp : (ps.toList.zip (ps.toList.drop 1)).all (fun (a, next) => a.1 < next.1) = true) (ho : Op.lookupswitch.offset ps.toList dflt x.toInt = off) (ht : (pc : Int) + off = (tgt : Int)) (kk : G E M cells slots Q tgt L st w) : G E M cells slots Q pc L (.int x :: st) w := fun H locs ls hR hl hls => lv_lookup X.hx X.hb hd hp ho ht (kk H locs ls hR hl hls)
theorem r_tableOut {dflt lo hi : Int} {offs : Array Int} {len : Nat} {x : Int32} {tgt : Nat} (X : Cx E M own cc nL rm ret nm) (hd : decode cc pc = .ok (.tableswitch dflt lo hi offs, len)) (h : x.toInt < lo ∨ hi < x.toInt) (ht : (pc : Int) + dflt = (tgt : Int)) (kk : G E M cells slots Q tgt L st w) : G E M cells slots Q pc L (.int x :: st) w := fun H locs ls hR hl hls => lv_tableOut X.hx X.hb hd h ht (kk H locs ls hR hl hls)
theorem r_tableIn {dflt lo hi : Int} {offs : Array Int} {len : Nat} {x : Int32} {off : Int} {tgt : Nat} (X : Cx E M own cc nL rm ret nm) (hd : decode cc pc = .ok (.tableswitch dflt lo hi offs, len)) (h1 : ¬ x.toInt < lo) (h2 : ¬ hi < x.toInt) (ho : offs[(x.toInt - lo).toNat]? = some off) (ht : (pc : Int) + off = (tgt : Int)) (kk : G E M cells slots Q tgt L st w) : G E M cells slots Q pc L (.int x :: st) w := fun H locs ls hR hl hls => lv_tableIn X.hx X.hb hd h1 h2 ho ht (kk H locs ls hR hl hls)
/-- the top's number by another name -/
theorem r_topi {x : Int32} (y : Int32) (h : x = y) (kk : G E M cells slots Q pc L (.int y :: st) w) : G E M cells slots Q pc L (.int x :: st) w := h ▸ kk
theorem r_top2 {x z : Int32} (y : Int32) (h : x = y) (kk : G E M cells slots Q pc L (.int z :: .int y :: st) w) : G E M cells slots Q pc L (.int z :: .int x :: st) w := h ▸ kk
theorem r_name {x : Int32} (kk : ∀ y : Int32, y = x → G E M cells slots Q pc L (.int y :: st) w) : G E M cells slots Q pc L (.int x :: st) w := kk x rfl
theorem r_loc {L' : List (Option Value)} (h : L = L') (kk : G E M cells slots Q pc L' st w) : G E M cells slots Q pc L st w := h ▸ kk
theorem r_world {w' : Wd} (h : w = w') (kk : G E M cells slots Q pc L st w') : G E M cells slots Q pc L st w := h ▸ kk
/-- fewer locals are known -/
theorem r_weak {L' : List (Option Value)} (h : ∀ (i : Nat) (v : Value), L'[i]? = some (some v) → L[i]? = some (some v)) (kk : G E M cells slots Q pc L' st w) : G E M cells slots Q pc L st w := fun H locs ls hR hl hls => kk H locs ls hR hl ⟨hls.1, hls.2.1, fun i v hi => hls.2.2 i v (h i v hi)⟩
theorem r_widen {c' s' : Nat} (h1 : cells ≤ c') (h2 : slots ≤ s') (kk : G E M c' s' Q pc L st w) : G E M cells slots Q pc L st w := fun H locs ls hR hl hls => W.widen h1 h2 (kk H locs ls hR hl hls)
end RW
/-! the heap's rows -/
section RH
variable {E : Ev} {M : Mc} {own : String} {cc : ByteArray} {nL : Nat} {rm : Room} {ret : Option FieldType} {nm : String} {cells slots : Nat} {Q : State → Prop} {pc : Nat} {L : List (Option Value)} {st : List Value} {w w' : Wd} {H H' : Heap}
variable {S : Nat → Option (Nat × Nat)} {I : Nat → Nat → Int32} {V : Nat → Nat → Option Nat} {J : Nat → Nat → Int64} {N : Nat} {a n idx ci k : Nat}
theorem r_getI {x : Int32} (X : Cx E M own cc nL rm ret nm) (hd : decode cc pc = .ok (.getfield idx, 3)) (hf : FLk 0 own idx ci k) (hs : S a = some (ci, n)) (hv : I a k = x) (kk : G E M cells slots Q (pc + 3) L (.int x :: st) (S, I, V, J, N)) : G E M cells slots Q pc L (.ref a :: st) (S, I, V, J, N) :=
  fun H locs ls hR hl hls => getf_core X hd hf.1 hR hs (by simp only [fval, hf.2, if_true, hv]) (kk H locs ls hR hl hls)
theorem r_getR {b : Nat} (X : Cx E M own cc nL rm ret nm) (hd : decode cc pc = .ok (.getfield idx, 3)) (hf : FLk 1 own idx ci k) (hs : S a = some (ci, n)) (hv : V a k = some b) (kk : G E M cells slots Q (pc + 3) L (.ref b :: st) (S, I, V, J, N)) : G E M cells slots Q pc L (.ref a :: st) (S, I, V, J, N) :=
  fun H locs ls hR hl hls => getf_core X hd hf.1 hR hs (by simp [fval, hf.2, hv, va_rf]) (kk H locs ls hR hl hls)
theorem r_getN (X : Cx E M own cc nL rm ret nm) (hd : decode cc pc = .ok (.getfield idx, 3)) (hf : FLk 1 own idx ci k) (hs : S a = some (ci, n)) (hv : V a k = none) (kk : G E M cells slots Q (pc + 3) L (.null :: st) (S, I, V, J, N)) : G E M cells slots Q pc L (.ref a :: st) (S, I, V, J, N) :=
  fun H locs ls hR hl hls => getf_core X hd hf.1 hR hs (by simp [fval, hf.2, hv, va_rf]) (kk H locs ls hR hl hls)
theorem r_getJ {x : Int64} (X : Cx E M own cc nL rm ret nm) (hd : decode cc pc = .ok (.getfield idx, 3)) (hf : FLk 2 own idx ci k) (hs : S a = some (ci, n)) (hv : J a k = x) (kk : G E M cells slots Q (pc + 3) L (.long x :: st) (S, I, V, J, N)) : G E M cells slots Q pc L (.ref a :: st) (S, I, V, J, N) :=
  fun H locs ls hR hl hls => getf_core X hd hf.1 hR hs (by simp [fval, hf.2, hv]) (kk H locs ls hR hl hls)
theorem cOK.kept {b : Nat} (h : cOK E w H b) (e0 : w'.1 b = w.1 b) (e1 : w'.2.1 b = w.2.1 b) (e2 : w'.2.2.1 b = w.2.2.1 b) (e3 : w'.2.2.2.1 b = w.2.2.2.1 b) (hq : H'[b]? = H[b]?) : cOK E w' H' b := by
  intro k n hk
  rw [e0] at hk
  obtain ⟨hb, h | h | h⟩ := h k n hk
  · obtain ⟨h1, r, h2, h3⟩ := h
    refine ⟨hb, Or.inl ⟨h1, r, h2, ?_⟩⟩
    rw [e1, e2, e3]
    exact h3.kept hq
  · refine ⟨hb, Or.inr (Or.inl ⟨h.1, h.2.1, ?_⟩)⟩
    rw [hq, e1]
    exact h.2.2
  · refine ⟨hb, Or.inr (Or.inr ⟨h.1, ?_⟩)⟩
    rw [hq, e2]
    exact h.2
/-- a world's cell a moves to cell a of another world, all else stays -/
theorem Rw.moved (hR : Rw E w H) (hs : eB E ≤ a) (h2 : H'.size = H.size) (h3 : ∀ q, q ≠ a → H'[q]? = H[q]?) (e4 : w'.2.2.2.2 = w.2.2.2.2) (ho : ∀ b, b ≠ a → w'.1 b = w.1 b ∧ w'.2.1 b = w.2.1 b ∧ w'.2.2.1 b = w.2.2.1 b ∧ w'.2.2.2.1 b = w.2.2.2.1 b) (ha : cOK E w' H' a) : Rw E w' H' := by
  refine ⟨by rw [h2, e4]; exact hR.1, by rw [h2]; exact hR.2.1, fun q hq => ?_, fun b => ?_⟩
  · rw [h3 q (by omega)]
    exact hR.2.2.1 q hq
  · by_cases hb : b = a
    · subst hb
      exact ha
    · obtain ⟨e0, e1, e2, e3⟩ := ho b hb
      exact (hR.2.2.2 b).kept e0 e1 e2 e3 (h3 b hb)
theorem r_putI {x : Int32} (X : Cx E M own cc nL rm ret nm) (hd : decode cc pc = .ok (.putfield idx, 3)) (hf : FLk 0 own idx ci k) (hw : FW own nm idx ci k) (hs : S a = some (ci, n)) (hn : narrow (fT ci k) (.int x) = .int x) (hfit : fits (fT ci k) (.int x) = true) (kk : G E M cells slots Q (pc + 3) L st (S, up2 I a k x, V, J, N)) : G E M cells slots Q pc L (.int x :: .ref a :: st) (S, I, V, J, N) := by
  intro H locs ls hR hl hls
  obtain ⟨r, hr, -⟩ := id hf.1
  have hb := (hR.obj hr hs).1
  refine putf_core X hd hf.1 hw hR hs hn hfit fun H' j h1 h2 h3 => ?_
  refine kk H' _ ls ?_ (fun q hq => ?_) hls
  · refine hR.moved hb h2 h3 rfl (fun b hb => ⟨rfl, up2_row hb, rfl, rfl⟩) ?_
    intro k' n' hk'
    cases hs.symm.trans hk'
    refine ⟨hb, Or.inl ⟨by have := kCl_lt hr; omega, r, hr, (h1 r hr).to fun j _ => ?_⟩⟩
    by_cases hj : j = k
    · subst hj
      simp [updV, fval, hf.2, up2]
    · simp [updV, hj, up2]
  · rcases List.mem_append.mp hq with h | h
    · exact hl q h
    · rw [List.mem_singleton.mp h]
      exact hb
theorem r_putR {o : Option Nat} (X : Cx E M own cc nL rm ret nm) (hd : decode cc pc = .ok (.putfield idx, 3)) (hf : FLk 1 own idx ci k) (hw : FW own nm idx ci k) (hs : S a = some (ci, n)) (hn : narrow (fT ci k) (va_rf o) = va_rf o) (hfit : fits (fT ci k) (va_rf o) = true) (kk : G E M cells slots Q (pc + 3) L st (S, I, up2 V a k o, J, N)) : G E M cells slots Q pc L (va_rf o :: .ref a :: st) (S, I, V, J, N) := by
  intro H locs ls hR hl hls
  obtain ⟨r, hr, -⟩ := id hf.1
  have hb := (hR.obj hr hs).1
  refine putf_core X hd hf.1 hw hR hs hn hfit fun H' j h1 h2 h3 => ?_
  refine kk H' _ ls ?_ (fun q hq => ?_) hls
  · refine hR.moved hb h2 h3 rfl (fun b hb => ⟨rfl, rfl, up2_row hb, rfl⟩) ?_
    intro k' n' hk'
    cases hs.symm.trans hk'
    refine ⟨hb, Or.inl ⟨by have := kCl_lt hr; omega, r, hr, (h1 r hr).to fun j _ => ?_⟩⟩
    by_cases hj : j = k
    · subst hj
      simp [updV, fval, hf.2, up2]
    · simp [updV, hj, up2]
  · rcases List.mem_append.mp hq with h | h
    · exact hl q h
    · rw [List.mem_singleton.mp h]
      exact hb
theorem r_putJ {x : Int64} (X : Cx E M own cc nL rm ret nm) (hd : decode cc pc = .ok (.putfield idx, 3)) (hf : FLk 2 own idx ci k) (hw : FW own nm idx ci k) (hs : S a = some (ci, n)) (hn : narrow (fT ci k) (.long x) = .long x) (hfit : fits (fT ci k) (.long x) = true) (kk : G E M cells slots Q (pc + 3) L st (S, I, V, up2 J a k x, N)) : G E M cells slots Q pc L (.long x :: .ref a :: st) (S, I, V, J, N) := by
  intro H locs ls hR hl hls
  obtain ⟨r, hr, -⟩ := id hf.1
  have hb := (hR.obj hr hs).1
  refine putf_core X hd hf.1 hw hR hs hn hfit fun H' j h1 h2 h3 => ?_
  refine kk H' _ ls ?_ (fun q hq => ?_) hls
  · refine hR.moved hb h2 h3 rfl (fun b hb => ⟨rfl, rfl, rfl, up2_row hb⟩) ?_
    intro k' n' hk'
    cases hs.symm.trans hk'
    refine ⟨hb, Or.inl ⟨by have := kCl_lt hr; omega, r, hr, (h1 r hr).to fun j _ => ?_⟩⟩
    by_cases hj : j = k
    · subst hj
      simp [updV, fval, hf.2, up2]
    · simp [updV, hj, up2]
  · rcases List.mem_append.mp hq with h | h
    · exact hl q h
    · rw [List.mem_singleton.mp h]
      exact hb
theorem Rw.arrI (hR : Rw E w H) (hs : w.1 a = some (k, n)) (h1 : 100 ≤ k) (h2 : k < 103) : eB E ≤ a ∧ H[a]? = some (arrV (E.2.2.2 k) n (fun j => .int (w.2.1 a j))) := by
  obtain ⟨hb, h | h | h⟩ := hR.2.2.2 a k n hs
  · omega
  · exact ⟨hb, h.2.2⟩
  · omega
theorem Rw.arrR (hR : Rw E w H) (hs : w.1 a = some (k, n)) (h1 : 103 ≤ k) : eB E ≤ a ∧ H[a]? = some (arrV (E.2.2.2 k) n (fun j => va_rf (w.2.2.1 a j))) := by
  obtain ⟨hb, h | h | h⟩ := hR.2.2.2 a k n hs
  · omega
  · omega
  · exact ⟨hb, h.2⟩
theorem arrV_in {cA : ClassId} {f : Nat → Value} {i : Int32} (hin : vp_in i n) : ¬ (i < 0 ∨ (arrV cA n f).slots.size ≤ i.toNatClampNeg) := by rw [arrV_size]; exact hin
theorem vp_in_lt {i : Int32} (hin : vp_in i n) : i.toNatClampNeg < n := Nat.not_le.mp fun q => hin (Or.inr q)
theorem r_iald {i x : Int32} (X : Cx E M own cc nL rm ret nm) (hd : decode cc pc = .ok (.iaload, 1)) (hs : S a = some (100, n)) (hin : vp_in i n) (hv : I a i.toNatClampNeg = x) (kk : G E M cells slots Q (pc + 1) L (.int x :: st) (S, I, V, J, N)) : G E M cells slots Q pc L (.int i :: .ref a :: st) (S, I, V, J, N) :=
  fun H locs ls hR hl hls => W.iald X.hx X.hb (hR.arrI hs (by decide) (by decide)).2 (X.arr (k := 100) rfl _ _) (fun h => by cases h) (arrV_in hin) (v := .int x) (by rw [arrV_read _ _ (vp_in_lt hin)]; exact congrArg (fun z => some (Value.int z)) hv) rfl rfl hd (kk H locs ls hR hl hls)
theorem r_bald {i x : Int32} (X : Cx E M own cc nL rm ret nm) (hd : decode cc pc = .ok (.baload, 1)) (hs : S a = some (101, n)) (hin : vp_in i n) (hv : I a i.toNatClampNeg = x) (kk : G E M cells slots Q (pc + 1) L (.int x :: st) (S, I, V, J, N)) : G E M cells slots Q pc L (.int i :: .ref a :: st) (S, I, V, J, N) :=
  fun H locs ls hR hl hls => W.bald X.hx X.hb (hR.arrI hs (by decide) (by decide)).2 (X.arr (k := 101) rfl _ _) (fun h => by cases h) (arrV_in hin) (v := .int x) (by rw [arrV_read _ _ (vp_in_lt hin)]; exact congrArg (fun z => some (Value.int z)) hv) rfl rfl hd (kk H locs ls hR hl hls)
theorem r_zald {i x : Int32} (X : Cx E M own cc nL rm ret nm) (hd : decode cc pc = .ok (.baload, 1)) (hs : S a = some (102, n)) (hin : vp_in i n) (hv : I a i.toNatClampNeg = x) (kk : G E M cells slots Q (pc + 1) L (.int x :: st) (S, I, V, J, N)) : G E M cells slots Q pc L (.int i :: .ref a :: st) (S, I, V, J, N) :=
  fun H locs ls hR hl hls => W.zald X.hx X.hb (hR.arrI hs (by decide) (by decide)).2 (X.arr (k := 102) rfl _ _) (fun h => by cases h) (arrV_in hin) (v := .int x) (by rw [arrV_read _ _ (vp_in_lt hin)]; exact congrArg (fun z => some (Value.int z)) hv) rfl rfl hd (kk H locs ls hR hl hls)
/-- loads at a counted place -/
theorem r_ialdN {j : Nat} {x : Int32} (X : Cx E M own cc nL rm ret nm) (hd : decode cc pc = .ok (.iaload, 1)) (hs : S a = some (100, n)) (hj : j < n) (hn : n < 2 ^ 31) (hv : I a j = x) (kk : G E M cells slots Q (pc + 1) L (.int x :: st) (S, I, V, J, N)) : G E M cells slots Q pc L (.int (nI j) :: .ref a :: st) (S, I, V, J, N) := r_iald X hd hs (vp_in_nI hj hn) (by rw [nI_clamp (by omega)]; exact hv) kk
theorem r_baldN {j : Nat} {x : Int32} (X : Cx E M own cc nL rm ret nm) (hd : decode cc pc = .ok (.baload, 1)) (hs : S a = some (101, n)) (hj : j < n) (hn : n < 2 ^ 31) (hv : I a j = x) (kk : G E M cells slots Q (pc + 1) L (.int x :: st) (S, I, V, J, N)) : G E M cells slots Q pc L (.int (nI j) :: .ref a :: st) (S, I, V, J, N) := r_bald X hd hs (vp_in_nI hj hn) (by rw [nI_clamp (by omega)]; exact hv) kk
theorem r_zaldN {j : Nat} {x : Int32} (X : Cx E M own cc nL rm ret nm) (hd : decode cc pc = .ok (.baload, 1)) (hs : S a = some (102, n)) (hj : j < n) (hn : n < 2 ^ 31) (hv : I a j = x) (kk : G E M cells slots Q (pc + 1) L (.int x :: st) (S, I, V, J, N)) : G E M cells slots Q pc L (.int (nI j) :: .ref a :: st) (S, I, V, J, N) := r_zald X hd hs (vp_in_nI hj hn) (by rw [nI_clamp (by omega)]; exact hv) kk
theorem akT_ref (h : 103 ≤ k) {ty : FieldType} (ht : akT k = some ty) : ty.isReference = true := by
  unfold akT at ht
  split at ht <;> first | omega | (cases ht; rfl) | cases ht
theorem aald_core {i : Int32} {v : Value} {ty : FieldType} (X : Cx E M own cc nL rm ret nm) (hd : decode cc pc = .ok (.aaload, 1)) (hk : 103 ≤ k) (ht : akT k = some ty) (hs : S a = some (k, n)) (hin : vp_in i n) (hv : va_rf (V a i.toNatClampNeg) = v) (kk : G E M cells slots Q (pc + 1) L (v :: st) (S, I, V, J, N)) : G E M cells slots Q pc L (.int i :: .ref a :: st) (S, I, V, J, N) :=
  fun H locs ls hR hl hls => W.aald X.hx X.hb (hR.arrR hs hk).2 (X.arr ht _ _) (akT_ref hk ht) (fun h => by cases h) (arrV_in hin) (v := v) (by rw [arrV_read _ _ (vp_in_lt hin)]; exact congrArg some hv) rfl rfl hd (kk H locs ls hR hl hls)
theorem r_aald {i : Int32} {b : Nat} {ty : FieldType} (X : Cx E M own cc nL rm ret nm) (hd : decode cc pc = .ok (.aaload, 1)) (hs : S a = some (k, n)) (hk : 103 ≤ k) (ht : akT k = some ty) (hin : vp_in i n) (hv : V a i.toNatClampNeg = some b) (kk : G E M cells slots Q (pc + 1) L (.ref b :: st) (S, I, V, J, N)) : G E M cells slots Q pc L (.int i :: .ref a :: st) (S, I, V, J, N) := aald_core X hd hk ht hs hin (by rw [hv]; rfl) kk
theorem r_aaldN {j b : Nat} {ty : FieldType} (X : Cx E M own cc nL rm ret nm) (hd : decode cc pc = .ok (.aaload, 1)) (hs : S a = some (k, n)) (hk : 103 ≤ k) (ht : akT k = some ty) (hj : j < n) (hn : n < 2 ^ 31) (hv : V a j = some b) (kk : G E M cells slots Q (pc + 1) L (.ref b :: st) (S, I, V, J, N)) : G E M cells slots Q pc L (.int (nI j) :: .ref a :: st) (S, I, V, J, N) := r_aald X hd hs hk ht (vp_in_nI hj hn) (by rw [nI_clamp (by omega)]; exact hv) kk
theorem ast_core {i : Int32} (hR : Rw E (S, I, V, J, N) H) (hs : S a = some (k, n)) (h1 : 100 ≤ k) (h2 : k < 103) {x : Int32} (e1 : H'[a]? = some ((arrV (E.2.2.2 k) n (fun j => .int (I a j))).setSlot i.toNatClampNeg (.int x))) (e2 : H'.size = H.size) (e3 : ∀ q, q ≠ a → H'[q]? = H[q]?) : Rw E (S, up2 I a i.toNatClampNeg x, V, J, N) H' := by
  have hb := (hR.arrI hs h1 h2).1
  refine hR.moved hb e2 e3 rfl (fun b hb => ⟨rfl, up2_row hb, rfl, rfl⟩) ?_
  intro k' n' hk'
  cases hs.symm.trans hk'
  refine ⟨hb, Or.inr (Or.inl ⟨h1, h2, ?_⟩)⟩
  rw [e1, arrV_store]
  congr 2
  funext j
  by_cases hj : j = i.toNatClampNeg
  · simp [updV, up2, hj]
  · simp [updV, up2, hj]
theorem loc_core {locs : List Loc} {j : Nat} (hl : ∀ q ∈ locs, eB E ≤ q.base) (hb : eB E ≤ a) : ∀ q ∈ locs ++ [⟨a, j⟩], eB E ≤ q.base := by
  intro q hq
  rcases List.mem_append.mp hq with h | h
  · exact hl q h
  · rw [List.mem_singleton.mp h]
    exact hb
theorem r_iast {i x : Int32} (X : Cx E M own cc nL rm ret nm) (hd : decode cc pc = .ok (.iastore, 1)) (hs : S a = some (100, n)) (hin : vp_in i n) (kk : G E M cells slots Q (pc + 1) L st (S, up2 I a i.toNatClampNeg x, V, J, N)) : G E M cells slots Q pc L (.int x :: .int i :: .ref a :: st) (S, I, V, J, N) := by
  intro H locs ls hR hl hls
  obtain ⟨hb, hc⟩ := hR.arrI hs (by decide) (by decide)
  exact W.iast X.hx X.hb hc (X.arr (k := 100) rfl _ _) (fun h => by cases h) (arrV_in hin) rfl rfl hd fun H' e1 e2 e3 => kk H' _ ls (ast_core hR hs (by decide) (by decide) e1 e2 e3) (loc_core hl hb) hls
theorem r_iastN {j : Nat} {x : Int32} (X : Cx E M own cc nL rm ret nm) (hd : decode cc pc = .ok (.iastore, 1)) (hs : S a = some (100, n)) (hj : j < n) (hn : n < 2 ^ 31) (kk : G E M cells slots Q (pc + 1) L st (S, up2 I a j x, V, J, N)) : G E M cells slots Q pc L (.int x :: .int (nI j) :: .ref a :: st) (S, I, V, J, N) := r_iast X hd hs (vp_in_nI hj hn) (by rw [nI_clamp (by omega)]; exact kk)
theorem r_bast {i x y : Int32} (X : Cx E M own cc nL rm ret nm) (hd : decode cc pc = .ok (.bastore, 1)) (hs : S a = some (101, n)) (hin : vp_in i n) (hy : narrow .byte (.int x) = .int y) (kk : G E M cells slots Q (pc + 1) L st (S, up2 I a i.toNatClampNeg y, V, J, N)) : G E M cells slots Q pc L (.int x :: .int i :: .ref a :: st) (S, I, V, J, N) := by
  intro H locs ls hR hl hls
  obtain ⟨hb, hc⟩ := hR.arrI hs (by decide) (by decide)
  exact W.bast X.hx X.hb hc (X.arr (k := 101) rfl _ _) (fun h => by cases h) (arrV_in hin) rfl rfl hd fun H' e1 e2 e3 => kk H' _ ls (ast_core hR hs (by decide) (by decide) (by rw [e1, hy]) e2 e3) (loc_core hl hb) hls
theorem r_bastN {j : Nat} {x y : Int32} (X : Cx E M own cc nL rm ret nm) (hd : decode cc pc = .ok (.bastore, 1)) (hs : S a = some (101, n)) (hj : j < n) (hn : n < 2 ^ 31) (hy : narrow .byte (.int x) = .int y) (kk : G E M cells slots Q (pc + 1) L st (S, up2 I a j y, V, J, N)) : G E M cells slots Q pc L (.int x :: .int (nI j) :: .ref a :: st) (S, I, V, J, N) := r_bast X hd hs (vp_in_nI hj hn) hy (by rw [nI_clamp (by omega)]; exact kk)
theorem r_zast {i x y : Int32} (X : Cx E M own cc nL rm ret nm) (hd : decode cc pc = .ok (.bastore, 1)) (hs : S a = some (102, n)) (hin : vp_in i n) (hy : narrow .boolean (.int x) = .int y) (kk : G E M cells slots Q (pc + 1) L st (S, up2 I a i.toNatClampNeg y, V, J, N)) : G E M cells slots Q pc L (.int x :: .int i :: .ref a :: st) (S, I, V, J, N) := by
  intro H locs ls hR hl hls
  obtain ⟨hb, hc⟩ := hR.arrI hs (by decide) (by decide)
  exact W.zast X.hx X.hb hc (X.arr (k := 102) rfl _ _) (fun h => by cases h) (arrV_in hin) rfl rfl hd fun H' e1 e2 e3 => kk H' _ ls (ast_core hR hs (by decide) (by decide) (by rw [e1, hy]) e2 e3) (loc_core hl hb) hls
theorem r_zastN {j : Nat} {x y : Int32} (X : Cx E M own cc nL rm ret nm) (hd : decode cc pc = .ok (.bastore, 1)) (hs : S a = some (102, n)) (hj : j < n) (hn : n < 2 ^ 31) (hy : narrow .boolean (.int x) = .int y) (kk : G E M cells slots Q (pc + 1) L st (S, up2 I a j y, V, J, N)) : G E M cells slots Q pc L (.int x :: .int (nI j) :: .ref a :: st) (S, I, V, J, N) := r_zast X hd hs (vp_in_nI hj hn) hy (by rw [nI_clamp (by omega)]; exact kk)
theorem r_alen {ty : FieldType} (X : Cx E M own cc nL rm ret nm) (hd : decode cc pc = .ok (.arraylength, 1)) (hs : S a = some (k, n)) (hk : 100 ≤ k) (ht : akT k = some ty) (kk : G E M cells slots Q (pc + 1) L (.int (nI n) :: st) (S, I, V, J, N)) : G E M cells slots Q pc L (.ref a :: st) (S, I, V, J, N) := by
  intro H locs ls hR hl hls
  obtain ⟨hb, h | h | h⟩ := hR.2.2.2 a k n hs
  · omega
  · exact W.alen X.hx X.hb h.2.2 (X.arr ht _ _) (by rw [arrV_size]; rfl) rfl rfl hd (kk H locs ls hR hl hls)
  · exact W.alen X.hx X.hb h.2 (X.arr ht _ _) (by rw [arrV_size]; rfl) rfl rfl hd (kk H locs ls hR hl hls)
end RH
