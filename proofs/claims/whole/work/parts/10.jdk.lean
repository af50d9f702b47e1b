set_option maxHeartbeats 1000000 in
set_option maxRecDepth 20000 in
/-- java/lang/Integer.compare -/
theorem c_cmp {E : Ev} (GE : Glob E) (x y : Int32) (w : Wd) : Ct E yJ6_compare_7cf53 cJ6_compare_7cf53 2 (some .int) rmZ [.int x, .int y] w (fun v w' => v = some (.int (iCmp x y)) ∧ w' = w) := by
  refine Ct.start GE (by decide) rfl (Nat.le_of_ble_eq_true rfl) (fun M X => ?_)
  have X : Cx E M RJ6 cJ6_compare_7cf53 2 rmZ (some .int) "compare" := X
  refine r_loc (L' := [some (.int x), some (.int y)]) rfl ?_
  refine r_iload_n X dJ6_compare_7cf53_0 rfl rfl ?_
  refine r_iload_n X dJ6_compare_7cf53_1 rfl rfl ?_
  first | refine r_icmpN_ge (tgt := 9) X dJ6_compare_7cf53_2 (by decide) (by omega) (by omega) (fun h2 => ?_) (fun h2 => ?_) | refine r_icmp_ge (tgt := 9) X dJ6_compare_7cf53_2 (by decide) (fun h2 => ?_) (fun h2 => ?_)
  · skip
    refine r_iload_n X dJ6_compare_7cf53_9 rfl rfl ?_
    refine r_iload_n X dJ6_compare_7cf53_10 rfl rfl ?_
    first | refine r_icmpN_ne (tgt := 18) X dJ6_compare_7cf53_11 (by decide) (by omega) (by omega) (fun h11 => ?_) (fun h11 => ?_) | refine r_icmp_ne (tgt := 18) X dJ6_compare_7cf53_11 (by decide) (fun h11 => ?_) (fun h11 => ?_)
    · skip
      refine r_iconst (v := 1) X dJ6_compare_7cf53_18 (by decide) ?_
      refine r_ireturn X dJ6_compare_7cf53_19 rfl (by omega) (by omega) ?_
      first | exact ⟨by simp [iCmp, *], rfl⟩ | exact ⟨by simp_all [iCmp], rfl⟩
    · skip
      refine r_iconst (v := 0) X dJ6_compare_7cf53_14 (by decide) ?_
      refine r_goto (tgt := 19) X dJ6_compare_7cf53_15 (by decide) ?_
      refine r_ireturn X dJ6_compare_7cf53_19 rfl (by omega) (by omega) ?_
      first | exact ⟨by simp [iCmp, *], rfl⟩ | exact ⟨by simp_all [iCmp], rfl⟩
  · skip
    refine r_iconst (v := -1) X dJ6_compare_7cf53_5 (by decide) ?_
    refine r_goto (tgt := 19) X dJ6_compare_7cf53_6 (by decide) ?_
    refine r_ireturn X dJ6_compare_7cf53_19 rfl (by omega) (by omega) ?_
    first | exact ⟨by simp [iCmp, *], rfl⟩ | exact ⟨by simp_all [iCmp], rfl⟩
def fillTo (I : Nat → Nat → Int32) (a j : Nat) (x : Int32) : Nat → Nat → Int32 := fun b k => if b = a ∧ k < j then x else I b k
theorem fillTo_0 (I : Nat → Nat → Int32) (a : Nat) (x : Int32) : fillTo I a 0 x = I := by funext b k; simp [fillTo]
theorem fillTo_s (I : Nat → Nat → Int32) (a j : Nat) (x : Int32) : up2 (fillTo I a j x) a j x = fillTo I a (j + 1) x := by
  funext b k
  unfold up2 fillTo
  by_cases h : b = a
  · by_cases h2 : k = j
    · simp [h, h2]
    · by_cases h3 : k < j
      · simp [h, h2, h3, show k < j + 1 by omega]
      · simp [h, h2, h3, show ¬ k < j + 1 by omega]
  · simp [h]
set_option maxHeartbeats 1000000 in
set_option maxRecDepth 20000 in
/-- java/util/Arrays.fill -/
theorem c_fill {E : Ev} (GE : Glob E) (S : Nat → Option (Nat × Nat)) (I : Nat → Nat → Int32) (V : Nat → Nat → Option Nat) (J : Nat → Nat → Int64) (N a n : Nat) (x : Int32) (hs : S a = some (100, n)) (hn : n < 100000) : Ct E yJ7_fill_53178 cJ7_fill_53178 4 none rmZ [.ref a, .int x] (S, I, V, J, N) (fun v w' => v = none ∧ w' = (S, fillTo I a n x, V, J, N)) := by
  refine Ct.start GE (by decide) rfl (Nat.le_of_ble_eq_true rfl) (fun M X => ?_)
  have X : Cx E M RJ7 cJ7_fill_53178 4 rmZ none "fill" := X
  refine r_loc (L' := [some (.ref a), some (.int x), none, none]) rfl ?_
  refine r_iconst (v := nI 0) X dJ7_fill_53178_0 (by decide) ?_
  refine r_istore_n X dJ7_fill_53178_1 rfl (by decide) rfl ?_
  refine r_aload_n X dJ7_fill_53178_2 rfl rfl ?_
  refine r_alen X dJ7_fill_53178_3 (by assumption) (by decide) rfl ?_
  refine r_istore_n X dJ7_fill_53178_4 rfl (by decide) rfl ?_
  have H : ∀ j, j ≤ n → G E M 0 0 (qQ E M rmZ (fun v w' => v = none ∧ w' = (S, fillTo I a n x, V, J, N))) 5 [some (.ref a), some (.int x), some (.int (nI j)), some (.int (nI n))] [] (S, fillTo I a j x, V, J, N) := by
    refine loopN n (fun j hj ih => ?_)
    refine r_iload_n X dJ7_fill_53178_5 rfl rfl ?_
    refine r_iload_n X dJ7_fill_53178_6 rfl rfl ?_
    first | refine r_icmpN_ge (tgt := 20) X dJ7_fill_53178_7 (by decide) (by omega) (by omega) (fun h7 => ?_) (fun h7 => ?_) | refine r_icmp_ge (tgt := 20) X dJ7_fill_53178_7 (by decide) (fun h7 => ?_) (fun h7 => ?_)
    · skip
      refine r_return X dJ7_fill_53178_20 (by omega) (by omega) ?_
      exact ⟨rfl, by rw [show j = n by omega]⟩
    · skip
      refine r_aload_n X dJ7_fill_53178_10 rfl rfl ?_
      refine r_iload_n X dJ7_fill_53178_11 rfl rfl ?_
      refine r_iload_n X dJ7_fill_53178_12 rfl rfl ?_
      refine r_iastN X dJ7_fill_53178_13 (by assumption) (by omega) (by omega) ?_
      first | refine r_iincN X dJ7_fill_53178_14 rfl (by decide) rfl ?_ | refine r_iinc X dJ7_fill_53178_14 rfl rfl (by decide) rfl ?_
      refine r_goto (tgt := 5) X dJ7_fill_53178_17 (by decide) ?_
      exact (fillTo_s I a j x) ▸ ih (by omega)
  exact r_world (by rw [fillTo_0]) (H 0 (by omega))
