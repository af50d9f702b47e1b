/-! ===== what the Statement gives of the start: the classes, the array classes, the String constants, the statics ===== -/
theorem glob_of {s : State} {a0 : Array Value} (hts : ∀ w ∈ lw_tbl, w.before a0 s = true) : ∃ E : Ev, E.1 = s ∧ Glob E := by
  have h1 : ∀ k : Nat, ∃ p : ClassId × (Nat → Nat), ∀ q, kCl[k]? = some q → u_Kn s q.1 q.2.1 q.2.2 p.1 p.2 := by
    intro k
    rcases hq : kCl[k]? with _ | q
    · exact ⟨(0, fun _ => 0), fun q h => by cases h⟩
    · obtain ⟨cC, iS, hK⟩ : ∃ cC iS, u_Kn s q.1 q.2.1 q.2.2 cC iS := kCl_cases (P := fun _ r => ∃ cC iS, u_Kn s r.1 r.2.1 r.2.2 cC iS) (u_known hts inX0 (hts _ inX0_s)) (u_known hts inX1 (hts _ inX1_s)) (u_known hts inX2 (hts _ inX2_s)) (u_known hts inX4 (hts _ inX4_s)) (u_known hts inX5 (hts _ inX5_s)) (u_known hts inX6 (hts _ inX6_s)) (u_known hts inX7 (hts _ inX7_s)) (u_known hts inX8 (hts _ inX8_s)) (u_known hts inX9 (hts _ inX9_s)) (u_known hts inX10 (hts _ inX10_s)) (u_known hts inX11 (hts _ inX11_s)) (u_known hts inX12 (hts _ inX12_s)) (u_known hts inX13 (hts _ inX13_s)) hq
      exact ⟨(cC, iS), fun q' h => by cases h; exact hK⟩
  have ho : ∀ C : String, Cond.arrayOver (.object C) ∈ lw_tbl → ∃ cA : ClassId, ArrOfT s cA (.object C) ∧ va_RA s cA (.object C) := by
    intro C hC
    obtain ⟨comp, cA, kA, f1, -, f2, f3, f4⟩ := Cond.arrayOver_spec (hts _ hC)
    exact ⟨cA, fun N z => ⟨(fun k h => by cases h), kA, f2, comp, f3⟩, kA, comp, f2, f3, f1, f4⟩
  have hp : ∀ ty : FieldType, Cond.arrayClass ty ∈ lw_tbl → ∃ cA : ClassId, ArrOfT s cA ty ∧ s.vm.findClass ("[" ++ ty.toString) = some cA := by
    intro ty hC
    obtain ⟨cA, kA, comp, f1, f2, f3⟩ := Cond.arrayClass_spec (hts _ hC)
    exact ⟨cA, fun N z => ⟨(fun k h => by cases h), kA, f2, comp, f3⟩, f1⟩
  have h2 : ∀ k : Nat, ∃ cA : ClassId, ∀ ty, akT k = some ty → ArrOfT s cA ty ∧ va_RA s cA ty := by
    intro k
    by_cases hk : k = 100 ∨ k = 101 ∨ k = 102 ∨ k = 103 ∨ k = 104 ∨ k = 105 ∨ k = 106
    · rcases hk with rfl | rfl | rfl | rfl | rfl | rfl | rfl
      · obtain ⟨cA, f1, f2⟩ := hp .int (List.mem_append_right _ (List.mem_of_getElem? (i := 101) (by decide +kernel)))
        exact ⟨cA, fun ty h => by cases h; exact ⟨f1, f2⟩⟩
      · obtain ⟨cA, f1, f2⟩ := hp .byte (List.mem_append_right _ (List.mem_of_getElem? (i := 75) (by decide +kernel)))
        exact ⟨cA, fun ty h => by cases h; exact ⟨f1, f2⟩⟩
      · obtain ⟨cA, f1, f2⟩ := hp .boolean (List.mem_append_right _ (List.mem_of_getElem? (i := 326) (by decide +kernel)))
        exact ⟨cA, fun ty h => by cases h; exact ⟨f1, f2⟩⟩
      · obtain ⟨cA, f⟩ := ho RX4 (List.mem_append_right _ (List.mem_of_getElem? (i := 77) (by decide +kernel)))
        exact ⟨cA, fun ty h => by cases h; exact f⟩
      · obtain ⟨cA, f⟩ := ho RX6 (List.mem_append_right _ (List.mem_of_getElem? (i := 291) (by decide +kernel)))
        exact ⟨cA, fun ty h => by cases h; exact f⟩
      · obtain ⟨cA, f⟩ := ho RX8 (List.mem_append_right _ (List.mem_of_getElem? (i := 139) (by decide +kernel)))
        exact ⟨cA, fun ty h => by cases h; exact f⟩
      · obtain ⟨cA, f⟩ := ho RX12 (List.mem_append_right _ (List.mem_of_getElem? (i := 942) (by decide +kernel)))
        exact ⟨cA, fun ty h => by cases h; exact f⟩
    · refine ⟨0, fun ty h => ?_⟩
      unfold akT at h
      split at h
      all_goals first | (exfalso; omega) | (cases h)
  obtain ⟨f, hf⟩ := Classical.axiomOfChoice h1
  obtain ⟨ga, hga⟩ := Classical.axiomOfChoice h2
  exact ⟨(s, fun k => (f k).1, fun k => (f k).2, ga), rfl, ⟨⟨a0, hts⟩, fun k q h => hf k q h, fun k ty h => hga k ty h⟩⟩
abbrev sTm (r : String × Nat × String × List Int32) : Term := .string r.1 r.2.1
abbrev sVl (r : String × Nat × String × List Int32) : Term := .field (.string r.1 r.2.1) "java/lang/String" "value" "[B"
/-- what the Statement gives of a String constant -/
def sCd (r : String × Nat × String × List Int32) : List Cond := [Cond.exactly (sTm r) "java/lang/String", Cond.eq (.field (sTm r) "java/lang/String" "coder" "B") (.int 0), Cond.arrayOf (sVl r) .byte, Cond.eq (.length (sVl r)) (.int (Int32.ofNat r.2.2.2.length))] ++ (List.range r.2.2.2.length).map (fun j => Cond.eq (.elem (sVl r) (.int (Int32.ofNat j))) (.int (r.2.2.2.getD j 0)))
def strTab2 : List ((String × Nat × String × List Int32) × Nat × Nat) := [((RX2, 45, "rest", kw_rest), 213, 547), ((RX2, 51, "dogs", kw_dogs), 222, 549), ((RX2, 53, "fine", kw_fine), 231, 550), ((RX2, 68, "from", kw_from), 239, 560), ((RX2, 70, "to", kw_to), 247, 561), ((RX2, 75, "at", kw_at), 253, 567), ((RX2, 77, "for", kw_for), 259, 572), ((RX4, 55, "when", kw_when), 79, 442), ((RX4, 75, "and", kw_and), 206, 529), ((RX4, 83, "go", kw_go), 87, 498), ((RX4, 85, "stay", kw_stay), 93, 499), ((RX4, 87, "feed", kw_feed), 101, 500), ((RX4, 89, "leave", kw_leave), 109, 501), ((RX4, 91, "run", kw_run), 118, 518), ((RX4, 95, "rest", kw_rest), 125, 519), ((RX4, 97, "weak", kw_weak), 133, 520), ((RX4, 99, "mean", kw_mean), 141, 521), ((RX4, 101, "cold", kw_cold), 149, 522), ((RX4, 103, "meals", kw_meals), 157, 523), ((RX4, 105, "dogs", kw_dogs), 166, 524), ((RX4, 107, "left", kw_left), 174, 525), ((RX4, 109, "hour", kw_hour), 182, 526), ((RX4, 111, "post", kw_post), 190, 527), ((RX4, 113, "load", kw_load), 198, 528), ((RX13, 192, "go", kw_go), 275, 1324), ((RX13, 194, "stay", kw_stay), 282, 1325), ((RX13, 196, "feed", kw_feed), 291, 1326), ((RX13, 198, "leave", kw_leave), 300, 1327), ((RX13, 200, "run", kw_run), 318, 1341), ((RX13, 202, "rest", kw_rest), 326, 1342), ((RX13, 204, "weak", kw_weak), 336, 1343), ((RX13, 206, "mean", kw_mean), 345, 1344), ((RX13, 208, "cold", kw_cold), 354, 1345), ((RX13, 209, "meals", kw_meals), 363, 1346), ((RX13, 211, "dogs", kw_dogs), 373, 1347), ((RX13, 213, "left", kw_left), 383, 1348), ((RX13, 215, "hour", kw_hour), 392, 1349), ((RX13, 217, "post", kw_post), 401, 1350), ((RX13, 219, "load", kw_load), 410, 1351), ((RX13, 230, "when", kw_when), 266, 1310), ((RX13, 239, "and", kw_and), 310, 1336), ((RX13, 253, "fine", kw_fine), 419, 1372), ((RX13, 255, "for", kw_for), 428, 1373), ((RX13, 261, "at", kw_at), 436, 1378), ((RX13, 262, "from", kw_from), 443, 1379), ((RX13, 264, "to", kw_to), 452, 1380)]
theorem strTab_2 : strTab = strTab2.map (fun q => q.1) := rfl
theorem str_at : ∀ q ∈ strTab2, sCd q.1 = ((flatC (Jvm.Cond.and given_1 narrow_1)).drop q.2.1).take (sCd q.1).length := by decide +kernel
theorem str_rf : ∀ q ∈ strTab2, tables_1[q.2.2]? = some (Cond.stringRef q.1.1 q.1.2.1 q.1.2.2.1) := by decide +kernel
theorem str_2 {r : String × Nat × String × List Int32} (h : r ∈ strTab) : ∃ q ∈ strTab2, q.1 = r := by
  rw [strTab_2] at h
  exact List.mem_map.mp h
theorem str_in {r : String × Nat × String × List Int32} (h : r ∈ strTab) : ∀ c ∈ sCd r, c ∈ flatC (Jvm.Cond.and given_1 narrow_1) := by
  obtain ⟨q, hq, rfl⟩ := str_2 h
  intro c hc
  rw [str_at q hq] at hc
  exact List.mem_of_mem_drop (List.mem_of_mem_take hc)
theorem str_ref {r : String × Nat × String × List Int32} (h : r ∈ strTab) : Cond.stringRef r.1 r.2.1 r.2.2.1 ∈ lw_tbl := by
  obtain ⟨q, hq, rfl⟩ := str_2 h
  exact List.mem_append_right _ (List.mem_of_getElem? (str_rf q hq))
theorem str_len : ∀ r ∈ strTab, r.2.2.2.length < 1000 := by decide +kernel
theorem str_k {E : Ev} {a0 : Array Value} (hts : ∀ w ∈ lw_tbl, w.before a0 E.1 = true) (hgv : (Jvm.Cond.and given_1 narrow_1).before a0 E.1 = true) {r : String × Nat × String × List Int32} (hr : r ∈ strTab) : StrK E r.1 r.2.1 r.2.2.1 r.2.2.2 := by
  have hs := flat_of_before _ hgv
  have hA : ∀ a : Nat, a < E.1.heap.size → ¬ oldA E a := fun a h => Nat.not_le.mpr h
  have hl := str_len r hr
  have hc : ∀ c ∈ sCd r, c.before a0 E.1 = true := fun c h => hs c (str_in hr c h)
  have c0 := hc _ (List.mem_append_left _ List.mem_cons_self)
  have c1 := hc _ (List.mem_append_left _ (List.mem_cons_of_mem _ List.mem_cons_self))
  have c2 := hc _ (List.mem_append_left _ (List.mem_cons_of_mem _ (List.mem_cons_of_mem _ List.mem_cons_self)))
  have c3 := hc _ (List.mem_append_left _ (List.mem_cons_of_mem _ (List.mem_cons_of_mem _ (List.mem_cons_of_mem _ List.mem_cons_self))))
  have c4 : ∀ j, j < r.2.2.2.length → (Cond.eq (.elem (sVl r) (.int (Int32.ofNat j))) (.int (r.2.2.2.getD j 0))).before a0 E.1 = true := fun j hj => hc _ (List.mem_append_right _ (List.mem_map.mpr ⟨j, List.mem_range.mpr hj, rfl⟩))
  have e0 : ∀ i, i < 1 → i = 0 := fun i hi => by omega
  obtain ⟨adK, adV, ⟨h1, -⟩, h3⟩ := vk_Sof (args := a0) (s := E.1) (N := 1) (tm := fun _ => sTm r) (len := [r.2.2.2.length]) (byt := [r.2.2.2]) (A := oldA E) (fun i hi => by rw [e0 i hi]; exact Nat.lt_trans hl (by decide)) (fun i hi => c0) (fun i hi => c1) (fun i hi => c2) (fun i hi => by rw [e0 i hi]; exact c3) (fun i hi j hj => by rw [e0 i hi] at hj ⊢; exact c4 j hj) (fun i j hi hj hne => absurd ((e0 i hi).trans (e0 j hj).symm) hne) hA
  obtain ⟨k1, k2, k3, k4⟩ := h1 0 (by omega)
  exact ⟨adK 0, vk_R.of (hts _ (str_ref hr)) (h3 0 (by omega)), k1, k2, hl, adV 0, k3, k4⟩
theorem strs_of {E : Ev} {a0 : Array Value} (hts : ∀ w ∈ lw_tbl, w.before a0 E.1 = true) (hgv : (Jvm.Cond.and given_1 narrow_1).before a0 E.1 = true) : Strs E ∧ Sta2 E := by
  have hs := flat_of_before _ hgv
  have hA : ∀ a : Nat, a < E.1.heap.size → ¬ oldA E a := fun a h => Nat.not_le.mpr h
  refine ⟨⟨⟨?_, ?_⟩, fun r hr => str_k hts hgv hr⟩, ?_, ?_⟩
  · exact va_Zof (hts (.laysStatic "java/lang/String" "COMPACT_STRINGS" "Z") (List.mem_append_right _ (List.mem_of_getElem? (i := 456) (by decide +kernel)))) (hts (.initialized "java/lang/String") (List.mem_append_right _ (List.mem_of_getElem? (i := 19) (by decide +kernel)))) (va_eqt (hs (.eq (.static "java/lang/String" "COMPACT_STRINGS" "Z") (.int 1)) (List.mem_of_getElem? (i := 4) (by decide +kernel)))) hA
  · exact va_Zqof (hts (.laysStatic "jdk/internal/util/Preconditions" "SIOOBE_FORMATTER" "Ljava/util/function/BiFunction;") (List.mem_append_right _ (List.mem_of_getElem? (i := 472) (by decide +kernel)))) (hts (.initialized "jdk/internal/util/Preconditions") (List.mem_append_right _ (List.mem_of_getElem? (i := 21) (by decide +kernel)))) (hs (.isRef (.static "jdk/internal/util/Preconditions" "SIOOBE_FORMATTER" "Ljava/util/function/BiFunction;")) (List.mem_of_getElem? (i := 5) (by decide +kernel))) hA
  · exact va_Zqof (hts (.laysStatic "java/lang/Throwable" "UNASSIGNED_STACK" "[Ljava/lang/StackTraceElement;") (List.mem_append_right _ (List.mem_of_getElem? (i := 1072) (by decide +kernel)))) (hts (.initialized "java/lang/Throwable") (List.mem_append_right _ (List.mem_of_getElem? (i := 14) (by decide +kernel)))) (hs (.isRef (.static "java/lang/Throwable" "UNASSIGNED_STACK" "[Ljava/lang/StackTraceElement;")) (List.mem_of_getElem? (i := 9) (by decide +kernel))) hA
  · exact va_Zqof (hts (.laysStatic "java/lang/Throwable" "SUPPRESSED_SENTINEL" "Ljava/util/List;") (List.mem_append_right _ (List.mem_of_getElem? (i := 1074) (by decide +kernel)))) (hts (.initialized "java/lang/Throwable") (List.mem_append_right _ (List.mem_of_getElem? (i := 14) (by decide +kernel)))) (hs (.isRef (.static "java/lang/Throwable" "SUPPRESSED_SENTINEL" "Ljava/util/List;")) (List.mem_of_getElem? (i := 10) (by decide +kernel))) hA
