/-! ===== the constants that are Strings; the plan's parser ===== -/
abbrev kw_and : List Int32 := [97, 110, 100]
abbrev kw_at : List Int32 := [97, 116]
abbrev kw_cold : List Int32 := [99, 111, 108, 100]
abbrev kw_dogs : List Int32 := [100, 111, 103, 115]
abbrev kw_feed : List Int32 := [102, 101, 101, 100]
abbrev kw_fine : List Int32 := [102, 105, 110, 101]
abbrev kw_for : List Int32 := [102, 111, 114]
abbrev kw_from : List Int32 := [102, 114, 111, 109]
abbrev kw_go : List Int32 := [103, 111]
abbrev kw_hour : List Int32 := [104, 111, 117, 114]
abbrev kw_leave : List Int32 := [108, 101, 97, 118, 101]
abbrev kw_left : List Int32 := [108, 101, 102, 116]
abbrev kw_load : List Int32 := [108, 111, 97, 100]
abbrev kw_meals : List Int32 := [109, 101, 97, 108, 115]
abbrev kw_mean : List Int32 := [109, 101, 97, 110]
abbrev kw_post : List Int32 := [112, 111, 115, 116]
abbrev kw_rest : List Int32 := [114, 101, 115, 116]
abbrev kw_run : List Int32 := [114, 117, 110]
abbrev kw_stay : List Int32 := [115, 116, 97, 121]
abbrev kw_to : List Int32 := [116, 111]
abbrev kw_weak : List Int32 := [119, 101, 97, 107]
abbrev kw_when : List Int32 := [119, 104, 101, 110]
def strTab : List (String × Nat × String × List Int32) := [(RX2, 45, "rest", kw_rest), (RX2, 51, "dogs", kw_dogs), (RX2, 53, "fine", kw_fine), (RX2, 68, "from", kw_from), (RX2, 70, "to", kw_to), (RX2, 75, "at", kw_at), (RX2, 77, "for", kw_for), (RX4, 55, "when", kw_when), (RX4, 75, "and", kw_and), (RX4, 83, "go", kw_go), (RX4, 85, "stay", kw_stay), (RX4, 87, "feed", kw_feed), (RX4, 89, "leave", kw_leave), (RX4, 91, "run", kw_run), (RX4, 95, "rest", kw_rest), (RX4, 97, "weak", kw_weak), (RX4, 99, "mean", kw_mean), (RX4, 101, "cold", kw_cold), (RX4, 103, "meals", kw_meals), (RX4, 105, "dogs", kw_dogs), (RX4, 107, "left", kw_left), (RX4, 109, "hour", kw_hour), (RX4, 111, "post", kw_post), (RX4, 113, "load", kw_load), (RX13, 192, "go", kw_go), (RX13, 194, "stay", kw_stay), (RX13, 196, "feed", kw_feed), (RX13, 198, "leave", kw_leave), (RX13, 200, "run", kw_run), (RX13, 202, "rest", kw_rest), (RX13, 204, "weak", kw_weak), (RX13, 206, "mean", kw_mean), (RX13, 208, "cold", kw_cold), (RX13, 209, "meals", kw_meals), (RX13, 211, "dogs", kw_dogs), (RX13, 213, "left", kw_left), (RX13, 215, "hour", kw_hour), (RX13, 217, "post", kw_post), (RX13, 219, "load", kw_load), (RX13, 230, "when", kw_when), (RX13, 239, "and", kw_and), (RX13, 253, "fine", kw_fine), (RX13, 255, "for", kw_for), (RX13, 261, "at", kw_at), (RX13, 262, "from", kw_from), (RX13, 264, "to", kw_to)]
/-- the String constants stand where they should -/
def Strs (E : Ev) : Prop := Stat E ∧ ∀ r ∈ strTab, StrK E r.1 r.2.1 r.2.2.1 r.2.2.2
theorem sX2_45 {E : Ev} (h : Strs E) : StrK E RX2 45 "rest" kw_rest := h.2 (RX2, 45, "rest", kw_rest) (List.mem_of_getElem? (l := strTab) (i := 0) rfl)
theorem sX2_51 {E : Ev} (h : Strs E) : StrK E RX2 51 "dogs" kw_dogs := h.2 (RX2, 51, "dogs", kw_dogs) (List.mem_of_getElem? (l := strTab) (i := 1) rfl)
theorem sX2_53 {E : Ev} (h : Strs E) : StrK E RX2 53 "fine" kw_fine := h.2 (RX2, 53, "fine", kw_fine) (List.mem_of_getElem? (l := strTab) (i := 2) rfl)
theorem sX2_68 {E : Ev} (h : Strs E) : StrK E RX2 68 "from" kw_from := h.2 (RX2, 68, "from", kw_from) (List.mem_of_getElem? (l := strTab) (i := 3) rfl)
theorem sX2_70 {E : Ev} (h : Strs E) : StrK E RX2 70 "to" kw_to := h.2 (RX2, 70, "to", kw_to) (List.mem_of_getElem? (l := strTab) (i := 4) rfl)
theorem sX2_75 {E : Ev} (h : Strs E) : StrK E RX2 75 "at" kw_at := h.2 (RX2, 75, "at", kw_at) (List.mem_of_getElem? (l := strTab) (i := 5) rfl)
theorem sX2_77 {E : Ev} (h : Strs E) : StrK E RX2 77 "for" kw_for := h.2 (RX2, 77, "for", kw_for) (List.mem_of_getElem? (l := strTab) (i := 6) rfl)
theorem sX4_55 {E : Ev} (h : Strs E) : StrK E RX4 55 "when" kw_when := h.2 (RX4, 55, "when", kw_when) (List.mem_of_getElem? (l := strTab) (i := 7) rfl)
theorem sX4_75 {E : Ev} (h : Strs E) : StrK E RX4 75 "and" kw_and := h.2 (RX4, 75, "and", kw_and) (List.mem_of_getElem? (l := strTab) (i := 8) rfl)
theorem sX4_83 {E : Ev} (h : Strs E) : StrK E RX4 83 "go" kw_go := h.2 (RX4, 83, "go", kw_go) (List.mem_of_getElem? (l := strTab) (i := 9) rfl)
theorem sX4_85 {E : Ev} (h : Strs E) : StrK E RX4 85 "stay" kw_stay := h.2 (RX4, 85, "stay", kw_stay) (List.mem_of_getElem? (l := strTab) (i := 10) rfl)
theorem sX4_87 {E : Ev} (h : Strs E) : StrK E RX4 87 "feed" kw_feed := h.2 (RX4, 87, "feed", kw_feed) (List.mem_of_getElem? (l := strTab) (i := 11) rfl)
theorem sX4_89 {E : Ev} (h : Strs E) : StrK E RX4 89 "leave" kw_leave := h.2 (RX4, 89, "leave", kw_leave) (List.mem_of_getElem? (l := strTab) (i := 12) rfl)
theorem sX4_91 {E : Ev} (h : Strs E) : StrK E RX4 91 "run" kw_run := h.2 (RX4, 91, "run", kw_run) (List.mem_of_getElem? (l := strTab) (i := 13) rfl)
theorem sX4_95 {E : Ev} (h : Strs E) : StrK E RX4 95 "rest" kw_rest := h.2 (RX4, 95, "rest", kw_rest) (List.mem_of_getElem? (l := strTab) (i := 14) rfl)
theorem sX4_97 {E : Ev} (h : Strs E) : StrK E RX4 97 "weak" kw_weak := h.2 (RX4, 97, "weak", kw_weak) (List.mem_of_getElem? (l := strTab) (i := 15) rfl)
theorem sX4_99 {E : Ev} (h : Strs E) : StrK E RX4 99 "mean" kw_mean := h.2 (RX4, 99, "mean", kw_mean) (List.mem_of_getElem? (l := strTab) (i := 16) rfl)
theorem sX4_101 {E : Ev} (h : Strs E) : StrK E RX4 101 "cold" kw_cold := h.2 (RX4, 101, "cold", kw_cold) (List.mem_of_getElem? (l := strTab) (i := 17) rfl)
theorem sX4_103 {E : Ev} (h : Strs E) : StrK E RX4 103 "meals" kw_meals := h.2 (RX4, 103, "meals", kw_meals) (List.mem_of_getElem? (l := strTab) (i := 18) rfl)
theorem sX4_105 {E : Ev} (h : Strs E) : StrK E RX4 105 "dogs" kw_dogs := h.2 (RX4, 105, "dogs", kw_dogs) (List.mem_of_getElem? (l := strTab) (i := 19) rfl)
theorem sX4_107 {E : Ev} (h : Strs E) : StrK E RX4 107 "left" kw_left := h.2 (RX4, 107, "left", kw_left) (List.mem_of_getElem? (l := strTab) (i := 20) rfl)
theorem sX4_109 {E : Ev} (h : Strs E) : StrK E RX4 109 "hour" kw_hour := h.2 (RX4, 109, "hour", kw_hour) (List.mem_of_getElem? (l := strTab) (i := 21) rfl)
theorem sX4_111 {E : Ev} (h : Strs E) : StrK E RX4 111 "post" kw_post := h.2 (RX4, 111, "post", kw_post) (List.mem_of_getElem? (l := strTab) (i := 22) rfl)
theorem sX4_113 {E : Ev} (h : Strs E) : StrK E RX4 113 "load" kw_load := h.2 (RX4, 113, "load", kw_load) (List.mem_of_getElem? (l := strTab) (i := 23) rfl)
theorem sX13_192 {E : Ev} (h : Strs E) : StrK E RX13 192 "go" kw_go := h.2 (RX13, 192, "go", kw_go) (List.mem_of_getElem? (l := strTab) (i := 24) rfl)
theorem sX13_194 {E : Ev} (h : Strs E) : StrK E RX13 194 "stay" kw_stay := h.2 (RX13, 194, "stay", kw_stay) (List.mem_of_getElem? (l := strTab) (i := 25) rfl)
theorem sX13_196 {E : Ev} (h : Strs E) : StrK E RX13 196 "feed" kw_feed := h.2 (RX13, 196, "feed", kw_feed) (List.mem_of_getElem? (l := strTab) (i := 26) rfl)
theorem sX13_198 {E : Ev} (h : Strs E) : StrK E RX13 198 "leave" kw_leave := h.2 (RX13, 198, "leave", kw_leave) (List.mem_of_getElem? (l := strTab) (i := 27) rfl)
theorem sX13_200 {E : Ev} (h : Strs E) : StrK E RX13 200 "run" kw_run := h.2 (RX13, 200, "run", kw_run) (List.mem_of_getElem? (l := strTab) (i := 28) rfl)
theorem sX13_202 {E : Ev} (h : Strs E) : StrK E RX13 202 "rest" kw_rest := h.2 (RX13, 202, "rest", kw_rest) (List.mem_of_getElem? (l := strTab) (i := 29) rfl)
theorem sX13_204 {E : Ev} (h : Strs E) : StrK E RX13 204 "weak" kw_weak := h.2 (RX13, 204, "weak", kw_weak) (List.mem_of_getElem? (l := strTab) (i := 30) rfl)
theorem sX13_206 {E : Ev} (h : Strs E) : StrK E RX13 206 "mean" kw_mean := h.2 (RX13, 206, "mean", kw_mean) (List.mem_of_getElem? (l := strTab) (i := 31) rfl)
theorem sX13_208 {E : Ev} (h : Strs E) : StrK E RX13 208 "cold" kw_cold := h.2 (RX13, 208, "cold", kw_cold) (List.mem_of_getElem? (l := strTab) (i := 32) rfl)
theorem sX13_209 {E : Ev} (h : Strs E) : StrK E RX13 209 "meals" kw_meals := h.2 (RX13, 209, "meals", kw_meals) (List.mem_of_getElem? (l := strTab) (i := 33) rfl)
theorem sX13_211 {E : Ev} (h : Strs E) : StrK E RX13 211 "dogs" kw_dogs := h.2 (RX13, 211, "dogs", kw_dogs) (List.mem_of_getElem? (l := strTab) (i := 34) rfl)
theorem sX13_213 {E : Ev} (h : Strs E) : StrK E RX13 213 "left" kw_left := h.2 (RX13, 213, "left", kw_left) (List.mem_of_getElem? (l := strTab) (i := 35) rfl)
theorem sX13_215 {E : Ev} (h : Strs E) : StrK E RX13 215 "hour" kw_hour := h.2 (RX13, 215, "hour", kw_hour) (List.mem_of_getElem? (l := strTab) (i := 36) rfl)
theorem sX13_217 {E : Ev} (h : Strs E) : StrK E RX13 217 "post" kw_post := h.2 (RX13, 217, "post", kw_post) (List.mem_of_getElem? (l := strTab) (i := 37) rfl)
theorem sX13_219 {E : Ev} (h : Strs E) : StrK E RX13 219 "load" kw_load := h.2 (RX13, 219, "load", kw_load) (List.mem_of_getElem? (l := strTab) (i := 38) rfl)
theorem sX13_230 {E : Ev} (h : Strs E) : StrK E RX13 230 "when" kw_when := h.2 (RX13, 230, "when", kw_when) (List.mem_of_getElem? (l := strTab) (i := 39) rfl)
theorem sX13_239 {E : Ev} (h : Strs E) : StrK E RX13 239 "and" kw_and := h.2 (RX13, 239, "and", kw_and) (List.mem_of_getElem? (l := strTab) (i := 40) rfl)
theorem sX13_253 {E : Ev} (h : Strs E) : StrK E RX13 253 "fine" kw_fine := h.2 (RX13, 253, "fine", kw_fine) (List.mem_of_getElem? (l := strTab) (i := 41) rfl)
theorem sX13_255 {E : Ev} (h : Strs E) : StrK E RX13 255 "for" kw_for := h.2 (RX13, 255, "for", kw_for) (List.mem_of_getElem? (l := strTab) (i := 42) rfl)
theorem sX13_261 {E : Ev} (h : Strs E) : StrK E RX13 261 "at" kw_at := h.2 (RX13, 261, "at", kw_at) (List.mem_of_getElem? (l := strTab) (i := 43) rfl)
theorem sX13_262 {E : Ev} (h : Strs E) : StrK E RX13 262 "from" kw_from := h.2 (RX13, 262, "from", kw_from) (List.mem_of_getElem? (l := strTab) (i := 44) rfl)
theorem sX13_264 {E : Ev} (h : Strs E) : StrK E RX13 264 "to" kw_to := h.2 (RX13, 264, "to", kw_to) (List.mem_of_getElem? (l := strTab) (i := 45) rfl)
def kE (I : Mem) (a : Nat) : Nat := (I a 2).toNatClampNeg
def kA (I : Mem) (a : Nat) : Nat := (I a 5).toNatClampNeg
def kN (I : Mem) (a : Nat) : Nat := (I a 3).toNatClampNeg
abbrev TkOK (I : Mem) (a : Nat) : Prop := TokSt I a (kE I a) (kA I a) (kN I a)
def isW (I : Mem) (a : Nat) (bs : List Int32) : Bool := tkWord (I (a + 1)) (I a 4) (kA I a) (kN I a) bs
def adv (I : Mem) (a : Nat) : Mem := tAdv I a (kE I a) (kN I a)
theorem TkOK.of {I : Mem} {a e q nx : Nat} (h : TokSt I a e q nx) : TkOK I a := by
  obtain ⟨h1, h2, h3, h4, h5, h6⟩ := id h
  have e1 : kE I a = e := by unfold kE; rw [h1, nI_clamp (by omega)]
  have e2 : kA I a = q := by unfold kA; rw [h4, nI_clamp (by omega)]
  have e3 : kN I a = nx := by unfold kN; rw [h3, nI_clamp (by omega)]
  unfold TkOK
  rw [e1, e2, e3]
  exact h
theorem TkOK.adv {I : Mem} {a : Nat} (h : TkOK I a) : TkOK (adv I a) a := TkOK.of (tAdv_st h)
theorem TkOK.keep {I I' : Mem} {a : Nat} (h : TkOK I a) (h2 : I' a 2 = I a 2) (h3 : I' a 3 = I a 3) (h5 : I' a 5 = I a 5) : TkOK I' a := by
  refine TkOK.of (e := kE I a) (q := kA I a) (nx := kN I a) ?_
  obtain ⟨a1, a2, a3, a4, a5, a6⟩ := id h
  exact ⟨h2.trans a1, a2, h3.trans a3, h5.trans a4, a5, a6⟩
theorem adv_o {I : Mem} {a b k : Nat} (h : b ≠ a) : adv I a b k = I b k := by
  unfold adv tAdv setTok
  rw [up2_a h, up2_a h, up2_a h, up2_a h]
theorem c_isW {E : Ev} (GE : Glob E) (S : Nat → Option (Nat × Nat)) (I : Nat → Nat → Int32) (V : Nat → Nat → Option Nat) (J : Nat → Nat → Int64) (N : Nat) (a u : Nat) (bs : List Int32) (hZ : Strs E) (hT : TapeSh S V a) (hK : TkOK I a) (hu : StrAt E u bs) :
    Ct E yX7_isWord cX7_isWord 3 (some .boolean) (rmL 4) [.ref a, .ref u] (S, I, V, J, N) (fun v w' => v = some (.int (bI (isW I a bs))) ∧ w' = (S, I, V, J, N)) :=
  c_isWord GE S I V J N a _ _ _ u bs hZ.1 hT hK hu
theorem c_advK {E : Ev} (GE : Glob E) (S : Nat → Option (Nat × Nat)) (I : Nat → Nat → Int32) (V : Nat → Nat → Option Nat) (J : Nat → Nat → Int64) (N : Nat) (a : Nat) (hT : TapeSh S V a) (hK : TkOK I a) :
    Ct E yX7_advance cX7_advance 1 none (rmL 1) [.ref a] (S, I, V, J, N) (fun v w' => v = none ∧ w' = (S, adv I a, V, J, N)) :=
  c_adv GE S I V J N a _ _ hT hK.1 hK.2.1 hK.2.2.1 hK.2.2.2.2.2
def wAct (W : List Int32 → Bool) : Int32 := if W kw_go = true then 0 else if W kw_stay = true then 1 else if W kw_feed = true then 2 else if W kw_leave = true then 3 else -1
set_option maxHeartbeats 2000000 in
set_option maxRecDepth 20000 in
/-- SledHouse$Plan.actOf -/
theorem c_actOf {E : Ev} (GE : Glob E) (S : Nat → Option (Nat × Nat)) (I : Nat → Nat → Int32) (V : Nat → Nat → Option Nat) (J : Nat → Nat → Int64) (N : Nat) (a : Nat) (hZ : Strs E) (hT : TapeSh S V a) (hK : TkOK I a) : Ct E yX4_actOf cX4_actOf 1 (some .int) (rmL 5) [.ref a] (S, I, V, J, N) (fun v w' => v = some (.int (wAct (isW I a))) ∧ w' = (S, I, V, J, N)) := by
  refine Ct.start GE (by decide) rfl (Nat.le_of_ble_eq_true rfl) (fun M X => ?_)
  have X : Cx E M RX4 cX4_actOf 1 (rmL 5) (some .int) "actOf" := X
  refine r_loc (L' := [some (.ref a)]) rfl ?_
  have ts0 := hT.1
  refine r_aload_n X dX4_actOf_0 rfl rfl ?_
  refine r_ldcS X dX4_actOf_1 (sX4_83 hZ) (fun u1 hu1 => ?_)
  refine q_callV X dX4_actOf_3 mX4_57 cwX7_isWord (c_isW GE S I V J N a _ kw_go hZ hT hK (by assumption)) rfl (by assumption) rfl rfl rfl (Nat.le_of_ble_eq_true rfl) ⟨Nat.le_of_ble_eq_true rfl, Nat.le_of_ble_eq_true rfl⟩ ⟨(by first | omega | decide | (simp only [rmL, rmA]; omega)), (by first | omega | decide | (simp only [rmL, rmA]; omega))⟩ ?_
  rintro _ _ ⟨rfl, rfl⟩
  refine r_if_eq (tgt := 11) X dX4_actOf_6 (by decide) (fun h6 => ?_) (fun h6 => ?_)
  · skip
    refine r_aload_n X dX4_actOf_11 rfl rfl ?_
    refine r_ldcS X dX4_actOf_12 (sX4_85 hZ) (fun u12 hu12 => ?_)
    refine q_callV X dX4_actOf_14 mX4_57 cwX7_isWord (c_isW GE S I V J N a _ kw_stay hZ hT hK (by assumption)) rfl (by assumption) rfl rfl rfl (Nat.le_of_ble_eq_true rfl) ⟨Nat.le_of_ble_eq_true rfl, Nat.le_of_ble_eq_true rfl⟩ ⟨(by first | omega | decide | (simp only [rmL, rmA]; omega)), (by first | omega | decide | (simp only [rmL, rmA]; omega))⟩ ?_
    rintro _ _ ⟨rfl, rfl⟩
    refine r_if_eq (tgt := 22) X dX4_actOf_17 (by decide) (fun h17 => ?_) (fun h17 => ?_)
    · skip
      refine r_aload_n X dX4_actOf_22 rfl rfl ?_
      refine r_ldcS X dX4_actOf_23 (sX4_87 hZ) (fun u23 hu23 => ?_)
      refine q_callV X dX4_actOf_25 mX4_57 cwX7_isWord (c_isW GE S I V J N a _ kw_feed hZ hT hK (by assumption)) rfl (by assumption) rfl rfl rfl (Nat.le_of_ble_eq_true rfl) ⟨Nat.le_of_ble_eq_true rfl, Nat.le_of_ble_eq_true rfl⟩ ⟨(by first | omega | decide | (simp only [rmL, rmA]; omega)), (by first | omega | decide | (simp only [rmL, rmA]; omega))⟩ ?_
      rintro _ _ ⟨rfl, rfl⟩
      refine r_if_eq (tgt := 33) X dX4_actOf_28 (by decide) (fun h28 => ?_) (fun h28 => ?_)
      · skip
        refine r_aload_n X dX4_actOf_33 rfl rfl ?_
        refine r_ldcS X dX4_actOf_34 (sX4_89 hZ) (fun u34 hu34 => ?_)
        refine q_callV X dX4_actOf_36 mX4_57 cwX7_isWord (c_isW GE S I V J N a _ kw_leave hZ hT hK (by assumption)) rfl (by assumption) rfl rfl rfl (Nat.le_of_ble_eq_true rfl) ⟨Nat.le_of_ble_eq_true rfl, Nat.le_of_ble_eq_true rfl⟩ ⟨(by first | omega | decide | (simp only [rmL, rmA]; omega)), (by first | omega | decide | (simp only [rmL, rmA]; omega))⟩ ?_
        rintro _ _ ⟨rfl, rfl⟩
        refine r_if_eq (tgt := 46) X dX4_actOf_39 (by decide) (fun h39 => ?_) (fun h39 => ?_)
        · skip
          refine r_iconst (v := -1) X dX4_actOf_46 (by decide) ?_
          refine r_ireturn X dX4_actOf_47 rfl (by first | omega | decide | (simp only [rmL, rmA]; omega)) (by first | omega | decide | (simp only [rmL, rmA]; omega)) ?_
          refine ⟨?_, rfl⟩
          simp only [wAct]
          first
            | (rw [if_pos (bI_1 h6)]; done)
            | (rw [if_neg (by rw [bI_0 h6]; decide), if_pos (bI_1 h17)]; done)
            | (rw [if_neg (by rw [bI_0 h6]; decide), if_neg (by rw [bI_0 h17]; decide), if_pos (bI_1 h28)]; done)
            | (rw [if_neg (by rw [bI_0 h6]; decide), if_neg (by rw [bI_0 h17]; decide), if_neg (by rw [bI_0 h28]; decide), if_pos (bI_1 h39)]; done)
            | (rw [if_neg (by rw [bI_0 h6]; decide), if_neg (by rw [bI_0 h17]; decide), if_neg (by rw [bI_0 h28]; decide), if_neg (by rw [bI_0 h39]; decide)]; done)
        · skip
          refine r_iconst (v := 3) X dX4_actOf_42 (by decide) ?_
          refine r_goto (tgt := 47) X dX4_actOf_43 (by decide) ?_
          refine r_ireturn X dX4_actOf_47 rfl (by first | omega | decide | (simp only [rmL, rmA]; omega)) (by first | omega | decide | (simp only [rmL, rmA]; omega)) ?_
          refine ⟨?_, rfl⟩
          simp only [wAct]
          first
            | (rw [if_pos (bI_1 h6)]; done)
            | (rw [if_neg (by rw [bI_0 h6]; decide), if_pos (bI_1 h17)]; done)
            | (rw [if_neg (by rw [bI_0 h6]; decide), if_neg (by rw [bI_0 h17]; decide), if_pos (bI_1 h28)]; done)
            | (rw [if_neg (by rw [bI_0 h6]; decide), if_neg (by rw [bI_0 h17]; decide), if_neg (by rw [bI_0 h28]; decide), if_pos (bI_1 h39)]; done)
            | (rw [if_neg (by rw [bI_0 h6]; decide), if_neg (by rw [bI_0 h17]; decide), if_neg (by rw [bI_0 h28]; decide), if_neg (by rw [bI_0 h39]; decide)]; done)
      · skip
        refine r_iconst (v := 2) X dX4_actOf_31 (by decide) ?_
        refine r_ireturn X dX4_actOf_32 rfl (by first | omega | decide | (simp only [rmL, rmA]; omega)) (by first | omega | decide | (simp only [rmL, rmA]; omega)) ?_
        refine ⟨?_, rfl⟩
        simp only [wAct]
        first
          | (rw [if_pos (bI_1 h6)]; done)
          | (rw [if_neg (by rw [bI_0 h6]; decide), if_pos (bI_1 h17)]; done)
          | (rw [if_neg (by rw [bI_0 h6]; decide), if_neg (by rw [bI_0 h17]; decide), if_pos (bI_1 h28)]; done)
          | (rw [if_neg (by rw [bI_0 h6]; decide), if_neg (by rw [bI_0 h17]; decide), if_neg (by rw [bI_0 h28]; decide), if_pos (bI_1 h39)]; done)
          | (rw [if_neg (by rw [bI_0 h6]; decide), if_neg (by rw [bI_0 h17]; decide), if_neg (by rw [bI_0 h28]; decide), if_neg (by rw [bI_0 h39]; decide)]; done)
    · skip
      refine r_iconst (v := 1) X dX4_actOf_20 (by decide) ?_
      refine r_ireturn X dX4_actOf_21 rfl (by first | omega | decide | (simp only [rmL, rmA]; omega)) (by first | omega | decide | (simp only [rmL, rmA]; omega)) ?_
      refine ⟨?_, rfl⟩
      simp only [wAct]
      first
        | (rw [if_pos (bI_1 h6)]; done)
        | (rw [if_neg (by rw [bI_0 h6]; decide), if_pos (bI_1 h17)]; done)
        | (rw [if_neg (by rw [bI_0 h6]; decide), if_neg (by rw [bI_0 h17]; decide), if_pos (bI_1 h28)]; done)
        | (rw [if_neg (by rw [bI_0 h6]; decide), if_neg (by rw [bI_0 h17]; decide), if_neg (by rw [bI_0 h28]; decide), if_pos (bI_1 h39)]; done)
        | (rw [if_neg (by rw [bI_0 h6]; decide), if_neg (by rw [bI_0 h17]; decide), if_neg (by rw [bI_0 h28]; decide), if_neg (by rw [bI_0 h39]; decide)]; done)
  · skip
    refine r_iconst (v := 0) X dX4_actOf_9 (by decide) ?_
    refine r_ireturn X dX4_actOf_10 rfl (by first | omega | decide | (simp only [rmL, rmA]; omega)) (by first | omega | decide | (simp only [rmL, rmA]; omega)) ?_
    refine ⟨?_, rfl⟩
    simp only [wAct]
    first
      | (rw [if_pos (bI_1 h6)]; done)
      | (rw [if_neg (by rw [bI_0 h6]; decide), if_pos (bI_1 h17)]; done)
      | (rw [if_neg (by rw [bI_0 h6]; decide), if_neg (by rw [bI_0 h17]; decide), if_pos (bI_1 h28)]; done)
      | (rw [if_neg (by rw [bI_0 h6]; decide), if_neg (by rw [bI_0 h17]; decide), if_neg (by rw [bI_0 h28]; decide), if_pos (bI_1 h39)]; done)
      | (rw [if_neg (by rw [bI_0 h6]; decide), if_neg (by rw [bI_0 h17]; decide), if_neg (by rw [bI_0 h28]; decide), if_neg (by rw [bI_0 h39]; decide)]; done)
