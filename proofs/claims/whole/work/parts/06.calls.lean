/-! ===== making cells, returns, contracts, calls ===== -/
theorem kCl_df {k : Nat} {r : vw_C} (h : kCl[k]? = some r) : ∀ j, j < r.2.2 → defaultValue (fT k j) = fval (fT k j) 0 none 0 := kCl_cases (P := fun k r => ∀ j, j < r.2.2 → defaultValue (fT k j) = fval (fT k j) 0 none 0) (by decide +kernel) (by decide +kernel) (by decide +kernel) (by decide +kernel) (by decide +kernel) (by decide +kernel) (by decide +kernel) (by decide +kernel) (by decide +kernel) (by decide +kernel) (by decide +kernel) (by decide +kernel) (by decide +kernel) h
abbrev fresh (w : Wd) (k n : Nat) : Wd := (up1 w.1 w.2.2.2.2 (some (k, n)), zr w.2.1 w.2.2.2.2 0, zr w.2.2.1 w.2.2.2.2 none, zr w.2.2.2.1 w.2.2.2.2 0, w.2.2.2.2 + 1)
section AL
variable {E : Ev} {M : Mc} {own : String} {cc : ByteArray} {nL : Nat} {rm : Room} {ret : Option FieldType} {nm : String} {cells slots : Nat} {Q : State → Prop} {pc : Nat} {L : List (Option Value)} {st : List Value} {w w' : Wd} {H H' : Heap}
variable {S : Nat → Option (Nat × Nat)} {I : Nat → Nat → Int32} {V : Nat → Nat → Option Nat} {J : Nat → Nat → Int64} {N : Nat} {a n idx ci k : Nat}
theorem Rw.lt (hR : Rw E w H) {b : Nat} {x : Nat × Nat} (h : w.1 b = some x) : b < H.size := by
  obtain ⟨k, n⟩ := x
  obtain ⟨-, h | h | h⟩ := hR.2.2.2 b k n h
  · obtain ⟨-, r, -, cell, h2, -⟩ := h
    exact (Array.getElem?_eq_some_iff.mp h2).1
  · exact (Array.getElem?_eq_some_iff.mp h.2.2).1
  · exact (Array.getElem?_eq_some_iff.mp h.2).1
theorem Rw.pushed (hR : Rw E w H) (h2 : H'.size = H.size + 1) (h3 : ∀ q, q < H.size → H'[q]? = H[q]?) {k n : Nat} (ha : cOK E (fresh w k n) H' H.size) : Rw E (fresh w k n) H' := by
  have hN := hR.1
  refine ⟨by rw [h2, hN], by rw [h2]; have := hR.2.1; omega, fun q hq => ?_, fun b => ?_⟩
  · rw [h3 q (by have := hR.2.1; omega)]
    exact hR.2.2.1 q hq
  · by_cases hb : b = H.size
    · subst hb
      exact ha
    · have hb' : b ≠ w.2.2.2.2 := by rw [← hN]; exact hb
      intro k' n' hk'
      have hk2 : w.1 b = some (k', n') := by
        have : (fresh w k n).1 b = w.1 b := by simp [fresh, up1, hb']
        rw [← this]; exact hk'
      have hlt := hR.lt hk2
      refine (hR.2.2.2 b).kept (w' := fresh w k n) ?_ ?_ ?_ ?_ (h3 b hlt) k' n' hk'
      · simp [fresh, up1, hb']
      · funext j; simp [zr, hb']
      · funext j; simp [zr, hb']
      · funext j; simp [zr, hb']
theorem r_new {r : vw_C} {nS : Nat} (X : Cx E M own cc nL rm ret nm) (hd : decode cc pc = .ok (.new idx, 3)) (hr : kCl[ci]? = some r) (hcl : Cond.classLink own idx r.1 ∈ lw_tbl) (hins : Cond.instantiable r.1 nS ∈ lw_tbl) (hini : Cond.initialized r.1 ∈ lw_tbl) (hc : cells + 1 ≤ rm.cells) (hs : slots + nS ≤ rm.slots)
    (kk : G E M (cells + 1) (slots + nS) Q (pc + 3) L (.ref w.2.2.2.2 :: st) (fresh w ci 0)) : G E M cells slots Q pc L st w := by
  intro H locs ls hR hl hls
  have hK := X.kn hr
  refine W.newcK X.hx X.hb X.hown (X.word hcl (Or.inl rfl)) (X.word hins (Or.inl rfl)) (X.word hini (Or.inl rfl)) rfl hd (by rw [X.room]; exact hc) (by rw [X.room]; exact hs) hK.2.1 hR.1 fun H' kC hkC e1 e2 e3 => ?_
  have hN := hR.1
  refine kk H' _ ls (hR.pushed (by rw [e2, hN]) (fun q hq => e3 q (by omega)) ?_) hl hls
  intro k' n' hk'
  rw [hN] at hk' ⊢
  have : (fresh w ci 0).1 w.2.2.2.2 = some (ci, 0) := by simp [fresh, up1]
  cases this.symm.trans hk'
  refine ⟨by have := hR.2.1; omega, Or.inl ⟨by have := kCl_lt hr; omega, r, hr, ?_⟩⟩
  refine (u_born (ws := u_ws r.1 r.2.1 r.2.2) (args := mA M) (fT ci) (fun w hw => ?_) (fun _ h => h) hK hkC e1 (kCl_ty hr)).to fun j hj => ?_
  · obtain ⟨j, -, rfl⟩ := List.mem_map.mp hw
    exact X.word (kCl_in hr _ hw) (u_lay_good _ _ _)
  · rw [kCl_df hr j hj]
    simp [fresh, zr]
theorem newa_core {at_ : ArrayType} {x : Int32} (X : Cx E M own cc nL rm ret nm) (hd : decode cc pc = .ok (.newarray at_, 2)) (hk : 100 ≤ k) (hk2 : k < 103) (hra : (mS M).vm.findClass ("[" ++ (newarray.typeOf at_).toString) = some (E.2.2.2 k)) (hdf : defaultValue (newarray.typeOf at_) = .int 0) (harr : Cond.arrayClass (newarray.typeOf at_) ∈ lw_tbl) (hx : x = nI n) (hn : n < 2 ^ 31) (hb : n * componentBytes (newarray.typeOf at_) ≤ 536870912) (hc : cells + 1 ≤ rm.cells) (hs : slots + n ≤ rm.slots)
    (kk : G E M (cells + 1) (slots + n) Q (pc + 2) L (.ref w.2.2.2.2 :: st) (fresh w k n)) : G E M cells slots Q pc L (.int x :: st) w := by
  intro H locs ls hR hl hls
  subst hx
  have hcl := nI_clamp hn
  have hN := hR.1
  refine W.newa X.hx X.hb (X.word harr (Or.inr ⟨_, rfl⟩)) rfl hd rfl (nI_pos hn) (by rw [hcl]; exact hb) (by rw [X.room]; exact hc) (by rw [hcl, X.room]; exact hs) fun cA kA comp h1 h2 h3 => ?_
  cases hra.symm.trans h1
  rw [hcl, arrV_new, hN]
  refine kk _ _ ls (hR.pushed (by simp) (fun q hq => ?_) ?_) hl hls
  · rw [Array.getElem?_push, if_neg (Nat.ne_of_lt hq)]
  · intro k' n' hk'
    rw [hN] at hk'
    have : (fresh w k n).1 w.2.2.2.2 = some (k, n) := by simp [fresh, up1]
    cases this.symm.trans hk'
    refine ⟨hR.2.1, Or.inr (Or.inl ⟨hk, hk2, ?_⟩)⟩
    rw [hN, hdf]
    have : (H.push (arrV (E.2.2.2 k) n fun _ => Value.int 0))[w.2.2.2.2]? = some (arrV (E.2.2.2 k) n fun _ => Value.int 0) := by rw [← hN]; simp
    rw [this]
    simp [fresh, zr]
theorem r_newI {x : Int32} (X : Cx E M own cc nL rm ret nm) (hd : decode cc pc = .ok (.newarray .int, 2)) (hx : x = nI n) (hn : n < 100000) (hc : cells + 1 ≤ rm.cells) (hs : slots + n ≤ rm.slots) (kk : G E M (cells + 1) (slots + n) Q (pc + 2) L (.ref w.2.2.2.2 :: st) (fresh w 100 n)) : G E M cells slots Q pc L (.int x :: st) w :=
  newa_core (k := 100) X hd (by decide) (by decide) (X.ra (k := 100) rfl) rfl (by decide +kernel) hx (by omega) (by show n * 4 ≤ _; omega) hc hs kk
theorem r_newB {x : Int32} (X : Cx E M own cc nL rm ret nm) (hd : decode cc pc = .ok (.newarray .byte, 2)) (hx : x = nI n) (hn : n < 100000) (hc : cells + 1 ≤ rm.cells) (hs : slots + n ≤ rm.slots) (kk : G E M (cells + 1) (slots + n) Q (pc + 2) L (.ref w.2.2.2.2 :: st) (fresh w 101 n)) : G E M cells slots Q pc L (.int x :: st) w :=
  newa_core (k := 101) X hd (by decide) (by decide) (X.ra (k := 101) rfl) rfl (by decide +kernel) hx (by omega) (by show n * 1 ≤ _; omega) hc hs kk
theorem r_newZ {x : Int32} (X : Cx E M own cc nL rm ret nm) (hd : decode cc pc = .ok (.newarray .boolean, 2)) (hx : x = nI n) (hn : n < 100000) (hc : cells + 1 ≤ rm.cells) (hs : slots + n ≤ rm.slots) (kk : G E M (cells + 1) (slots + n) Q (pc + 2) L (.ref w.2.2.2.2 :: st) (fresh w 102 n)) : G E M cells slots Q pc L (.int x :: st) w :=
  newa_core (k := 102) X hd (by decide) (by decide) (X.ra (k := 102) rfl) rfl (by decide +kernel) hx (by omega) (by show n * 1 ≤ _; omega) hc hs kk
theorem Cx.over (X : Cx E M own cc nL rm ret nm) {C : String} (h : Cond.arrayOver (.object C) ∈ lw_tbl) : va_AO C (mS M) := by
  obtain ⟨a0, h0⟩ := X.glob.1
  exact va_AO.moved X.warm.alike (va_AO.of (h0 _ h))
theorem r_anew {x : Int32} {C : String} (X : Cx E M own cc nL rm ret nm) (hd : decode cc pc = .ok (.anewarray idx, 3)) (hk : 103 ≤ k) (ht : akT k = some (.object C)) (hcl : Cond.classLink own idx C ∈ lw_tbl) (hov : Cond.arrayOver (.object C) ∈ lw_tbl) (hx : x = nI n) (hn : n < 100000) (hc : cells + 1 ≤ rm.cells) (hs : slots + n ≤ rm.slots)
    (kk : G E M (cells + 1) (slots + n) Q (pc + 3) L (.ref w.2.2.2.2 :: st) (fresh w k n)) : G E M cells slots Q pc L (.int x :: st) w := by
  intro H locs ls hR hl hls
  subst hx
  have hcl2 := nI_clamp (n := n) (by omega)
  have hN := hR.1
  refine W.anew X.hx X.hb X.hown (X.word hcl (Or.inl rfl)) (va_AO.use (X.over hov)) rfl hd rfl (nI_pos (by omega)) (by rw [hcl2]; omega) (by rw [X.room]; exact hc) (by rw [hcl2, X.room]; exact hs) fun cA kA comp f1 f2 f3 f4 => ?_
  obtain ⟨kA', comp', -, -, -, g4⟩ := X.ra ht
  cases g4.symm.trans f1
  rw [hcl2, arrV_new, hN]
  refine kk _ _ ls (hR.pushed (by simp) (fun q hq => ?_) ?_) hl hls
  · rw [Array.getElem?_push, if_neg (Nat.ne_of_lt hq)]
  · intro k' n' hk'
    rw [hN] at hk'
    have : (fresh w k n).1 w.2.2.2.2 = some (k, n) := by simp [fresh, up1]
    cases this.symm.trans hk'
    refine ⟨hR.2.1, Or.inr (Or.inr ⟨hk, ?_⟩)⟩
    rw [hN]
    have : (H.push (arrV (E.2.2.2 k) n fun _ => Value.null))[w.2.2.2.2]? = some (arrV (E.2.2.2 k) n fun _ => Value.null) := by rw [← hN]; simp
    rw [this]
    simp [fresh, zr, va_rf]
theorem r_aast {i : Int32} {v nv : Nat} {r : vw_C} (X : Cx E M own cc nL rm ret nm) (hd : decode cc pc = .ok (.aastore, 1)) (hk : 103 ≤ k) (hs : S a = some (k, n)) (hv : S v = some (ci, nv)) (hr : kCl[ci]? = some r) (ht : akT k = some (.object r.1)) (hin : vp_in i n) (kk : G E M cells slots Q (pc + 1) L st (S, I, up2 V a i.toNatClampNeg (some v), J, N)) : G E M cells slots Q pc L (.ref v :: .int i :: .ref a :: st) (S, I, V, J, N) := by
  intro H locs ls hR hl hls
  obtain ⟨hb, hc⟩ := hR.arrR hs hk
  obtain ⟨-, cellV, g1, g2, g3, -⟩ := hR.obj hr hv
  have hcls := (X.kn hr).2
  obtain ⟨kA, comp, k1, k2, k3, -⟩ := X.ra ht
  have hcomp : comp = E.2.1 ci := Option.some.inj (k3.symm.trans hcls.1)
  subst hcomp
  obtain ⟨kC, hkC, -⟩ := hcls.2
  have hlt := vp_in_lt hin
  refine W.aast X.hx X.hb hc (fun q h => by cases h) (fun h => by cases h) k1 k2 rfl hkC ⟨fun q => hin (Or.inl q), by rw [arrV_size]; exact hlt⟩ g1 (fun q h => by rw [g3] at h; cases h) (by rw [g2]; exact hkC) (by rw [g2]; exact va_assign hcls) rfl rfl hd fun H' e1 e2 e3 => ?_
  refine kk H' _ ls (hR.moved hb e2 e3 rfl (fun b hb => ⟨rfl, rfl, up2_row hb, rfl⟩) ?_) (loc_core hl hb) hls
  intro k' n' hk'
  cases hs.symm.trans hk'
  refine ⟨hb, Or.inr (Or.inr ⟨hk, ?_⟩)⟩
  rw [e1, arrV_store]
  congr 2
  funext j
  by_cases hj : j = i.toNatClampNeg
  · simp [updV, up2, hj, va_rf]
  · simp [updV, up2, hj]
theorem r_aastN {j v nv : Nat} {r : vw_C} (X : Cx E M own cc nL rm ret nm) (hd : decode cc pc = .ok (.aastore, 1)) (hk : 103 ≤ k) (hs : S a = some (k, n)) (hv : S v = some (ci, nv)) (hr : kCl[ci]? = some r) (ht : akT k = some (.object r.1)) (hj : j < n) (hn : n < 2 ^ 31) (kk : G E M cells slots Q (pc + 1) L st (S, I, up2 V a j (some v), J, N)) : G E M cells slots Q pc L (.ref v :: .int (nI j) :: .ref a :: st) (S, I, V, J, N) := r_aast X hd hk hs hv hr ht (vp_in_nI hj hn) (by rw [nI_clamp (by omega)]; exact kk)
theorem r_objInit (X : Cx E M own cc nL rm ret nm) (hd : decode cc pc = .ok (.invokespecial idx, 3)) (hl0 : Cond.methodLink own idx objectInit ∈ lw_tbl) (hfr : 1 ≤ rm.frames) (hlo : (st.map fun v => v.category).sum + 12 ≤ rm.locals) (kk : G E M cells slots Q (pc + 3) L st w) : G E M cells slots Q pc L (.ref a :: st) w := by
  intro H locs ls hR hl hls
  exact W.objInit X.hx X.hb X.hown (X.word hl0 (Or.inl rfl)) (X.word (w := .instanceMethod objectInit) (by decide +kernel) (Or.inl rfl)) (X.word (w := .code objectInit ⟨#[0xb1]⟩ 1 none) (by decide +kernel) (Or.inl rfl)) rfl hls.1 rfl hd (by rw [X.room]; exact hfr) (by rw [X.room]; show 2 * 0 + _ + 12 ≤ _; omega) (kk H locs ls hR hl hls)
end AL
/-! ===== contracts ===== -/
def Pq (E : Ev) (As : List Value) (w : Wd) : Array Value → State → Prop := fun v U => v = As.toArray ∧ E.1.WarmedH U.vm ∧ Rw E w U.heap
def Qq (E : Ev) (post : Option Value → Wd → Prop) : Array Value → State → Outcome → State → Prop := fun _ _ o t => ∃ v w, o = .returned v ∧ post v w ∧ Rw E w t.heap
/-- the method y, called with As in the world w, returns v in a world w' with post v w'; its room: rm -/
def Ct (E : Ev) (y : MethodName) (cc : ByteArray) (nL : Nat) (ret : Option FieldType) (rm : Room) (As : List Value) (w : Wd) (post : Option Value → Wd → Prop) : Prop :=
  ∀ l : Launch, Met l y [.code y cc nL ret] rm (Pq E As w) (Qq E post) rm.cells rm.slots (fun q => eB E ≤ q)
def qQ (E : Ev) (M : Mc) (rm : Room) (post : Option Value → Wd → Prop) : State → Prop := MQ (mB M) (Qq E post) (mA M) (mS M) rm.cells rm.slots (fun q => eB E ≤ q)
def ents (As : List Value) (n : Nat) : List (Option Value) := As.map some ++ List.replicate (n - As.length) none
theorem lv_args_cat1 : ∀ (As : List Value) (k i : Nat) (v : Value), (As.all fun v => v.category == 1) = true → As[i]? = some v → (k + i, v) ∈ lv_args k As := by
  intro As
  induction As with
  | nil => intro k i v _ h; simp at h
  | cons a l ih =>
    intro k i v hc h
    simp only [List.all_cons, Bool.and_eq_true] at hc
    have ha : ¬ a.category = 2 := by
      have : a.category = 1 := by simpa using hc.1
      omega
    unfold lv_args
    rw [if_neg ha]
    cases i with
    | zero =>
      simp at h
      rw [h]
      exact List.mem_cons_self
    | succ i =>
      simp at h
      have := ih (k + 1) i v hc.2 h
      rw [show k + 1 + i = k + (i + 1) by omega] at this
      exact List.mem_cons_of_mem _ this
theorem lg_sl_len : ∀ As : List Value, (As.all fun v => v.category == 1) = true → (lg_sl As).length = As.length := by
  intro As
  induction As with
  | nil => intro _; rfl
  | cons a l ih =>
    intro hc
    simp only [List.all_cons, Bool.and_eq_true] at hc
    have ha : ¬ a.category = 2 := by
      have : a.category = 1 := by simpa using hc.1
      omega
    have := ih hc.2
    unfold lg_sl at this ⊢
    rw [List.flatMap_cons, if_neg ha]
    simp [this]
theorem Ct.start {E : Ev} {y : MethodName} {cc : ByteArray} {nL : Nat} {ret : Option FieldType} {rm : Room} {As : List Value} {w : Wd} {post : Option Value → Wd → Prop} (GE : Glob E) (hy : plainName y.cls = true) (hc : (As.all fun v => v.category == 1) = true) (hn : As.length ≤ nL)
    (body : ∀ M : Mc, Cx E M y.cls cc nL rm ret y.name → G E M 0 0 (qQ E M rm post) 0 (ents As nL) [] w) : Ct E y cc nL ret rm As w post := by
  intro l
  refine Met.ofW (cc := cc) (maxL := nL) (ret := ret) hy rfl ?_
  intro p e s m args below meth c s₁ B hml hv
  obtain ⟨rfl, hW, hR⟩ := hv
  have X : Cx E (p, l, e, (headSpec [Cond.code y cc nL ret] rm).room, s, m, As.toArray, below, meth, c) y.cls cc nL rm ret y.name := ⟨GE, hW, B.exec, B.bytes, hml, findClass_of_methodNamed B.named, B.notSynchronized, rfl, B.returns, (name_of_methodNamed B.named B.method).1⟩
  have h := body _ X
  rw [lg_entry_eq]
  refine h s.heap [] _ hR (fun q hq => by cases hq) ?_
  have he := lv_entry As (n := nL) (by rw [lg_sl_len As hc]; exact hn)
  refine ⟨by rw [show (mC _).maxLocals = nL from hml]; exact he.1, he.2.1, fun i v hi => ?_⟩
  unfold ents at hi
  by_cases hlt : i < As.length
  · rw [List.getElem?_append_left (by simpa using hlt)] at hi
    have h2 : As[i]? = some v := by simpa using hi
    have := he.2.2 _ (lv_args_cat1 As 0 i v hc h2)
    simpa using this
  · rw [List.getElem?_append_right (by simp; omega)] at hi
    rw [List.getElem?_replicate] at hi
    split at hi
    · cases hi
    · cases hi
section RT
variable {E : Ev} {M : Mc} {own : String} {cc : ByteArray} {nL : Nat} {rm : Room} {ret : Option FieldType} {nm : String} {cells slots : Nat} {Q : State → Prop} {pc : Nat} {L : List (Option Value)} {st : List Value} {w : Wd} {post : Option Value → Wd → Prop}
theorem r_ireturn {v : Int32} {ty : FieldType} (X : Cx E M own cc nL rm (some ty) nm) (hd : decode cc pc = .ok (.ireturn, 1)) (hn : narrow ty (.int v) = .int v) (hc : cells ≤ rm.cells) (hs : slots ≤ rm.slots) (hq : post (some (.int v)) w) : G E M cells slots (qQ E M rm post) pc L [.int v] w :=
  fun H locs ls hR hl hls => W.widen hc hs (W.zret X.hx X.hb X.hret hn (fun t ht _ => ⟨_, w, rfl, hq, by rw [ht]; exact hR⟩) hl hd X.hlocks)
theorem r_return (X : Cx E M own cc nL rm none nm) (hd : decode cc pc = .ok (.return_, 1)) (hc : cells ≤ rm.cells) (hs : slots ≤ rm.slots) (hq : post none w) : G E M cells slots (qQ E M rm post) pc L [] w :=
  fun H locs ls hR hl hls => W.widen hc hs (W.vret X.hx X.hb X.hret (fun t ht _ => ⟨_, w, rfl, hq, by rw [ht]; exact hR⟩) hl hd X.hlocks)
theorem r_lreturn {v : Int64} (X : Cx E M own cc nL rm (some .long) nm) (hd : decode cc pc = .ok (.lreturn, 1)) (hc : cells ≤ rm.cells) (hs : slots ≤ rm.slots) (hq : post (some (.long v)) w) : G E M cells slots (qQ E M rm post) pc L [.long v] w :=
  fun H locs ls hR hl hls => W.widen hc hs (W.lret X.hx X.hb X.hret (fun t ht _ => ⟨_, w, rfl, hq, by rw [ht]; exact hR⟩) hl hd X.hlocks)
theorem r_areturn {v : Nat} {rt : FieldType} (X : Cx E M own cc nL rm (some rt) nm) (hd : decode cc pc = .ok (.areturn, 1)) (hrt : (∃ n, rt = .object n) ∨ ∃ t, rt = .array t) (hc : cells ≤ rm.cells) (hs : slots ≤ rm.slots) (hq : post (some (.ref v)) w) : G E M cells slots (qQ E M rm post) pc L [.ref v] w :=
  fun H locs ls hR hl hls => W.widen hc hs (W.aret X.hx X.hb X.hret hrt (Or.inr ⟨_, rfl⟩) (fun t ht _ => ⟨_, w, rfl, hq, by rw [ht]; exact hR⟩) hl hd X.hlocks)
end RT
theorem Ct.mono {E : Ev} {y : MethodName} {cc : ByteArray} {nL : Nat} {ret : Option FieldType} {rm : Room} {As : List Value} {w : Wd} {post post' : Option Value → Wd → Prop} (h : Ct E y cc nL ret rm As w post) (hp : ∀ v w, post v w → post' v w) : Ct E y cc nL ret rm As w post' := by
  intro l p e ha hc hk s m args below hf hap hP hK
  obtain ⟨k, o, h1, h2, h3, ⟨v, w', e1, e2, e3⟩, e4⟩ := h l p e ha hc hk s m args below hf hap hP hK
  exact ⟨k, o, h1, h2, h3, ⟨v, w', e1, hp v w' e2, e3⟩, e4⟩
/-- a method's own words: its code, its class ready, its parameters -/
def CWd (y : MethodName) (cc : ByteArray) (nL : Nat) (ret : Option FieldType) (n : Nat) : Prop := Cond.code y cc nL ret ∈ lw_tbl ∧ Cond.initialized y.cls ∈ lw_tbl ∧ (y.cls ≠ "java/lang/invoke/MethodHandle" ∧ y.cls ≠ "java/lang/invoke/VarHandle") ∧ (parseMethodDescriptor y.desc).map (fun d => d.parameters.length) = some n
def MLk (own : String) (idx : Nat) (y : MethodName) : Prop := Cond.methodLink own idx y ∈ lw_tbl ∨ ∃ host, Cond.methodLinkNest own idx y host ∈ lw_tbl
def VLk (own : String) (idx : Nat) (y : MethodName) : Prop := MLk own idx y ∧ Cond.instanceMethod y ∈ lw_tbl ∧ Cond.selects y.cls y y ∈ lw_tbl
def SLk (own : String) (idx : Nat) (y : MethodName) : Prop := MLk own idx y ∧ Cond.static y ∈ lw_tbl
def ILk (own : String) (idx : Nat) (y : MethodName) : Prop := MLk own idx y ∧ Cond.instanceMethod y ∈ lw_tbl ∧ y.name = "<init>"
section CL
variable {E : Ev} {M : Mc} {own : String} {cc : ByteArray} {nL : Nat} {rm : Room} {ret : Option FieldType} {nm : String} {cells slots : Nat} {Q : State → Prop} {pc : Nat} {L : List (Option Value)} {st : List Value} {w : Wd} {post : Option Value → Wd → Prop} {H : Heap} {locs : List Loc} {ls : Array Slot}
variable {y : MethodName} {bytes : ByteArray} {maxL n idx : Nat} {rt : Option FieldType} {rm' : Room} {As : List Value} {b : Nat}
theorem Pq.blind : FrameBlind (Pq E As w) := fun _ _ _ _ h => h
theorem Cx.cw (X : Cx E M own cc nL rm ret nm) (hw : CWd y bytes maxL rt n) : (∀ w ∈ [Cond.code y bytes maxL rt], ∀ (a' : Array Value) (U : State), (mS M).WarmedH U.vm → w.before a' U = true) ∧ (Cond.code y bytes maxL rt).before (mA M) (mS M) = true ∧ (Cond.initialized y.cls).before (mA M) (mS M) = true ∧ (∀ sig, parseMethodDescriptor y.desc = some sig → n = sig.parameters.length) := by
  refine ⟨fun w hm a' U hW => ?_, X.word hw.1 (Or.inl rfl), X.word hw.2.1 (Or.inl rfl), fun sig h => ?_⟩
  · rw [List.mem_singleton.mp hm]
    exact X.glob.word (State.WarmedH.trans X.warm hW) hw.1 (Or.inl rfl)
  · have h2 := hw.2.2.2
    rw [h] at h2
    exact (Option.some.inj h2).symm
theorem run_core {st0 : List Value} {mc ms : Nat} {a : Array Value} (hrun : va_Run (mP M) (mL M) (mE M) (mR M) (mS M) (mM M) (mA M) (mB M) (mT M) (mC M) H locs cells slots mc ms (F0 (mM M) pc ls st0) st (Qq E post a) (fun q => eB E ≤ q)) (hl : ∀ q ∈ locs, eB E ≤ q.base) (hls : lok (mC M).maxLocals ls L)
    (kk : ∀ v w', post v w' → G E M (cells + mc) (slots + ms) Q (pc + 3) L (v.toList ++ st) w') : WW M H locs cells slots Q (F0 (mM M) pc ls st0) := by
  intro T hT X
  obtain ⟨v, st₀, t, T', L', h0, X', hL, e1, e2, ⟨v', w', ho, hp, hRw⟩, hgo⟩ := hrun T hT X
  cases ho
  obtain ⟨t2, a1, b1⟩ := kk v w' hp T'.heap (locs ++ L') ls (by rw [e1]; exact hRw) (fun q hq => (List.mem_append.mp hq).elim (hl q) (hL q)) hls T' rfl X'
  exact ⟨t2, hgo t2 a1, b1⟩
theorem room_ok (X : Cx E M own cc nL rm ret nm) (hr : rm'.frames + 1 ≤ rm.frames ∧ 19 + maxL + rm'.locals ≤ rm.locals) : rm'.frames + 1 ≤ (mR M).frames ∧ 8 + (maxL + 11) + rm'.locals ≤ (mR M).locals := by
  rw [X.room]
  exact ⟨hr.1, by omega⟩
theorem r_callV {ci nb : Nat} {r : vw_C} (X : Cx E M own cc nL rm ret nm) (hd : decode cc pc = .ok (.invokevirtual idx, 3)) (hlk : VLk own idx y) (hw : CWd y bytes maxL rt n) (hct : Ct E y bytes maxL rt rm' (.ref b :: As) w post) (hs : w.1 b = some (ci, nb)) (hr : kCl[ci]? = some r) (hcl : r.1 = y.cls) (hn : As.length = n) (hst : (st.map fun v => v.category).sum ≤ 8) (hrm : rm'.frames + 1 ≤ rm.frames ∧ 19 + maxL + rm'.locals ≤ rm.locals) (hf : cells + rm'.cells ≤ rm.cells ∧ slots + rm'.slots ≤ rm.slots)
    (kk : ∀ v w', post v w' → G E M (cells + rm'.cells) (slots + rm'.slots) Q (pc + 3) L (v.toList ++ st) w') : G E M cells slots Q pc L (As.reverse ++ .ref b :: st) w := by
  intro H locs ls hR hl hls
  obtain ⟨h1, h2, h3, h4⟩ := X.cw hw
  obtain ⟨-, cell, g1, g2, g3, -⟩ := hR.obj hr hs
  have hp : PreV (mS M) H y.cls b (Pq E (.ref b :: As) w) As := ⟨Pq.blind, ⟨cell, g1, by rw [g3]; rfl, by rw [g2, ← hcl]; exact (X.kn hr).2.1⟩, fun U hU hW => ⟨rfl, State.WarmedH.trans X.warm hW, by rw [hU]; exact hR⟩⟩
  have S : CallFix (mP M) (mM M) (mC M) cc nL (mS M) (mA M) [] own := ⟨X.hx, X.hb, X.hml, X.hown, fun w h => by cases h⟩
  have hrm2 := room_ok X hrm
  have hf2 : cells + rm'.cells ≤ (mR M).cells ∧ slots + rm'.slots ≤ (mR M).slots := by rw [X.room]; exact hf
  have hsel := X.word (a' := mA M) hlk.2.2 (Or.inl rfl)
  have hin := X.word (a' := mA M) hlk.2.1 (Or.inl rfl)
  have hsz : (F0 (mM M) pc ls (As.reverse ++ .ref b :: st)).locals.size = nL := hls.1.trans X.hml
  rcases hlk.1 with h | ⟨host, h⟩
  · exact run_core (va_runV (As := As) (rest := st) (n := n) S (hct _) ⟨⟨rfl, rfl, hrm2.1, hrm2.2, h1, List.mem_cons_self, h2, h3, hw.2.2.1, h4, X.word h (Or.inl rfl)⟩, hin, hsel⟩ hp rfl hn hsz rfl (lv_room hst) hd hf2) hl hls kk
  · exact run_core (va_runVN (As := As) (rest := st) (n := n) S (hct _) ⟨⟨⟨rfl, rfl, hrm2.1, hrm2.2, h1, List.mem_cons_self⟩, h2, h3, hw.2.2.1, h4, X.nestM h⟩, hin, hsel⟩ hp rfl hn hsz rfl (lv_room hst) hd hf2) hl hls kk
theorem r_callS (X : Cx E M own cc nL rm ret nm) (hd : decode cc pc = .ok (.invokestatic idx, 3)) (hlk : SLk own idx y) (hw : CWd y bytes maxL rt n) (hct : Ct E y bytes maxL rt rm' As w post) (hn : As.length = n) (hst : (st.map fun v => v.category).sum ≤ 8) (hrm : rm'.frames + 1 ≤ rm.frames ∧ 19 + maxL + rm'.locals ≤ rm.locals) (hf : cells + rm'.cells ≤ rm.cells ∧ slots + rm'.slots ≤ rm.slots)
    (kk : ∀ v w', post v w' → G E M (cells + rm'.cells) (slots + rm'.slots) Q (pc + 3) L (v.toList ++ st) w') : G E M cells slots Q pc L (As.reverse ++ st) w := by
  intro H locs ls hR hl hls
  obtain ⟨h1, h2, h3, h4⟩ := X.cw hw
  have hp : PreS (mS M) H (Pq E As w) As := ⟨Pq.blind, fun U hU hW => ⟨rfl, State.WarmedH.trans X.warm hW, by rw [hU]; exact hR⟩⟩
  have S : CallFix (mP M) (mM M) (mC M) cc nL (mS M) (mA M) [] own := ⟨X.hx, X.hb, X.hml, X.hown, fun w h => by cases h⟩
  have hrm2 := room_ok X hrm
  have hf2 : cells + rm'.cells ≤ (mR M).cells ∧ slots + rm'.slots ≤ (mR M).slots := by rw [X.room]; exact hf
  have hstat := X.word (a' := mA M) hlk.2 (Or.inl rfl)
  have hsz : (F0 (mM M) pc ls (As.reverse ++ st)).locals.size = nL := hls.1.trans X.hml
  rcases hlk.1 with h | ⟨host, h⟩
  · exact run_core (va_runS (As := As) (rest := st) (n := n) S (hct _) ⟨⟨rfl, rfl, hrm2.1, hrm2.2, h1, List.mem_cons_self, h2, h3, hw.2.2.1, h4, X.word h (Or.inl rfl)⟩, hstat⟩ hp rfl hn hsz rfl (lv_room hst) hd hf2) hl hls kk
  · exact run_core (va_runSN (As := As) (rest := st) (n := n) S (hct _) ⟨⟨⟨rfl, rfl, hrm2.1, hrm2.2, h1, List.mem_cons_self⟩, h2, h3, hw.2.2.1, h4, X.nestM h⟩, hstat, trivial⟩ hp rfl hn hsz rfl (lv_room hst) hd hf2) hl hls kk
theorem r_callI (X : Cx E M own cc nL rm ret nm) (hd : decode cc pc = .ok (.invokespecial idx, 3)) (hlk : ILk own idx y) (hw : CWd y bytes maxL none n) (hct : Ct E y bytes maxL none rm' (.ref b :: As) w post) (hn : As.length = n) (hst : (st.map fun v => v.category).sum ≤ 8) (hrm : rm'.frames + 1 ≤ rm.frames ∧ 19 + maxL + rm'.locals ≤ rm.locals) (hf : cells + rm'.cells ≤ rm.cells ∧ slots + rm'.slots ≤ rm.slots)
    (kk : ∀ v w', post v w' → G E M (cells + rm'.cells) (slots + rm'.slots) Q (pc + 3) L (v.toList ++ st) w') : G E M cells slots Q pc L (As.reverse ++ .ref b :: st) w := by
  intro H locs ls hR hl hls
  obtain ⟨h1, h2, h3, h4⟩ := X.cw hw
  have hp : PreS (mS M) H (Pq E (.ref b :: As) w) (.ref b :: As) := ⟨Pq.blind, fun U hU hW => ⟨rfl, State.WarmedH.trans X.warm hW, by rw [hU]; exact hR⟩⟩
  have S : CallFix (mP M) (mM M) (mC M) cc nL (mS M) (mA M) [] own := ⟨X.hx, X.hb, X.hml, X.hown, fun w h => by cases h⟩
  have hrm2 := room_ok X hrm
  have hf2 : cells + rm'.cells ≤ (mR M).cells ∧ slots + rm'.slots ≤ (mR M).slots := by rw [X.room]; exact hf
  have hin := X.word (a' := mA M) hlk.2.1 (Or.inl rfl)
  have hsz : (F0 (mM M) pc ls (As.reverse ++ .ref b :: st)).locals.size = nL := hls.1.trans X.hml
  rcases hlk.1 with h | ⟨host, h⟩
  · exact run_core (va_runI (As := As) (rest := st) (n := n) S (hct _) ⟨⟨rfl, rfl, hrm2.1, hrm2.2, h1, List.mem_cons_self, h2, h3, hw.2.2.1, h4, X.word h (Or.inl rfl)⟩, hlk.2.2, hin⟩ hp rfl hn hsz rfl (lv_room hst) hd hf2) hl hls kk
  · exact run_core (va_runIN (As := As) (rest := st) (n := n) S (hct _) ⟨⟨⟨rfl, rfl, hrm2.1, hrm2.2, h1, List.mem_cons_self⟩, h2, h3, hw.2.2.1, h4, X.nestM h⟩, hlk.2.2, hin⟩ hp rfl hn hsz rfl (lv_room hst) hd hf2) hl hls kk
end CL
