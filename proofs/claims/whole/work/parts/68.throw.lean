/-! ===== throws: an exception of the program's own, out of methods, into a handler ===== -/
/-- the search of a frame's handlers ends so, and leaves these tables -/
def xFinds (e : Env) (s : State) (f : JFrame) (a : Addr) (h : Handler) (vm' : Vm) : Prop := ∀ (Q : Handler → Pre) (E : CtlPost) (d : Bool) (acts : List Action), wp (findHandler f a) Q E e d acts s ↔ Q h d acts (s.setVm vm')
theorem xFinds_one {e : Env} {s : State} {f : JFrame} {a : Addr} {meth : Method} {code : Code} {x : ExceptionTableEntry} {k : ClassId} {cell : Cell} (hm : s.vm.method? f.method = some meth) (hc : meth.code = some code) (hone : code.exceptionTable.toList = [x]) (hx : covers x f.pc = true) (h0 : x.catchType ≠ 0)
    (hl : s.vm.ClassLinks e.platform f.method.cls x.catchType k) (hcell : s.heap[a]? = some cell) (hobj : ∀ q, cell.vm ≠ .statics q) (hk : ∃ q, s.vm.classes[cell.cls]? = some q) (hck : ∃ q, s.vm.classes[k]? = some q) (hfit : s.vm.assignable cell.cls k = true) :
    xFinds e s f a (.found x.handlerPc) (s.vm.noted f.method.cls x.catchType (.cls k)) := by
  intro Q E d acts
  rw [W.findHandler_eq hm hc, hone]
  simp only [covers] at hx
  obtain ⟨ha, ht⟩ := (resolveClass_links e.toSetting hl).op (op := VmOp.resolveClass f.method.cls x.catchType) rfl
  have hal : s.vm.Alike (s.vm.noted f.method.cls x.catchType (.cls k)) := (Vm.Alike.refl s.vm).noted _ _ _
  obtain ⟨k1, hk1⟩ := hk
  obtain ⟨k2, hk2⟩ := hck
  obtain ⟨k1', hk1', -⟩ := hal.2.2 _ _ hk1
  obtain ⟨k2', hk2', -⟩ := hal.2.2 _ _ hk2
  have hfit' : (s.vm.noted f.method.cls x.catchType (.cls k)).assignable cell.cls k = true := by rw [hal.assignable]; exact hfit
  simp [findHandler.go, hx, h0, ha, ht, hcell, hobj, hk1', hk2', hfit', VmOp.dirties, VmOp.acts]
theorem xCaught {tb : Tables} {e : Env} {s target : State} {g : JFrame} {c : Code} {below : List Frame} {a : Addr} {pc : Nat} {vm' : Vm} (h : At s g.method c below) (hf : xFinds e ((s.setTop g).pushFrame (.throwing a)) g a (.found pc) vm') (hr : Steps tb e below ((s.setVm vm').setTop { g with pc := pc, stack := [.ref a] }) target) : Steps tb e below ((s.setTop g).pushFrame (.throwing a)) target := by
  obtain ⟨hgo, hw⟩ := h.throwing a
  refine Steps.head hgo hw ?_
  obtain ⟨g₀, hg⟩ := Option.isSome_iff_exists.mp h.top
  obtain ⟨r, hfr⟩ := State.topJava?_eq_some.mp hg
  have hst : (stepThrowing e ((s.setTop g).pushFrame (.throwing a)) a (.java g :: r)).Is ((((s.setTop g).pushFrame (.throwing a)).setVm vm').setFrames (.java { g with pc := pc, stack := [.ref a] } :: r)) [] := by
    simp only [stepThrowing, searchFrame, vmDo]
    generalize hres : Sem.go _ e false [] ((s.setTop g).pushFrame (.throwing a)) = res
    obtain ⟨as, rfl, ha⟩ := Sem.eq_ok_of hres (a := Handler.found pc) (s' := ((s.setTop g).pushFrame (.throwing a)).setVm vm') (acts' := []) (by simp [hf _ _ _ _])
    exact ⟨rfl, ha⟩
  rw [stepThread_throwing (frames_entered h.top _), hfr, List.tail_cons, hst.1]
  have hfr' : (s.setVm vm').frames = .java g₀ :: r := hfr
  rw [State.setTop_of_frames _ hfr'] at hr
  have sv : ∀ (u : State) (F : List Frame), (u.setFrames F).setVm vm' = (u.setVm vm').setFrames F := fun _ _ => rfl
  rw [State.pushFrame, State.setTop_of_frames _ hfr, sv, State.setFrames_setFrames, sv, State.setFrames_setFrames]
  exact hr
/-- what an invocation has moved, however it ended -/
def FrE (first t : State) (L : List Loc) (k n : Nat) : Prop := first.WarmedH t.vm ∧ first.sameButNew ({ t with vm := first.vm } : State) L k n
def Qx (E : Ev) (rm : Room) (post : Outcome → Wd → Prop) : Array Value → State → Outcome → State → Prop := fun _ st o t => (∃ w, post o w ∧ Rw E w t.heap) ∧ ∃ L, FrE st t L rm.cells rm.slots ∧ ∀ q ∈ L, eB E ≤ q.base
/-- the method y, called with As in the world w, returns or throws, with post of the outcome and the world -/
def CtX (E : Ev) (y : MethodName) (cc : ByteArray) (nL : Nat) (ret : Option FieldType) (rm : Room) (As : List Value) (w : Wd) (post : Outcome → Wd → Prop) : Prop :=
  ∀ l : Launch, MetFree l y (D.headSpec [.code y cc nL ret] rm) (Pq E As w) (fun _ _ _ _ _ => True) (Qx E rm post)
def qX (E : Ev) (M : Mc) (rm : Room) (post : Outcome → Wd → Prop) : State → Prop := fun t => ∃ o, t.status = .running ∧ Ended t (mB M) o ∧ Qx E rm post (mA M) (mS M) o t
theorem G.toX {E : Ev} {M : Mc} {cells slots : Nat} {rm : Room} {post : Outcome → Wd → Prop} {pc : Nat} {L : List (Option Value)} {st : List Value} {w : Wd} (h : G E M cells slots (qQ E M rm (fun v w => post (.returned v) w)) pc L st w) : G E M cells slots (qX E M rm post) pc L st w := by
  intro H locs ls hR hl hls T hT X
  obtain ⟨t, a1, o, b1, b2, ⟨v, w', rfl, b3, b4⟩, L', b5, b6⟩ := h H locs ls hR hl hls T hT X
  exact ⟨t, a1, _, b1, b2, ⟨w', b3, b4⟩, L', b5.2, b6⟩
theorem CtX.start {E : Ev} {y : MethodName} {cc : ByteArray} {nL : Nat} {ret : Option FieldType} {rm : Room} {As : List Value} {w : Wd} {post : Outcome → Wd → Prop} (GE : Glob E) (hy : plainName y.cls = true) (hc : (As.all fun v => v.category == 1) = true) (hn : As.length ≤ nL)
    (body : ∀ M : Mc, Cx E M y.cls cc nL rm ret y.name → (mC M).exceptionTable.isEmpty = true → G E M 0 0 (qX E M rm post) 0 (ents As nL) [] w) : CtX E y cc nL ret rm As w post := by
  intro l
  refine MetFree.of_bodyS (code := cc) (maxLocals := nL) (ret := ret) hy ?_ ?_
  · intro args s m h hnm
    obtain ⟨meth, c, h1, h2, h3, h4, h5, h6, -, -⟩ := Cond.code_spec hnm (atoms_spec (ws := [.code y cc nL ret]) h _ List.mem_cons_self)
    exact ⟨meth, c, h1, h2, h3, h4, h5, h6⟩
  · intro p e s m args below meth c s₁ B hml hv _
    obtain ⟨rfl, hW, hR⟩ := hv
    have X : Cx E (p, l, e, (D.headSpec [Cond.code y cc nL ret] rm).room, s, m, As.toArray, below, meth, c) y.cls cc nL rm ret y.name := ⟨GE, hW, B.exec, B.bytes, hml, findClass_of_methodNamed B.named, B.notSynchronized, rfl, B.returns, (name_of_methodNamed B.named B.method).1⟩
    have hexc : c.exceptionTable.isEmpty = true := B.noHandlers (atoms_spec (ws := [.code y cc nL ret]) B.pre _ List.mem_cons_self)
    have h := body _ X hexc
    have hh0 : s₁.heap = s.heap := by rw [B.state]; rfl
    have hlok : lok (mC (p, l, e, (D.headSpec [Cond.code y cc nL ret] rm).room, s, m, As.toArray, below, meth, c)).maxLocals (entryFrame m As.toArray nL).locals (ents As nL) := by
      rw [lg_entry_eq]
      have he := lv_entry As (n := nL) (by rw [lg_sl_len As hc]; exact hn)
      refine ⟨by rw [show (mC _).maxLocals = nL from hml]; exact he.1, he.2.1, fun i v hi => ?_⟩
      unfold ents at hi
      by_cases hlt : i < As.length
      · rw [List.getElem?_append_left (by simpa using hlt)] at hi
        have h2 : As[i]? = some v := by simpa using hi
        have := he.2.2 _ (lv_args_cat1 As 0 i v hc h2)
        simpa using this
      · rw [List.getElem?_append_right (by simp; omega)] at hi
        rw [List.getElem?_replicate] at hi
        split at hi
        · cases hi
        · cases hi
    have h2 := h s.heap [] _ hR (fun q hq => by cases hq) hlok s₁ hh0 (Stand.of_body B)
    obtain ⟨t, a1, o, b1, b2, b3⟩ := h2
    refine ⟨t, o, ?_, b1, b2, b3⟩
    exact a1
/-- the note of x lies over the method's own frame, at pc -/
def GT (E : Ev) (M : Mc) (cells slots : Nat) (Q : State → Prop) (pc : Nat) (L : List (Option Value)) (st : List Value) (x : Addr) (w : Wd) : Prop :=
  ∀ (H : Heap) (locs : List Loc) (ls : Array Slot), Rw E w H → (∀ q ∈ locs, eB E ≤ q.base) → lok (mC M).maxLocals ls L → ∀ T : State, T.heap = H → Stand (mP M) (mL M) (mE M) (mR M) (mS M) (mM M) (mA M) (mB M) (mT M) (mC M) T locs cells slots → ∃ t, Steps (mP M).tables (mE M) (mB M) ((T.setTop (F0 (mM M) pc ls st)).pushFrame (.throwing x)) t ∧ Q t
section TH
variable {E : Ev} {M : Mc} {own : String} {cc : ByteArray} {nL : Nat} {rm : Room} {ret : Option FieldType} {nm : String} {cells slots : Nat} {Q : State → Prop} {pc : Nat} {L : List (Option Value)} {st : List Value} {w : Wd} {post : Outcome → Wd → Prop} {x : Addr}
theorem no_cover {c : Code} (h : c.exceptionTable.isEmpty = true) (pc : Nat) : ∀ y ∈ c.exceptionTable.toList, covers y pc = false := by
  intro y hy
  have h0 : c.exceptionTable.size = 0 := by simpa [Array.isEmpty] using h
  have h1 : c.exceptionTable.toList = [] := List.eq_nil_of_length_eq_zero (by simpa using h0)
  rw [h1] at hy
  cases hy
theorem FrE.wide {first t : State} {L : List Loc} {k n k' n' : Nat} (h : FrE first t L k n) (hk : k ≤ k') (hn : n ≤ n') : FrE first t L k' n' := by
  obtain ⟨a, b1, b2, b3, b4, b5, b6⟩ := h
  exact ⟨a, b1, b2, Nat.le_trans b3 (by omega), b4, Nat.le_trans b5 hn, b6⟩
theorem t_leave (X : Cx E M own cc nL rm ret nm) (hx : (mC M).exceptionTable.isEmpty = true) (hc : cells ≤ rm.cells) (hs : slots ≤ rm.slots) (hq : post (.threw x) w) : GT E M cells slots (qX E M rm post) pc L st x w := by
  intro H locs ls hR hl hls T hT S
  obtain ⟨a1, a2, a3, a4, a5⟩ := S.leaveThrown x (g := F0 (mM M) pc ls st) rfl rfl rfl (no_cover hx _) X.hlocks
  exact ⟨_, a1, _, a2, a3, ⟨w, hq, by show Rw E w T.heap; rw [hT]; exact hR⟩, locs, FrE.wide ⟨a4, a5⟩ hc hs, hl⟩
theorem t_athrow (X : Cx E M own cc nL rm ret nm) (hd : decode cc pc = .ok (.athrow, 1)) (hx : (mC M).exceptionTable.isEmpty = true) (hc : cells ≤ rm.cells) (hs : slots ≤ rm.slots) (hq : post (.threw x) w) : G E M cells slots (qX E M rm post) pc L (.ref x :: st) w := by
  intro H locs ls hR hl hls T hT S
  obtain ⟨a1, a2, a3, a4, a5⟩ := S.athrowLeaves X.hx (g := F0 (mM M) pc ls (.ref x :: st)) rfl rfl rfl (no_cover hx _) rfl (by rw [X.hb]; exact hd) X.hlocks
  exact ⟨_, a1, _, a2, a3, ⟨w, hq, by show Rw E w T.heap; rw [hT]; exact hR⟩, locs, FrE.wide ⟨a4, a5⟩ hc hs, hl⟩
end TH
/-- an invocation of y by its contract: it comes back, or its note lies over the frame -/
theorem xBack {p : Program} {l : Launch} {e : Env} {R : Room} {s : State} {m : MethodId} {args : Array Value} {below : List Frame} {meth : Method} {c : Code} {U : State} {locs : List Loc} {cells slots : Nat} (X : Stand p l e R s m args below meth c U locs cells slots)
    {y : MethodName} {S : Spec} {P : Array Value → State → Prop} {Q : Array Value → State → Outcome → State → Prop} {bytes : ByteArray} {maxL len k n : Nat} {ret : Option FieldType} {free : Addr → Prop} {g : JFrame} {ig : Instr} {mk : MethodId} {a : Array Value}
    (hM : MetFree l y S P (fun _ _ _ _ _ => True) Q) (hg : g.method = m) (hsize : g.locals.size = c.maxLocals) (hdg : decode c.code g.pc = .ok (ig, len)) (hn : U.methodNamed? y = some mk) (hfr : S.room.frames + 1 ≤ R.frames) (hlo : 2 * g.monitorRoom + (g.stack.map fun v => v.category).sum + (maxL + 11) + S.room.locals ≤ R.locals) (hce : cells + S.room.cells ≤ R.cells) (hsl : slots + S.room.slots ≤ R.slots)
    (hpre : S.pre.before a U = true) (hcode : (Cond.code y bytes maxL ret).before a U = true) (hini : (Cond.initialized y.cls).before a U = true) (hP : P a (U.calling g mk a)) (hQ : ∀ o t, Q a (U.calling g mk a) o t → ∃ L, FrE (U.calling g mk a) t L k n ∧ ∀ q ∈ L, free q.base) :
    ∃ (o : Outcome) (t T' : State) (L : List Loc), Q a (U.calling g mk a) o t ∧ (∀ q ∈ L, free q.base) ∧ Stand p l e R s m args below meth c T' (locs ++ L) (cells + k) (slots + n) ∧ T'.heap = t.heap ∧
      (∀ v, o = .returned v → Steps p.tables e below (doInvoke e (U.setTop g) [] mk a).1 (T'.setTop { g with pc := g.pc + len, stack := v.toList ++ g.stack })) ∧
      (∀ x, o = .threw x → Steps p.tables e below (doInvoke e (U.setTop g) [] mk a).1 ((T'.setTop g).pushFrame (.throwing x))) := by
  obtain ⟨mY, cY, hmY, hcY, -, hlY, -, -, -, -⟩ := Cond.code_spec hn hcode
  obtain ⟨kY, hkY, -⟩ := className_of_methodNamed hn
  have hiY : kY.init = .initialized := Cond.initialized_spec (findClass_of_methodNamed hn) hkY hini
  have h : At U g.method c below := by rw [hg]; exact X.here
  have happ : S.appliesLoose y e.platform (U.calling g mk a) = true := Spec.appliesLoose_calling (g := g) h hdg hn hkY hiY (X.room_calling (g := g) (R' := S.room) hsize hmY hcY hfr (by rw [hlY]; omega) hce hsl) hpre
  obtain ⟨mid, hmid⟩ := h.above
  have hfs : (U.setTop g).frames = (.java g :: mid) ++ below := by rw [State.frames_setTop' g h.top, hmid]; rfl
  obtain ⟨o, t, hgo, -, hend, hq⟩ := Steps.callFree hM p X.admits X.cas X.clock (acts := []) hfs happ hP trivial
  have hq' : Q a (U.calling g mk a) o t := hq
  rw [State.frames_setTop' g h.top] at hend
  obtain ⟨L, hF, hL⟩ := hQ o t hq'
  obtain ⟨hW, e2, q2, q3, q4, q5, q6⟩ := id hF
  have hW' : U.WarmedH t.vm := hW
  obtain ⟨g₀, hg0⟩ := Option.isSome_iff_exists.mp h.top
  obtain ⟨r, hr⟩ := State.topJava?_eq_some.mp hg0
  have e3 : t = ({ (U.calling g mk a).setFrames t.frames with heap := t.heap, slotsUsed := t.slotsUsed } : State).setVm t.vm := by
    have z : t = ({ t with vm := (U.calling g mk a).vm } : State).setVm t.vm := rfl
    rw [e2] at z
    exact z
  generalize hT' : ({ U with heap := t.heap, slotsUsed := t.slotsUsed } : State).setVm t.vm = T'
  have hrT : T'.frames = .java g₀ :: r := by rw [← hT']; exact hr
  have hsame : U.sameButNew ({ U with heap := t.heap, slotsUsed := t.slotsUsed } : State) L k n := by
    refine ⟨?_, q2, q3, q4, q5, q6⟩
    obtain ⟨t9, ht9, -⟩ := State.frames_cons hr
    show ({ U with heap := t.heap, slotsUsed := t.slotsUsed } : State) = { U.setFrames U.frames with heap := t.heap, slotsUsed := t.slotsUsed }
    rw [State.setFrames_self ht9]
  subst hg
  refine ⟨o, t, T', L, hq', hL, ?_, by rw [← hT']; rfl, fun v hv => ?_, fun x hx => ?_⟩
  · rw [← hT']
    exact ⟨X.admits, X.cas, X.clock, X.frames, X.room, X.hears, X.method, X.code, (X.here.setHeapUsed t.heap t.slotsUsed).setVm hW'.alike, X.tail, State.WarmedH.trans X.warmed hW', X.limits, X.bytes, X.same.trans (hsame.setVm s.vm)⟩
  · subst hv
    obtain ⟨c₂, i₂, len₂, hc₂, hd₂, hf₂⟩ := hend
    have hcc : c₂ = c := by
      have h1 : t.code? g.method = U.code? g.method := by rw [State.code?_eq, State.code?_eq, hW'.alike.method?]
      exact Option.some.inj (hc₂.symm.trans (h1.trans h.code))
    subst hcc
    have hlen : len₂ = len := by rw [hdg] at hd₂; cases hd₂; rfl
    subst hlen
    have hs : t = T'.setTop { g with pc := g.pc + len₂, stack := v.toList ++ g.stack } := by
      refine e3.trans ?_
      rw [hf₂, State.calling_eq h.top, State.setFrames_setFrames, State.setTop_of_frames _ hrT, hr, ← hT']
      rfl
    rw [← hs]
    exact hgo
  · subst hx
    have hf₂ : t.frames = .throwing x :: .java g :: U.frames.tail := hend
    have hs : t = (T'.setTop g).pushFrame (.throwing x) := by
      refine e3.trans ?_
      rw [hf₂, State.calling_eq h.top, State.setFrames_setFrames, State.pushFrame, State.frames_setTop _ hrT, State.setTop_of_frames _ hrT, State.setFrames_setFrames, hr, ← hT']
      rfl
    rw [← hs]
    exact hgo
section TC
variable {E : Ev} {M : Mc} {own : String} {cc : ByteArray} {nL : Nat} {rm : Room} {ret : Option FieldType} {nm : String} {cells slots : Nat} {Q : State → Prop} {pc : Nat} {L : List (Option Value)} {st : List Value} {w : Wd} {post : Outcome → Wd → Prop}
variable {y : MethodName} {bytes : ByteArray} {maxL n idx : Nat} {rt : Option FieldType} {rm' : Room} {As : List Value} {b : Nat}
theorem t_callV {ci nb : Nat} {r : vw_C} (X : Cx E M own cc nL rm ret nm) (hd : decode cc pc = .ok (.invokevirtual idx, 3)) (hml : Cond.methodLink own idx y ∈ lw_tbl) (hin : Cond.instanceMethod y ∈ lw_tbl) (hsl : Cond.selects y.cls y y ∈ lw_tbl) (hw : CWd y bytes maxL rt n) (hct : CtX E y bytes maxL rt rm' (.ref b :: As) w post) (hs : w.1 b = some (ci, nb)) (hr : kCl[ci]? = some r) (hcl : r.1 = y.cls) (hn : As.length = n) (hst : (st.map fun v => v.category).sum ≤ 8) (hrm : rm'.frames + 1 ≤ rm.frames ∧ 19 + maxL + rm'.locals ≤ rm.locals) (hf : cells + rm'.cells ≤ rm.cells ∧ slots + rm'.slots ≤ rm.slots)
    (kr : ∀ v w', post (.returned v) w' → G E M (cells + rm'.cells) (slots + rm'.slots) Q (pc + 3) L (v.toList ++ st) w') (kt : ∀ x w', post (.threw x) w' → GT E M (cells + rm'.cells) (slots + rm'.slots) Q pc L st x w') : G E M cells slots Q pc L (As.reverse ++ .ref b :: st) w := by
  intro H locs ls hR hl hls T hT S
  obtain ⟨h1, h2, h3, h4⟩ := X.cw hw
  obtain ⟨-, cell, g1, g2, g3, -⟩ := hR.obj hr hs
  have hcls : (mS M).vm.findClass y.cls = some cell.cls := by rw [g2, ← hcl]; exact (X.kn hr).2.1
  obtain ⟨mk, methM, hnamed, hmethM, hstM, habM⟩ := Cond.instanceMethod_spec (X.word (a' := mA M) hin (Or.inl rfl))
  obtain ⟨methM', cM, hmethM', -, -, -, -, -, -, hsigM⟩ := Cond.code_spec hnamed h2
  cases hmethM.symm.trans hmethM'
  obtain ⟨c2, r2, m2, q1, q2, q3, q4, kP, hkP, hkPi⟩ := Cond.selects_spec (X.word (a' := mA M) hsl (Or.inl rfl))
  cases hcls.symm.trans q1
  cases (State.methodFound?_of_named hnamed hw.2.2.1).symm.trans q2
  cases hnamed.symm.trans q3
  have hselP : selectMethod (mE M).platform (mS M).vm cell.cls mk = .method mk := by rw [Launch.admits_selectMethod S.admits]; exact q4
  obtain ⟨vm₁, X₁, hstep₁⟩ := S.invokevirtual X.hx X.hown (X.word (a' := mA M) hml (Or.inl rfl)) hnamed hmethM hstM hkP hkPi hw.2.2.1 (a := b) (cell := cell) (by rw [hT]; exact g1) (fun z h => by rw [g3] at h; cases h) hselP hmethM habM hkP hkPi (g := F0 (mM M) pc ls (As.reverse ++ .ref b :: st)) rfl (argsL := As) (rest := st) (hn.trans (h4 _ hsigM)) rfl (by rw [X.hb]; exact hd)
  have hrm2 := room_ok X hrm
  have hf2 : cells + rm'.cells ≤ (mR M).cells ∧ slots + rm'.slots ≤ (mR M).slots := by rw [X.room]; exact hf
  have hW1 : E.1.WarmedH (T.setVm vm₁).vm := State.WarmedH.trans X.warm X₁.warmed
  obtain ⟨o, t, T', L', hq, hL', S', hheap, hret, hthr⟩ := xBack X₁ (g := F0 (mM M) pc ls st) (ig := .invokevirtual idx) (len := 3) (mk := mk) (a := (Value.ref b :: As).toArray) (bytes := bytes) (maxL := maxL) (ret := rt) (k := rm'.cells) (n := rm'.slots) (free := fun q => eB E ≤ q) (hct _) rfl hls.1 (by rw [X.hb]; exact hd) (X₁.named hnamed) hrm2.1
    (by have h8 := hrm2.2; have h9 : 2 * (F0 (mM M) pc ls st).monitorRoom + ((F0 (mM M) pc ls st).stack.map fun v => v.category).sum ≤ 8 := lv_room hst; show 2 * (F0 (mM M) pc ls st).monitorRoom + ((F0 (mM M) pc ls st).stack.map fun v => v.category).sum + (maxL + 11) + rm'.locals ≤ _; omega)
    hf2.1 hf2.2 (atoms_intro fun w hw => h1 w hw _ _ X₁.warmed) (h1 _ List.mem_cons_self _ _ X₁.warmed) (X.glob.word hW1 hw.2.1 (Or.inl rfl)) (Pq.blind _ _ _ _ ⟨rfl, hW1, by show Rw E w T.heap; rw [hT]; exact hR⟩) (fun o t h => h.2)
  obtain ⟨⟨w', hp, hRw⟩, -⟩ := hq
  have hl2 : ∀ q ∈ locs ++ L', eB E ≤ q.base := fun q hq => (List.mem_append.mp hq).elim (hl q) (hL' q)
  cases o with
  | returned v =>
    obtain ⟨t2, a1, b1⟩ := kr v w' hp T'.heap (locs ++ L') ls (by rw [hheap]; exact hRw) hl2 hls T' rfl S'
    exact ⟨t2, hstep₁ _ fun acts => by rw [doInvoke_state]; exact (hret v rfl).trans a1, b1⟩
  | threw x =>
    obtain ⟨t2, a1, b1⟩ := kt x w' hp T'.heap (locs ++ L') ls (by rw [hheap]; exact hRw) hl2 hls T' rfl S'
    exact ⟨t2, hstep₁ _ fun acts => by rw [doInvoke_state]; exact (hthr x rfl).trans a1, b1⟩
end TC
section TW
variable {E : Ev} {M : Mc} {own : String} {cc : ByteArray} {nL : Nat} {rm : Room} {ret : Option FieldType} {nm : String} {cells slots : Nat} {Q : State → Prop} {pc : Nat} {L : List (Option Value)} {st : List Value} {w : Wd}
abbrev hTab (M : Mc) : List (Nat × Nat × Nat × Nat) := (mC M).exceptionTable.toList.map fun h => (h.startPc, h.endPc, h.handlerPc, h.catchType)
/-- into the one handler of the method -/
theorem t_catch {ci n x a1 b1 hp ct : Nat} {r : vw_C} (X : Cx E M own cc nL rm ret nm) (htab : hTab M = [(a1, b1, hp, ct)]) (hcov : a1 ≤ pc ∧ pc < b1) (h0 : ct ≠ 0) (hr : kCl[ci]? = some r) (hcl : Cond.classLink own ct r.1 ∈ lw_tbl) (hs : w.1 x = some (ci, n)) (kk : G E M cells slots Q hp L [.ref x] w) : GT E M cells slots Q pc L st x w := by
  intro H locs ls hR hl hls T hT S
  obtain ⟨-, cell, g1, g2, g3, -⟩ := hR.obj hr hs
  have hK := X.kn hr
  obtain ⟨x0, hone⟩ : ∃ x0, (mC M).exceptionTable.toList = [x0] := by
    have h1 := congrArg List.length htab
    rw [hTab, List.length_map] at h1
    exact List.length_eq_one_iff.mp h1
  have hx0 : (x0.startPc, x0.endPc, x0.handlerPc, x0.catchType) = (a1, b1, hp, ct) := by
    have h1 := htab
    rw [hTab, hone] at h1
    exact List.head_eq_of_cons_eq h1
  simp only [Prod.mk.injEq] at hx0
  obtain ⟨e1, e2, e3, e4⟩ := hx0
  have hpl : (mE M).platform.magicAccessors = ({} : Platform).magicAccessors := by rw [S.admits.platform]
  obtain ⟨c', hc', hcl'⟩ := Cond.classLink_spec X.hown (X.word (a' := mA M) hcl (Or.inl rfl)) (mE M).platform hpl
  cases hK.2.1.symm.trans hc'
  obtain ⟨dk, _, _, kt, hdk, _, _, _, _, hkt, _, hopen⟩ := hcl'.here
  have hcl₀ := S.warmed.classLinks hcl'
  have hW' : (mS M).WarmedH (T.vm.noted (mM M).cls ct (.cls (E.2.1 ci))) := S.warmed.noted hdk hopen (State.rightAt_cls hcl')
  have hal := S.warmed.alike
  obtain ⟨kt', hkt', -⟩ := hal.2.2 _ _ hkt
  have hfit : T.vm.assignable cell.cls (E.2.1 ci) = true := by rw [hal.assignable, g2]; exact va_assign hK.2
  have S' := S.noted hW'
  obtain ⟨t2, p1, p2⟩ := kk T.heap locs ls (by rw [hT]; exact hR) hl hls (T.setVm (T.vm.noted (mM M).cls ct (.cls (E.2.1 ci)))) rfl S'
  refine ⟨t2, ?_, p2⟩
  have hfd := xFinds_one (e := mE M) (s := (T.setTop (F0 (mM M) pc ls st)).pushFrame (.throwing x)) (f := F0 (mM M) pc ls st) (a := x) (meth := mT M) (code := mC M) (x := x0) (k := E.2.1 ci) (cell := cell) S.method' S.code hone
    (by rw [covers, e1, e2]; show (decide (a1 ≤ pc) && decide (pc < b1)) = true; rw [decide_eq_true hcov.1, decide_eq_true hcov.2]; rfl) (by rw [e4]; exact h0) (by rw [e4]; exact hcl₀) (by show T.heap[x]? = some cell; rw [hT]; exact g1) (fun q h => by rw [g3] at h; cases h) (by show ∃ q, T.vm.classes[cell.cls]? = some q; rw [g2]; exact ⟨kt', hkt'⟩) ⟨kt', hkt'⟩ hfit
  rw [e3, e4] at hfd
  exact xCaught (g := F0 (mM M) pc ls st) S.here hfd p1
end TW
/-- a method with handlers, that returns -/
def CtW (E : Ev) (y : MethodName) (cc : ByteArray) (nL : Nat) (ret : Option FieldType) (hh : List (Nat × Nat × Nat × Nat)) (rm : Room) (As : List Value) (w : Wd) (post : Option Value → Wd → Prop) : Prop :=
  ∀ l : Launch, Met l y [.codeWith y cc nL ret hh] rm (Pq E As w) (Qq E post) rm.cells rm.slots (fun q => eB E ≤ q)
theorem CtW.start {E : Ev} {y : MethodName} {cc : ByteArray} {nL : Nat} {ret : Option FieldType} {hh : List (Nat × Nat × Nat × Nat)} {rm : Room} {As : List Value} {w : Wd} {post : Option Value → Wd → Prop} (GE : Glob E) (hy : plainName y.cls = true) (hc : (As.all fun v => v.category == 1) = true) (hn : As.length ≤ nL)
    (body : ∀ M : Mc, Cx E M y.cls cc nL rm ret y.name → hTab M = hh → G E M 0 0 (qQ E M rm post) 0 (ents As nL) [] w) : CtW E y cc nL ret hh rm As w post := by
  intro l
  refine va_MetW (cc := cc) (maxL := nL) (ret := ret) (hh := hh) hy rfl ?_
  intro p e s m args below meth c s₁ B hml hv
  obtain ⟨rfl, hW, hR⟩ := hv
  have X : Cx E (p, l, e, (D.headSpec [Cond.codeWith y cc nL ret hh] rm).room, s, m, As.toArray, below, meth, c) y.cls cc nL rm ret y.name := ⟨GE, hW, B.exec, B.bytes, hml, findClass_of_methodNamed B.named, B.notSynchronized, rfl, B.returns, (name_of_methodNamed B.named B.method).1⟩
  have htab : hTab (p, l, e, (D.headSpec [Cond.codeWith y cc nL ret hh] rm).room, s, m, As.toArray, below, meth, c) = hh := by
    obtain ⟨m9, meth9, c9, hn9, h1, h2, -, -, h5, -⟩ := Cond.codeWith_spec (atoms_spec (ws := [.codeWith y cc nL ret hh]) B.pre _ List.mem_cons_self)
    cases B.named.symm.trans hn9
    cases B.method.symm.trans h1
    cases (Stand.of_body B).code.symm.trans h2
    exact h5
  have h := body _ X htab
  rw [lg_entry_eq]
  refine h s.heap [] _ hR (fun q hq => by cases hq) ?_
  have he := lv_entry As (n := nL) (by rw [lg_sl_len As hc]; exact hn)
  refine ⟨by rw [show (mC _).maxLocals = nL from hml]; exact he.1, he.2.1, fun i v hi => ?_⟩
  unfold ents at hi
  by_cases hlt : i < As.length
  · rw [List.getElem?_append_left (by simpa using hlt)] at hi
    have h2 : As[i]? = some v := by simpa using hi
    have := he.2.2 _ (lv_args_cat1 As 0 i v hc h2)
    simpa using this
  · rw [List.getElem?_append_right (by simp; omega)] at hi
    rw [List.getElem?_replicate] at hi
    split at hi
    · cases hi
    · cases hi
def CWh (y : MethodName) (cc : ByteArray) (nL : Nat) (ret : Option FieldType) (hh : List (Nat × Nat × Nat × Nat)) (n : Nat) : Prop := Cond.codeWith y cc nL ret hh ∈ lw_tbl ∧ Cond.initialized y.cls ∈ lw_tbl ∧ (y.cls ≠ "java/lang/invoke/MethodHandle" ∧ y.cls ≠ "java/lang/invoke/VarHandle") ∧ (parseMethodDescriptor y.desc).map (fun d => d.parameters.length) = some n
section TV
variable {E : Ev} {M : Mc} {own : String} {cc : ByteArray} {nL : Nat} {rm : Room} {ret : Option FieldType} {nm : String} {cells slots : Nat} {Q : State → Prop} {pc : Nat} {L : List (Option Value)} {st : List Value} {w : Wd} {post : Option Value → Wd → Prop}
variable {y : MethodName} {bytes : ByteArray} {maxL n idx : Nat} {rt : Option FieldType} {hh : List (Nat × Nat × Nat × Nat)} {rm' : Room} {As : List Value} {b : Nat}
theorem t_callW {ci nb : Nat} {r : vw_C} (X : Cx E M own cc nL rm ret nm) (hd : decode cc pc = .ok (.invokevirtual idx, 3)) (hml : Cond.methodLink own idx y ∈ lw_tbl) (hin : Cond.instanceMethod y ∈ lw_tbl) (hsl : Cond.selects y.cls y y ∈ lw_tbl) (hw : CWh y bytes maxL rt hh n) (hct : CtW E y bytes maxL rt hh rm' (.ref b :: As) w post) (hs : w.1 b = some (ci, nb)) (hr : kCl[ci]? = some r) (hcl : r.1 = y.cls) (hn : As.length = n) (hst : (st.map fun v => v.category).sum ≤ 8) (hrm : rm'.frames + 1 ≤ rm.frames ∧ 19 + maxL + rm'.locals ≤ rm.locals) (hf : cells + rm'.cells ≤ rm.cells ∧ slots + rm'.slots ≤ rm.slots)
    (kk : ∀ v w', post v w' → G E M (cells + rm'.cells) (slots + rm'.slots) Q (pc + 3) L (v.toList ++ st) w') : G E M cells slots Q pc L (As.reverse ++ .ref b :: st) w := by
  intro H locs ls hR hl hls T hT S
  have h2 : (Cond.codeWith y bytes maxL rt hh).before (mA M) (mS M) = true := X.word hw.1 (Or.inl rfl)
  obtain ⟨-, cell, g1, g2, g3, -⟩ := hR.obj hr hs
  have hcls : (mS M).vm.findClass y.cls = some cell.cls := by rw [g2, ← hcl]; exact (X.kn hr).2.1
  obtain ⟨mk, methM, hnamed, hmethM, hstM, habM⟩ := Cond.instanceMethod_spec (X.word (a' := mA M) hin (Or.inl rfl))
  obtain ⟨m9, methM', cM, hn9, hmethM', -, -, -, -, -, -, hsigM⟩ := Cond.codeWith_spec h2
  cases hnamed.symm.trans hn9
  cases hmethM.symm.trans hmethM'
  obtain ⟨c2, r2, m2, q1, q2, q3, q4, kP, hkP, hkPi⟩ := Cond.selects_spec (X.word (a' := mA M) hsl (Or.inl rfl))
  cases hcls.symm.trans q1
  cases (State.methodFound?_of_named hnamed hw.2.2.1).symm.trans q2
  cases hnamed.symm.trans q3
  have hlen : As.length = methM.sig.parameters.length := by
    have h9 := hw.2.2.2
    rw [hsigM] at h9
    exact hn.trans (Option.some.inj h9).symm
  have hselP : selectMethod (mE M).platform (mS M).vm cell.cls mk = .method mk := by rw [Launch.admits_selectMethod S.admits]; exact q4
  obtain ⟨vm₁, X₁, hstep₁⟩ := S.invokevirtual X.hx X.hown (X.word (a' := mA M) hml (Or.inl rfl)) hnamed hmethM hstM hkP hkPi hw.2.2.1 (a := b) (cell := cell) (by rw [hT]; exact g1) (fun z h => by rw [g3] at h; cases h) hselP hmethM habM hkP hkPi (g := F0 (mM M) pc ls (As.reverse ++ .ref b :: st)) rfl (argsL := As) (rest := st) hlen rfl (by rw [X.hb]; exact hd)
  have hrm2 := room_ok X hrm
  have hf2 : cells + rm'.cells ≤ (mR M).cells ∧ slots + rm'.slots ≤ (mR M).slots := by rw [X.room]; exact hf
  have hW1 : E.1.WarmedH (T.setVm vm₁).vm := State.WarmedH.trans X.warm X₁.warmed
  have hB : Back (mL M) (mR M) (mP M) (mE M) (mB M) (mS M) (mA M) y 3 8 (PreOf (mR M) rm'.cells rm'.slots (Pq E (.ref b :: As) w)) (PostOf (Qq E post) rm'.cells rm'.slots (fun q => eB E ≤ q)) :=
    va_backW (bytes := bytes) (maxL := maxL) (ret := rt) (hh := hh) (hct _) Pq.blind rfl rfl hrm2.1 hrm2.2 (fun w hm a' U hW => by rw [List.mem_singleton.mp hm]; exact X.glob.word (State.WarmedH.trans X.warm hW) hw.1 (Or.inl rfl)) List.mem_cons_self (fun a' U hW => X.glob.word (State.WarmedH.trans X.warm hW) hw.2.1 (Or.inl rfl))
  obtain ⟨v, ⟨U', l2, c2', s2⟩, S', ⟨g', mk', t, L', e1, e2, ⟨v', w', ho, hp, hRw⟩, f1, f2, f3, f4⟩, hgo⟩ := hB (mM M) (mT M) (mC M) ⟨T.setVm vm₁, locs, cells, slots⟩ (F0 (mM M) pc ls st) (.invokevirtual idx) mk (Value.ref b :: As).toArray X₁ rfl hls.1 (by rw [X.hb]; exact hd) (lv_room hst) (X₁.named hnamed) ⟨hf2.1, hf2.2, rfl, hW1, by show Rw E w T.heap; rw [hT]; exact hR⟩
  cases ho
  dsimp only [Pt.U, Pt.locs, Pt.cells, Pt.slots] at S' e1 e2 f1 f3 f4 hgo
  subst f1
  subst f3
  subst f4
  obtain ⟨t2, a1, b1⟩ := kk v w' hp U'.heap (locs ++ L') ls (by rw [e1]; exact hRw) (fun q hq => (List.mem_append.mp hq).elim (hl q) (f2 q)) hls U' rfl S'
  exact ⟨t2, hstep₁ _ fun acts => by rw [doInvoke_state]; exact hgo.trans a1, b1⟩
end TV
