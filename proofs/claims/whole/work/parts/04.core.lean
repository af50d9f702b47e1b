/-! ===== the machine under a world: ints, references, longs by address and place ===== -/
abbrev Ev : Type := State × (Nat → ClassId) × (Nat → Nat → Nat) × (Nat → ClassId)
abbrev Mc : Type := Program × Launch × Env × Room × State × MethodId × Array Value × List Frame × Method × Code
abbrev Wd : Type := (Nat → Option (Nat × Nat)) × (Nat → Nat → Int32) × (Nat → Nat → Option Nat) × (Nat → Nat → Int64) × Nat
def eB (E : Ev) : Nat := E.1.heap.size
abbrev mP (M : Mc) : Program := M.1
abbrev mL (M : Mc) : Launch := M.2.1
abbrev mE (M : Mc) : Env := M.2.2.1
abbrev mR (M : Mc) : Room := M.2.2.2.1
abbrev mS (M : Mc) : State := M.2.2.2.2.1
abbrev mM (M : Mc) : MethodId := M.2.2.2.2.2.1
abbrev mA (M : Mc) : Array Value := M.2.2.2.2.2.2.1
abbrev mB (M : Mc) : List Frame := M.2.2.2.2.2.2.2.1
abbrev mT (M : Mc) : Method := M.2.2.2.2.2.2.2.2.1
abbrev mC (M : Mc) : Code := M.2.2.2.2.2.2.2.2.2
abbrev WW (M : Mc) (H : Heap) (locs : List Loc) (cells slots : Nat) (Q : State → Prop) (g : JFrame) : Prop := W (mP M) (mL M) (mE M) (mR M) (mS M) (mM M) (mA M) (mB M) (mT M) (mC M) H locs cells slots Q g
/-- the classes whose objects the world holds: Dogs 0, Gaps 1, LawBook 2, Plan 3, Race 4, SignRow 5, Tape 6, Team 7, Trail 8, SledHouse 9, Stop 10, Model's Team 11, Model 12 -/
abbrev kCl : List vw_C := [(RX0, TX0, 6), (RX1, TX1, 3), (RX2, TX2, 5), (RX4, TX4, 8), (RX5, TX5, 5), (RX6, TX6, 1), (RX7, TX7, 9), (RX8, TX8, 15), (RX9, TX9, 5), (RX10, TX10, 12), (RX11, TX11, 8), (RX12, TX12, 24), (RX13, TX13, 40)]
def fT (ci : Nat) : Nat → FieldType := match ci with
  | 0 => tyX0
  | 1 => tyX1
  | 2 => tyX2
  | 3 => tyX4
  | 4 => tyX5
  | 5 => tyX6
  | 6 => tyX7
  | 7 => tyX8
  | 8 => tyX9
  | 9 => tyX10
  | 10 => tyX11
  | 11 => tyX12
  | _ => tyX13
/-- arrays: 100 int, 101 byte, 102 boolean, 103 Plan, 104 SignRow, 105 Team, 106 Model's Team -/
def akT (k : Nat) : Option FieldType := match k with
  | 100 => some .int
  | 101 => some .byte
  | 102 => some .boolean
  | 103 => some (.object RX4)
  | 104 => some (.object RX6)
  | 105 => some (.object RX8)
  | 106 => some (.object RX12)
  | _ => none
def fkind (t : FieldType) : Nat := match t with
  | .object _ => 1
  | .array _ => 1
  | .long => 2
  | _ => 0
def fval (t : FieldType) (i : Int32) (r : Option Nat) (j : Int64) : Value := if fkind t = 0 then .int i else if fkind t = 1 then va_rf r else .long j
def cOK (E : Ev) (w : Wd) (H : Heap) (a : Nat) : Prop := ∀ k n, w.1 a = some (k, n) → eB E ≤ a ∧
  ((k < 100 ∧ ∃ r, kCl[k]? = some r ∧ t_OB a (E.2.1 k) r.2.2 (E.2.2.1 k) H (fun j => fval (fT k j) (w.2.1 a j) (w.2.2.1 a j) (w.2.2.2.1 a j))) ∨
   (100 ≤ k ∧ k < 103 ∧ H[a]? = some (arrV (E.2.2.2 k) n (fun j => .int (w.2.1 a j)))) ∨
   (103 ≤ k ∧ H[a]? = some (arrV (E.2.2.2 k) n (fun j => va_rf (w.2.2.1 a j)))))
def Rw (E : Ev) (w : Wd) (H : Heap) : Prop := H.size = w.2.2.2.2 ∧ eB E ≤ H.size ∧ (∀ q, q < eB E → H[q]? = E.1.heap[q]?) ∧ ∀ a, cOK E w H a
/-- what the start gives: the tables' words, the classes' numbers and slots, the array classes -/
def Glob (E : Ev) : Prop := (∃ a0, ∀ w ∈ lw_tbl, w.before a0 E.1 = true) ∧ (∀ k q, kCl[k]? = some q → u_Kn E.1 q.1 q.2.1 q.2.2 (E.2.1 k) (E.2.2.1 k)) ∧ (∀ k ty, akT k = some ty → ArrOfT E.1 (E.2.2.2 k) ty ∧ va_RA E.1 (E.2.2.2 k) ty)
def Cx (E : Ev) (M : Mc) (own : String) (cc : ByteArray) (nL : Nat) (rm : Room) (ret : Option FieldType) (nm : String) : Prop :=
  Glob E ∧ E.1.WarmedH (mS M).vm ∧ (mP M).tables.exec = Jvm.exec ∧ (mC M).code = cc ∧ (mC M).maxLocals = nL ∧ (mS M).vm.findClass own = some (mM M).cls ∧ (mT M).locks = false ∧ mR M = rm ∧ (mT M).sig.returnType = ret ∧ (mT M).name = nm
def lok (n : Nat) (ls : Array Slot) (L : List (Option Value)) : Prop := ls.size = n ∧ lv_wf ls ∧ ∀ (i : Nat) (v : Value), L[i]? = some (some v) → ls[i]? = some (.val v)
/-- at pc, with these locals, this stack, this world: the machine comes to Q -/
def G (E : Ev) (M : Mc) (cells slots : Nat) (Q : State → Prop) (pc : Nat) (L : List (Option Value)) (st : List Value) (w : Wd) : Prop :=
  ∀ (H : Heap) (locs : List Loc) (ls : Array Slot), Rw E w H → (∀ q ∈ locs, eB E ≤ q.base) → lok (mC M).maxLocals ls L → WW M H locs cells slots Q (F0 (mM M) pc ls st)
section CX
variable {E : Ev} {M : Mc} {own : String} {cc : ByteArray} {nL : Nat} {rm : Room} {ret : Option FieldType} {nm : String}
theorem Cx.glob (X : Cx E M own cc nL rm ret nm) : Glob E := X.1
theorem Cx.warm (X : Cx E M own cc nL rm ret nm) : E.1.WarmedH (mS M).vm := X.2.1
theorem Cx.hx (X : Cx E M own cc nL rm ret nm) : (mP M).tables.exec = Jvm.exec := X.2.2.1
theorem Cx.hb (X : Cx E M own cc nL rm ret nm) : (mC M).code = cc := X.2.2.2.1
theorem Cx.hml (X : Cx E M own cc nL rm ret nm) : (mC M).maxLocals = nL := X.2.2.2.2.1
theorem Cx.hown (X : Cx E M own cc nL rm ret nm) : (mS M).vm.findClass own = some (mM M).cls := X.2.2.2.2.2.1
theorem Cx.hlocks (X : Cx E M own cc nL rm ret nm) : (mT M).locks = false := X.2.2.2.2.2.2.1
theorem Cx.room (X : Cx E M own cc nL rm ret nm) : mR M = rm := X.2.2.2.2.2.2.2.1
theorem Cx.hret (X : Cx E M own cc nL rm ret nm) : (mT M).sig.returnType = ret := X.2.2.2.2.2.2.2.2.1
theorem Cx.hnm (X : Cx E M own cc nL rm ret nm) : (mT M).name = nm := X.2.2.2.2.2.2.2.2.2
def good (w : Cond) : Prop := (w.onTables && w.keeps) = true ∨ ∃ ty, w = .arrayClass ty
theorem Glob.word (h : Glob E) {U : State} (hW : E.1.WarmedH U.vm) {w : Cond} (hw : w ∈ lw_tbl) (hg : good w) {a' : Array Value} : w.before a' U = true := by
  obtain ⟨a0, h0⟩ := h.1
  exact word_at hW hg (h0 w hw)
theorem Cx.word (X : Cx E M own cc nL rm ret nm) {w : Cond} (hw : w ∈ lw_tbl) (hg : good w) {a' : Array Value} : w.before a' (mS M) = true := X.glob.word X.warm hw hg
theorem Cx.kn (X : Cx E M own cc nL rm ret nm) {k : Nat} {q : vw_C} (h : kCl[k]? = some q) : u_Kn (mS M) q.1 q.2.1 q.2.2 (E.2.1 k) (E.2.2.1 k) := u_Kn_moved X.warm.alike (X.glob.2.1 k q h)
theorem Cx.arr (X : Cx E M own cc nL rm ret nm) {k : Nat} {ty : FieldType} (h : akT k = some ty) : ArrOfT (mS M) (E.2.2.2 k) ty := arrOfT_moved X.warm.alike (X.glob.2.2 k ty h).1
theorem Cx.ra (X : Cx E M own cc nL rm ret nm) {k : Nat} {ty : FieldType} (h : akT k = some ty) : va_RA (mS M) (E.2.2.2 k) ty := (X.glob.2.2 k ty h).2.moved X.warm.alike
theorem Cx.nestF (X : Cx E M own cc nL rm ret nm) {a : String} {i : Nat} {b n d h : String} (hw : Cond.fieldLinkNest a i b n d h ∈ lw_tbl) {a' : Array Value} : (Cond.fieldLinkNest a i b n d h).before a' (mS M) = true := by
  obtain ⟨a0, h0⟩ := X.glob.1
  exact va_Nw.use rfl (va_Nw.warmF X.warm (va_Nw.of rfl (h0 _ hw)))
theorem Cx.nestM (X : Cx E M own cc nL rm ret nm) {a : String} {i : Nat} {x : MethodName} {h : String} (hw : Cond.methodLinkNest a i x h ∈ lw_tbl) {a' : Array Value} : (Cond.methodLinkNest a i x h).before a' (mS M) = true := by
  obtain ⟨a0, h0⟩ := X.glob.1
  exact va_Nw.use rfl (va_Nw.warmM X.warm (va_Nw.of rfl (h0 _ hw)))
end CX
/-! the fields' words -/
theorem inX0 : ∀ w ∈ u_ws RX0 TX0 6, w ∈ lw_tbl := by decide +kernel
theorem inX1 : ∀ w ∈ u_ws RX1 TX1 3, w ∈ lw_tbl := by decide +kernel
theorem inX2 : ∀ w ∈ u_ws RX2 TX2 5, w ∈ lw_tbl := by decide +kernel
theorem inX4 : ∀ w ∈ u_ws RX4 TX4 8, w ∈ lw_tbl := by decide +kernel
theorem inX5 : ∀ w ∈ u_ws RX5 TX5 5, w ∈ lw_tbl := by decide +kernel
theorem inX6 : ∀ w ∈ u_ws RX6 TX6 1, w ∈ lw_tbl := by decide +kernel
theorem inX7 : ∀ w ∈ u_ws RX7 TX7 9, w ∈ lw_tbl := by decide +kernel
theorem inX8 : ∀ w ∈ u_ws RX8 TX8 15, w ∈ lw_tbl := by decide +kernel
theorem inX9 : ∀ w ∈ u_ws RX9 TX9 5, w ∈ lw_tbl := by decide +kernel
theorem inX10 : ∀ w ∈ u_ws RX10 TX10 12, w ∈ lw_tbl := by decide +kernel
theorem inX11 : ∀ w ∈ u_ws RX11 TX11 8, w ∈ lw_tbl := by decide +kernel
theorem inX12 : ∀ w ∈ u_ws RX12 TX12 24, w ∈ lw_tbl := by decide +kernel
theorem inX13 : ∀ w ∈ u_ws RX13 TX13 40, w ∈ lw_tbl := by decide +kernel
theorem kCl_cases {P : Nat → vw_C → Prop} (h0 : P 0 (RX0, TX0, 6)) (h1 : P 1 (RX1, TX1, 3)) (h2 : P 2 (RX2, TX2, 5)) (h3 : P 3 (RX4, TX4, 8)) (h4 : P 4 (RX5, TX5, 5)) (h5 : P 5 (RX6, TX6, 1)) (h6 : P 6 (RX7, TX7, 9)) (h7 : P 7 (RX8, TX8, 15)) (h8 : P 8 (RX9, TX9, 5)) (h9 : P 9 (RX10, TX10, 12)) (h10 : P 10 (RX11, TX11, 8)) (h11 : P 11 (RX12, TX12, 24)) (h12 : P 12 (RX13, TX13, 40)) {k : Nat} {r : vw_C} (h : kCl[k]? = some r) : P k r := by
  match k, h with
  | 0, h => cases h; exact h0
  | 1, h => cases h; exact h1
  | 2, h => cases h; exact h2
  | 3, h => cases h; exact h3
  | 4, h => cases h; exact h4
  | 5, h => cases h; exact h5
  | 6, h => cases h; exact h6
  | 7, h => cases h; exact h7
  | 8, h => cases h; exact h8
  | 9, h => cases h; exact h9
  | 10, h => cases h; exact h10
  | 11, h => cases h; exact h11
  | 12, h => cases h; exact h12
  | k + 13, h => simp [kCl] at h
theorem kCl_in {k : Nat} {r : vw_C} (h : kCl[k]? = some r) : ∀ w ∈ u_ws r.1 r.2.1 r.2.2, w ∈ lw_tbl := kCl_cases (P := fun _ r => ∀ w ∈ u_ws r.1 r.2.1 r.2.2, w ∈ lw_tbl) inX0 inX1 inX2 inX4 inX5 inX6 inX7 inX8 inX9 inX10 inX11 inX12 inX13 h
theorem kCl_ty {k : Nat} {r : vw_C} (h : kCl[k]? = some r) : ∀ j, j < r.2.2 → parseFieldDescriptor (r.2.1 j).2.2.1 = some (fT k j) := kCl_cases (P := fun k r => ∀ j, j < r.2.2 → parseFieldDescriptor (r.2.1 j).2.2.1 = some (fT k j)) tyX0_ok tyX1_ok tyX2_ok tyX4_ok tyX5_ok tyX6_ok tyX7_ok tyX8_ok tyX9_ok tyX10_ok tyX11_ok tyX12_ok tyX13_ok h
theorem kCl_nm {k : Nat} {r : vw_C} (h : kCl[k]? = some r) : ∀ a, a < r.2.2 → ∀ b, b < r.2.2 → a ≠ b → (r.2.1 a).2.1 ≠ (r.2.1 b).2.1 := kCl_cases (P := fun _ r => ∀ a, a < r.2.2 → ∀ b, b < r.2.2 → a ≠ b → (r.2.1 a).2.1 ≠ (r.2.1 b).2.1) nmX0 nmX1 nmX2 nmX4 nmX5 nmX6 nmX7 nmX8 nmX9 nmX10 nmX11 nmX12 nmX13 h
theorem u_lay_good (C : String) (T : u_T) (k : Nat) : good (u_lay C T k) := by
  unfold u_lay
  split <;> exact Or.inl rfl
section CY
variable {E : Ev} {M : Mc} {own : String} {cc : ByteArray} {nL : Nat} {rm : Room} {ret : Option FieldType} {nm : String}
theorem Cx.lay (X : Cx E M own cc nL rm ret nm) {k j : Nat} {r : vw_C} (h : kCl[k]? = some r) (hj : j < r.2.2) : (u_lay r.1 r.2.1 j).before (mA M) (mS M) = true := X.word (kCl_in h _ (u_in_lay hj)) (u_lay_good _ _ _)
theorem Cx.lays (X : Cx E M own cc nL rm ret nm) {k j : Nat} {r : vw_C} (h : kCl[k]? = some r) (hj : j < r.2.2) :
    (Cond.lays r.1 (r.2.1 j).1 (r.2.1 j).2.1 (r.2.1 j).2.2.1).before (mA M) (mS M) = true ∨ (Cond.laysFinal r.1 (r.2.1 j).1 (r.2.1 j).2.1 (r.2.1 j).2.2.1).before (mA M) (mS M) = true := by
  have h2 := X.lay h hj
  unfold u_lay at h2
  split at h2
  · exact Or.inr h2
  · exact Or.inl h2
theorem Cx.apart (X : Cx E M own cc nL rm ret nm) {k : Nat} {r : vw_C} (h : kCl[k]? = some r) : ∀ x y, x < r.2.2 → y < r.2.2 → x ≠ y → (E.2.2.1 k) x ≠ (E.2.2.1 k) y := by
  intro x y hx hy hne
  obtain ⟨hS, -⟩ := X.kn h
  obtain ⟨_, _, _, fa, hia, ea⟩ := hS x hx
  obtain ⟨_, _, _, fb, hib, eb⟩ := hS y hy
  rw [← ea, ← eb]
  refine u_apart (X.lays h hx) (X.lays h hy) hia hib ?_
  rw [(State.fieldFound?_type hia (kCl_ty h x hx)).1, (State.fieldFound?_type hib (kCl_ty h y hy)).1]
  exact kCl_nm h x hx y hy hne
end CY
/-- a pool entry that names field k of class ci -/
def FL (own : String) (idx ci k : Nat) : Prop := ∃ r, kCl[ci]? = some r ∧ k < r.2.2 ∧ (Cond.fieldLink own idx (r.2.1 k).1 (r.2.1 k).2.1 (r.2.1 k).2.2.1 ∈ lw_tbl ∨ ∃ host, Cond.fieldLinkNest own idx (r.2.1 k).1 (r.2.1 k).2.1 (r.2.1 k).2.2.1 host ∈ lw_tbl)
def FLk (kd : Nat) (own : String) (idx ci k : Nat) : Prop := FL own idx ci k ∧ fkind (fT ci k) = kd
/-- it may be written: not final, or in its own class's constructor -/
def FW (own nm : String) (idx ci k : Nat) : Prop := ∃ r, kCl[ci]? = some r ∧ ((r.2.1 k).2.2.2 = false ∨ ((r.2.1 k).2.2.2 = true ∧ nm = "<init>" ∧ (r.2.1 k).1 = own ∧ Cond.fieldLink own idx (r.2.1 k).1 (r.2.1 k).2.1 (r.2.1 k).2.2.1 ∈ lw_tbl))
theorem kCl_lt {ci : Nat} {r : vw_C} (h : kCl[ci]? = some r) : ci < 13 := (List.getElem?_eq_some_iff.mp h).1
section CZ
variable {E : Ev} {M : Mc} {own : String} {cc : ByteArray} {nL : Nat} {rm : Room} {ret : Option FieldType} {nm : String} {pc : Nat} {ls : Array Slot} {st : List Value} {H : Heap} {locs : List Loc} {cells slots : Nat} {Q : State → Prop} {w : Wd} {a n idx ci k : Nat} {v : Value}
theorem Rw.obj (hR : Rw E w H) {r : vw_C} (hr : kCl[ci]? = some r) (hs : w.1 a = some (ci, n)) : eB E ≤ a ∧ t_OB a (E.2.1 ci) r.2.2 (E.2.2.1 ci) H (fun j => fval (fT ci j) (w.2.1 a j) (w.2.2.1 a j) (w.2.2.2.1 a j)) := by
  have h13 := kCl_lt hr
  obtain ⟨hb, h | h | h⟩ := hR.2.2.2 a ci n hs
  · obtain ⟨-, r', h1, h2⟩ := h
    cases hr.symm.trans h1
    exact ⟨hb, h2⟩
  · omega
  · omega
theorem getf_core (X : Cx E M own cc nL rm ret nm) (hd : decode cc pc = .ok (.getfield idx, 3)) (hf : FL own idx ci k) (hR : Rw E w H) (hs : w.1 a = some (ci, n)) (hv : fval (fT ci k) (w.2.1 a k) (w.2.2.1 a k) (w.2.2.2.1 a k) = v)
    (kk : WW M H locs cells slots Q (F0 (mM M) (pc + 3) ls (v :: st))) : WW M H locs cells slots Q (F0 (mM M) pc ls (.ref a :: st)) := by
  obtain ⟨r, hr, hk, hlink⟩ := hf
  obtain ⟨-, cell, q1, q2, q3, q4⟩ := hR.obj hr hs
  obtain ⟨hS, hfc, kC, hkC, hkind⟩ := X.kn hr
  obtain ⟨cf, kf, fi, f, hi, hsl⟩ := hS k hk
  have hst := (u_facts hfc hkC (X.lays hr hk) hi).1
  have hsv : cell.slots[f.slot]? = some v := by rw [hsl, q4 k hk]; exact congrArg some hv
  rcases hlink with h | ⟨host, h⟩
  · exact W.getf X.hx X.hb X.hown (X.word h (Or.inl rfl)) hi hst q1 (by rw [q3]; exact fun h => by cases h) hsv rfl rfl hd kk
  · exact va_Wgetf X.hx X.hb X.hown (X.nestF h) hi hst q1 (by rw [q3]; exact fun h => by cases h) hsv rfl rfl hd kk
theorem putf_core (X : Cx E M own cc nL rm ret nm) (hd : decode cc pc = .ok (.putfield idx, 3)) (hf : FL own idx ci k) (hw : FW own nm idx ci k) (hR : Rw E w H) (hs : w.1 a = some (ci, n)) (hn : narrow (fT ci k) v = v) (hfit : fits (fT ci k) v = true)
    (kk : ∀ (H' : Heap) (j : Nat), (∀ r, kCl[ci]? = some r → t_OB a (E.2.1 ci) r.2.2 (E.2.2.1 ci) H' (updV (fun j => fval (fT ci j) (w.2.1 a j) (w.2.2.1 a j) (w.2.2.2.1 a j)) k v)) → H'.size = H.size → (∀ q, q ≠ a → H'[q]? = H[q]?) → WW M H' (locs ++ [⟨a, j⟩]) cells slots Q (F0 (mM M) (pc + 3) ls st)) : WW M H locs cells slots Q (F0 (mM M) pc ls (v :: .ref a :: st)) := by
  obtain ⟨r, hr, hk, hlink⟩ := hf
  obtain ⟨-, cell, q1, q2, q3, q4⟩ := hR.obj hr hs
  obtain ⟨hS, hfc, kC, hkC, hkind⟩ := X.kn hr
  obtain ⟨cf, kf, fi, f, hi, hsl⟩ := hS k hk
  have hst := (u_facts hfc hkC (X.lays hr hk) hi).1
  have hlt : f.slot < cell.slots.size := by rw [hsl]; exact k2_hasslot (q4 k hk)
  have hap := X.apart hr
  have hlay := X.lay hr hk
  unfold u_lay at hlay
  obtain ⟨r', hr', hww⟩ := hw
  cases hr.symm.trans hr'
  have fin : ∀ H' : Heap, H'[a]? = some (cell.setSlot f.slot v) → ∀ r', kCl[ci]? = some r' → t_OB a (E.2.1 ci) r'.2.2 (E.2.2.1 ci) H' (updV (fun j => fval (fT ci j) (w.2.1 a j) (w.2.2.1 a j) (w.2.2.2.1 a j)) k v) := by
    intro H' e1 r' hr'
    cases hr.symm.trans hr'
    rw [hsl] at e1
    exact ⟨_, e1, q2, q3, t_set q4 hap hk v⟩
  rcases hww with hfin | ⟨hfin, hin2, hdecl, hl2⟩
  · rw [if_neg (by rw [hfin]; decide)] at hlay
    have h6 := u_store hfc hkC hkind hlay hi (kCl_ty hr k hk) hn hfit
    rcases hlink with h | ⟨host, h⟩
    · exact W.putK X.hx X.hb (f := f) ⟨X.hown, X.word h (Or.inl rfl), ⟨_, _, _, hi⟩, hst⟩ (by rw [q2]; exact h6) q1 q3 hlt rfl rfl hd fun H' e1 e2 e3 => kk H' _ (fin H' e1) e2 e3
    · exact va_WputK X.hx X.hb (f := f) X.hown (X.nestF h) hi hst (by rw [q2]; exact h6) q1 q3 hlt rfl rfl hd fun H' e1 e2 e3 => kk H' _ (fin H' e1) e2 e3
  · rw [if_pos hfin] at hlay
    have hcf : (mM M).cls = cf := by
      obtain ⟨_, _, c', _, _, _, -, -, hf', -, -, -, hown2, -⟩ := Cond.laysFinal_spec hlay
      have e1 : c' = cf := by have := hi.symm.trans hf'; simp at this; exact this.1.symm
      rw [hdecl] at hown2
      rw [← e1]; exact Option.some.inj (X.hown.symm.trans hown2)
    have h6 := u_fits hfc hkC hkind (Or.inr hlay) hi (kCl_ty hr k hk) hn hfit
    exact W.putFinK X.hx X.hb X.hown (X.word hl2 (Or.inl rfl)) hi hst hcf (X.hnm.trans hin2) (by rw [q2]; exact h6) q1 q3 hlt rfl rfl hd fun H' e1 e2 e3 => kk H' _ (fin H' e1) e2 e3
end CZ
