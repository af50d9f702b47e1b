/-! ===== the claim out of one walk of the law's body ===== -/
theorem law_out {E : Ev} {p : Program} {l : Launch} {e : Env} {s : State} {m : MethodId} {below : List Frame} {meth : Method} {c : Code} {b : Nat} (hE : E.1 = s) (hx : p.tables.exec = Jvm.exec) (hb : c.code = code) (hr : meth.sig.returnType = ret) (hlocks : meth.locks = false) (cells slots : Nat) (L : List (Option Value)) (w : Wd) (hc : cells ≤ room_1.cells) (hs : slots ≤ room_1.slots) :
    G E (p, l, e, room_1, s, m, #[Value.ref b], below, meth, c) cells slots (lw_Z below #[Value.ref b] s) 1089 L [] w := by
  intro H locs ls hR hl hls
  refine lv_iconst (v := 1) hx hb dL_law_1089 rfl ?_
  refine va_forget (fun q hq => by have := hl q hq; rw [eB, hE] at this; exact this) ?_
  refine W.widen (k := 601024) (n := 7293034) hc hs ?_
  exact lw_ret hx hb hr hlocks dL_law_1090
/-- from the entry, for every script of at most 3072 ints, the law comes to its end with true -/
theorem whole_start {p : Program} {e : Env} {s : State} {m : MethodId} {below : List Frame} {meth : Method} {c : Code} (l : Launch) {b L : Nat} {xs : Nat → Int32} (hL : L ≤ 3072) (C0 : lw_At p s m meth c b L xs) : W p l e room_1 s m #[Value.ref b] below meth c s.heap [] 0 0 (lw_Z below #[Value.ref b] s) (entryFrame m ([Value.ref b] : List Value).toArray 4) := by
  obtain ⟨hx, hb, hr, hml, hown, hts, hX, hbl, hlocks, hgv⟩ := C0
  obtain ⟨E, hE, GE⟩ := glob_of hts
  obtain ⟨hZ, hZ2⟩ := strs_of (E := E) (a0 := #[Value.ref b]) (by rw [hE]; exact hts) (by rw [hE]; exact hgv)
  have X : LX E (p, l, e, room_1, s, m, #[Value.ref b], below, meth, c) meth.name := ⟨GE, by rw [hE]; exact State.WarmedH.refl s, hx, hb, hml, hown, hlocks, rfl, hr, rfl⟩
  have hs : Scr E (p, l, e, room_1, s, m, #[Value.ref b], below, meth, c) b L xs := ⟨by rw [hE]; exact hX, by rw [eB, hE]; exact hbl, hL⟩
  have K := law_walk0 X hs hZ hZ2 (lw_Z below #[Value.ref b] s) (fun cells slots L w => law_out hE hx hb hr hlocks cells slots L w) (fun _ => none) (fun _ _ => 0) (fun _ _ => none) (fun _ _ => 0) s.heap.size
  rw [lg_entry_eq]
  refine K s.heap [] _ ⟨rfl, by rw [eB, hE]; exact Nat.le_refl _, fun q hq => by rw [hE], fun a k n h => by cases h⟩ (fun q hq => by cases hq) ?_
  have he := lv_entry [Value.ref b] (n := 4) (Nat.le_of_ble_eq_true rfl)
  refine ⟨by rw [show (mC (p, l, e, room_1, s, m, #[Value.ref b], below, meth, c)).maxLocals = 4 from hml]; exact he.1, he.2.1, fun i v hi => ?_⟩
  match i, hi with
  | 0, hi =>
    cases hi
    exact he.2.2 (0, .ref b) List.mem_cons_self
  | 1, hi => cases hi
  | 2, hi => cases hi
  | 3, hi => cases hi
  | i + 4, hi => simp at hi
