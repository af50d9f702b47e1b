/-! ===== the law's walk: its loop, its beginning ===== -/
section LLP
variable {E : Ev} {M : Mc} {nm : String} {b h g i Ln : Nat} {xs : Nat → Int32}
theorem law_disp (X : LX E M nm) (hs : Scr E M b Ln xs) (hZ : Strs E) (hi : i + 6 ≤ Ln) (cells slots : Nat) (Q : State → Prop) (w : Wd) (H : RelE h g w) (hr : cells + 67 ≤ room_1.cells ∧ slots + 12000 ≤ room_1.slots) (x : Int32)
    (kk : ∀ cells' slots' w', cells' ≤ cells + 67 → slots' ≤ slots + 12000 → RelE h g w' → G E M cells' slots' Q 1083 (Lc b h g i) [] w') : G E M cells slots Q 33 (Lc b h g i) [.int x] w := by
  by_cases h1 : x.toInt < 0 ∨ 28 < x.toInt
  · exact r_tableOut (tgt := 1083) X dL_law_33 h1 rfl (kk _ _ _ (Nat.le_add_right _ _) (Nat.le_add_right _ _) H)
  · obtain ⟨v, hv, hx⟩ : ∃ v : Nat, v < 29 ∧ x.toInt = (v : Int) := ⟨x.toInt.toNat, by omega, by omega⟩
    have h2 : ¬ x.toInt < 0 := by omega
    have h3 : ¬ 28 < x.toInt := by omega
    have hc : v = 0 ∨ v = 1 ∨ v = 2 ∨ v = 3 ∨ v = 4 ∨ v = 5 ∨ v = 6 ∨ v = 7 ∨ v = 8 ∨ v = 9 ∨ v = 10 ∨ v = 11 ∨ v = 12 ∨ v = 13 ∨ v = 14 ∨ v = 15 ∨ v = 16 ∨ v = 17 ∨ v = 18 ∨ v = 19 ∨ v = 20 ∨ v = 21 ∨ v = 22 ∨ v = 23 ∨ v = 24 ∨ v = 25 ∨ v = 26 ∨ v = 27 ∨ v = 28 := by omega
    rcases hc with rfl | rfl | rfl | rfl | rfl | rfl | rfl | rfl | rfl | rfl | rfl | rfl | rfl | rfl | rfl | rfl | rfl | rfl | rfl | rfl | rfl | rfl | rfl | rfl | rfl | rfl | rfl | rfl | rfl
    · exact r_tableIn (off := 131) (tgt := 164) X dL_law_33 h2 h3 (by rw [hx]; rfl) rfl (cs_leg X hs hZ hi cells slots Q w H hr kk)
    · exact r_tableIn (off := 164) (tgt := 197) X dL_law_33 h2 h3 (by rw [hx]; rfl) rfl (cs_cold X hs hZ hi cells slots Q w H hr kk)
    · exact r_tableIn (off := 207) (tgt := 240) X dL_law_33 h2 h3 (by rw [hx]; rfl) rfl (cs_feed X hs hZ hi cells slots Q w H hr kk)
    · exact r_tableIn (off := 270) (tgt := 303) X dL_law_33 h2 h3 (by rw [hx]; rfl) rfl (cs_plan X hs hZ hi cells slots Q w H hr kk)
    · exact r_tableIn (off := 293) (tgt := 326) X dL_law_33 h2 h3 (by rw [hx]; rfl) rfl (cs_laws X hs hZ hi cells slots Q w H hr kk)
    · exact r_tableIn (off := 316) (tgt := 349) X dL_law_33 h2 h3 (by rw [hx]; rfl) rfl (cs_fault X hs hZ hi cells slots Q w H hr kk)
    · exact r_tableIn (off := 329) (tgt := 362) X dL_law_33 h2 h3 (by rw [hx]; rfl) rfl (cs_where X hs hZ hi cells slots Q w H hr kk)
    · exact r_tableIn (off := 342) (tgt := 375) X dL_law_33 h2 h3 (by rw [hx]; rfl) rfl (cs_team X hs hZ hi cells slots Q w H hr kk)
    · exact r_tableIn (off := 405) (tgt := 438) X dL_law_33 h2 h3 (by rw [hx]; rfl) rfl (cs_follow X hs hZ hi cells slots Q w H hr kk)
    · exact r_tableIn (off := 438) (tgt := 471) X dL_law_33 h2 h3 (by rw [hx]; rfl) rfl (cs_gap X hs hZ hi cells slots Q w H hr kk)
    · exact r_tableIn (off := 481) (tgt := 514) X dL_law_33 h2 h3 (by rw [hx]; rfl) rfl (cs_each X hs hZ hi cells slots Q w H hr kk)
    · exact r_tableIn (off := 504) (tgt := 537) X dL_law_33 h2 h3 (by rw [hx]; rfl) rfl (cs_run X hs hZ hi cells slots Q w H hr kk)
    · exact r_tableIn (off := 527) (tgt := 560) X dL_law_33 h2 h3 (by rw [hx]; rfl) rfl (cs_about X hs hZ hi cells slots Q w H hr kk)
    · exact r_tableIn (off := 560) (tgt := 593) X dL_law_33 h2 h3 (by rw [hx]; rfl) rfl (cs_dog X hs hZ hi cells slots Q w H hr kk)
    · exact r_tableIn (off := 603) (tgt := 636) X dL_law_33 h2 h3 (by rw [hx]; rfl) rfl (cs_time X hs hZ hi cells slots Q w H hr kk)
    · exact r_tableIn (off := 662) (tgt := 695) X dL_law_33 h2 h3 (by rw [hx]; rfl) rfl (cs_did X hs hZ hi cells slots Q w H hr kk)
    · exact r_tableIn (off := 685) (tgt := 718) X dL_law_33 h2 h3 (by rw [hx]; rfl) rfl (cs_result X hs hZ hi cells slots Q w H hr kk)
    · exact r_tableIn (off := 708) (tgt := 741) X dL_law_33 h2 h3 (by rw [hx]; rfl) rfl (cs_lacks X hs hZ hi cells slots Q w H hr kk)
    · exact r_tableIn (off := 741) (tgt := 774) X dL_law_33 h2 h3 (by rw [hx]; rfl) rfl (cs_place X hs hZ hi cells slots Q w H hr kk)
    · exact r_tableIn (off := 764) (tgt := 797) X dL_law_33 h2 h3 (by rw [hx]; rfl) rfl (cs_came X hs hZ hi cells slots Q w H hr kk)
    · exact r_tableIn (off := 797) (tgt := 830) X dL_law_33 h2 h3 (by rw [hx]; rfl) rfl (cs_spot X hs hZ hi cells slots Q w H hr kk)
    · exact r_tableIn (off := 856) (tgt := 889) X dL_law_33 h2 h3 (by rw [hx]; rfl) rfl (cs_signs X hs hZ hi cells slots Q w H hr kk)
    · exact r_tableIn (off := 879) (tgt := 912) X dL_law_33 h2 h3 (by rw [hx]; rfl) rfl (cs_replay X hs hZ hi cells slots Q w H hr kk)
    · exact r_tableIn (off := 922) (tgt := 955) X dL_law_33 h2 h3 (by rw [hx]; rfl) rfl (cs_keep X hs hZ hi cells slots Q w H hr kk)
    · exact r_tableIn (off := 935) (tgt := 968) X dL_law_33 h2 h3 (by rw [hx]; rfl) rfl (cs_back X hs hZ hi cells slots Q w H hr kk)
    · exact r_tableIn (off := 948) (tgt := 981) X dL_law_33 h2 h3 (by rw [hx]; rfl) rfl (cs_law X hs hZ hi cells slots Q w H hr kk)
    · exact r_tableIn (off := 981) (tgt := 1014) X dL_law_33 h2 h3 (by rw [hx]; rfl) rfl (cs_planned X hs hZ hi cells slots Q w H hr kk)
    · exact r_tableIn (off := 1014) (tgt := 1047) X dL_law_33 h2 h3 (by rw [hx]; rfl) rfl (cs_count X hs hZ hi cells slots Q w H hr kk)
    · exact r_tableIn (off := 1037) (tgt := 1070) X dL_law_33 h2 h3 (by rw [hx]; rfl) rfl (cs_trouble X hs hZ hi cells slots Q w H hr kk)
theorem len_lt {Ln i : Nat} (hL : Ln ≤ 3072) (hi : i ≤ 3078) (h : ¬ nI Ln - 6 < nI i) : i + 6 ≤ Ln := by
  rcases Nat.lt_or_ge Ln 6 with q | q
  · exfalso
    apply h
    have h0 : ¬ nI i < 0 := nI_pos (by omega)
    have h1 : nI Ln - 6 < 0 := by
      have : Ln = 0 ∨ Ln = 1 ∨ Ln = 2 ∨ Ln = 3 ∨ Ln = 4 ∨ Ln = 5 := by omega
      rcases this with rfl | rfl | rfl | rfl | rfl | rfl <;> decide
    exact Int32.lt_of_lt_of_le h1 (Int32.not_lt.mp h0)
  · obtain ⟨d, rfl⟩ : ∃ d, Ln = d + 6 := ⟨Ln - 6, by omega⟩
    have e : nI (d + 6) - 6 = nI d := by
      rw [← nI_add d 6]
      show nI d + 6 - 6 = nI d
      grind
    rw [e] at h
    have : ¬ d < i := fun z => h ((nI_ltI (by omega) (by omega)).mpr z)
    omega
theorem law_loop (X : LX E M nm) (hs : Scr E M b Ln xs) (hZ : Strs E) (Q : State → Prop) (out : ∀ (cells slots : Nat) (L : List (Option Value)) (w : Wd), cells ≤ room_1.cells → slots ≤ room_1.slots → G E M cells slots Q 1089 L [] w) :
    ∀ j, j ≤ 513 → 6 * j ≤ Ln + 5 → ∀ (cells slots : Nat) (w : Wd), RelE h g w → cells ≤ 310 + 67 * j → slots ≤ 59427 + 12000 * j → G E M cells slots Q 18 (Lc b h g (6 * j)) [] w := by
  have hL := hs.2.2
  have rc : room_1.cells = 601024 := rfl
  have rs : room_1.slots = 7293034 := rfl
  refine loopN 513 (fun j hj ih => ?_)
  intro hj6 cells slots w H hc hsl
  refine r_iload_n (i := 3) X dL_law_18 rfl rfl ?_
  refine r_aload_n (i := 0) X dL_law_19 rfl rfl ?_
  refine r_scrlen X hs dL_law_20 ?_
  refine r_bipush (v := 6) X dL_law_21 rfl ?_
  refine r_isub X dL_law_23 ?_
  refine r_icmp_gt (tgt := 1089) X dL_law_24 rfl (fun _ => out _ _ _ _ (by omega) (by omega)) (fun q => ?_)
  have hi : 6 * j + 6 ≤ Ln := len_lt hL (by omega) q
  refine r_aload_n (i := 0) X dL_law_27 rfl rfl ?_
  refine r_iload_n (i := 3) X dL_law_28 rfl rfl ?_
  refine r_scr X hs dL_law_29 (vp_in_nI (by omega) (by omega)) ?_
  refine r_bipush (v := 31) X dL_law_30 rfl ?_
  refine r_iand X dL_law_32 ?_
  refine law_disp X hs hZ hi cells slots Q w H ⟨by omega, by omega⟩ _ (fun cells' slots' w' h1 h2 H' => ?_)
  refine r_iinc (v := nI (6 * (j + 1))) (x := nI (6 * j)) X dL_law_1083 rfl ?_ (by decide) rfl ?_
  · show nI (6 * j) + 6 = nI (6 * (j + 1))
    exact nI_add (6 * j) 6
  refine r_goto (tgt := 18) X dL_law_1086 rfl ?_
  exact ih (by omega) (by omega) cells' slots' w' H' (by omega) (Nat.le_trans h2 (by rw [Nat.mul_add, ← Nat.add_assoc]; exact Nat.add_le_add_right hsl _))
theorem law_walk0 (X : LX E M nm) (hs : Scr E M b Ln xs) (hZ : Strs E) (hZ2 : Sta2 E) (Q : State → Prop) (out : ∀ (cells slots : Nat) (L : List (Option Value)) (w : Wd), cells ≤ room_1.cells → slots ≤ room_1.slots → G E M cells slots Q 1089 L [] w)
    (S : Nat → Option (Nat × Nat)) (I : Mem) (V : Nat → Nat → Option Nat) (J : Nat → Nat → Int64) (N : Nat) : G E M 0 0 Q 0 [some (.ref b), none, none, none] [] (S, I, V, J, N) := by
  have GE := X.glob
  refine r_new (ci := 9) (nS := 12) X dL_law_0 rfl kL_7 inX10_s inX10_i (Nat.le_of_ble_eq_true rfl) (Nat.le_of_ble_eq_true rfl) ?_
  refine r_dup X dL_law_3 rfl ?_
  refine q_callI (As := []) (st := [.ref N]) X dL_law_4 mL_9 cwX10_init (n_house GE _ _ _ _ N (if_pos rfl) (fun k => if_pos rfl)) rfl rfl (Nat.le_of_ble_eq_true rfl) ⟨Nat.le_of_ble_eq_true rfl, Nat.le_of_ble_eq_true rfl⟩ ⟨Nat.le_of_ble_eq_true rfl, Nat.le_of_ble_eq_true rfl⟩ ?_
  rintro _ _ ⟨rfl, S1, I1, V1, J1, rfl, -, hB, hP, hR⟩
  refine r_astore_n (i := 1) X dL_law_7 rfl (by decide) rfl ?_
  refine r_new (ci := 12) (nS := 40) X dL_law_8 rfl kL_10 inX13_s inX13_i (Nat.le_of_ble_eq_true rfl) (Nat.le_of_ble_eq_true rfl) ?_
  refine r_dup X dL_law_11 rfl ?_
  refine q_callI (As := []) (st := [.ref (N + 162)]) X dL_law_12 mL_12 cwX13_init (n_model GE _ _ _ _ (N + 162) hZ2 (if_pos rfl) (fun k => if_pos rfl)) rfl rfl (Nat.le_of_ble_eq_true rfl) ⟨Nat.le_of_ble_eq_true rfl, Nat.le_of_ble_eq_true rfl⟩ ⟨Nat.le_of_ble_eq_true rfl, Nat.le_of_ble_eq_true rfl⟩ ?_
  rintro _ _ ⟨rfl, S2, I2, V2, J2, rfl, hN2, hM, hMr, hI⟩
  have hS2 : ∀ x, x < N + 162 → S2 x = S1 x := fun x hx => (hN2.1 x (by omega)).trans (up1n (show x ≠ N + 162 by omega) rfl)
  have hI2 : ∀ x, x < N + 162 → I2 x = I1 x := fun x hx => (hN2.2 x hx).1.trans (zrn (show x ≠ N + 162 by omega))
  have hV2 : ∀ x, x < N + 162 → V2 x = V1 x := fun x hx => (hN2.2 x hx).2.1.trans (zrn (show x ≠ N + 162 by omega))
  have R : Rel S2 V2 (N + 162 + 148) I2 I2 N (N + 162) 0 0 0 6 0 0 0 := by
    refine rel_init rfl (hB.ag (fun x h1 h2 => ⟨hS2 x (by omega), hI2 x (by omega)⟩) (fun x h1 h2 _ _ => hV2 x (by omega))) ?_ ?_ hM hMr hI
    · intro i hi
      exact ⟨(congrFun (hV2 _ (by omega)) i).trans (hP i hi).1, (hP i hi).2.1.ag (fun x h1 h2 => ⟨hS2 x (by omega), hV2 x (by omega)⟩), (hP i hi).2.2.keep (fun x h1 h2 => hI2 x (by omega))⟩
    · intro i hi
      obtain ⟨q1, q2, q3, q4, q5⟩ := hR i hi
      exact ⟨(congrFun (hV2 _ (by omega)) i).trans q1, (hS2 _ (by omega)).trans q2, (congrFun (hV2 _ (by omega)) 0).trans q3, (hS2 _ (by omega)).trans q4, q5⟩
  refine r_astore_n (i := 2) X dL_law_15 rfl (by decide) rfl ?_
  refine r_iconst (v := nI (6 * 0)) X dL_law_16 rfl ?_
  refine r_istore_n (i := 3) X dL_law_17 rfl (by decide) rfl ?_
  exact law_loop (h := N) (g := N + 162) X hs hZ Q out 0 (by omega) (by omega) _ _ (S2, I2, V2, J2, N + 162 + 148) ⟨_, _, _, _, _, _, _, R⟩ (Nat.le_of_ble_eq_true rfl) (Nat.le_of_ble_eq_true rfl)
end LLP
