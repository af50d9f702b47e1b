/-! ===== the reference: readLaws ===== -/
def lPut (K : MJ) (g n : Nat) (kd a b c : Int32) : MJ := (up2 (up2 (up2 (up2 K.1 (g + 27) (4 * n) kd) (g + 27) (4 * n + 1) a) (g + 27) (4 * n + 2) b) (g + 27) (4 * n + 3) c, K.2)
theorem lPut_o {K : MJ} {g n : Nat} {kd a b c : Int32} {x k : Nat} (h : x ≠ g + 27) : (lPut K g n kd a b c).1 x k = K.1 x k := by
  show up2 (up2 (up2 (up2 K.1 (g + 27) (4 * n) kd) (g + 27) (4 * n + 1) a) (g + 27) (4 * n + 2) b) (g + 27) (4 * n + 3) c x k = K.1 x k
  rw [up2_a h, up2_a h, up2_a h, up2_a h]
def rLn (K : MJ) (g : Nat) (k : Int32 → MJ → Bool × MJ) : Bool × MJ := if K.1 g 26 = 3 then k (K.1 g 29) (nxt K g) else (false, stp K g 1)
def rLt (K : MJ) (g : Nat) (bs : List Int32) (k : MJ → Bool × MJ) : Bool × MJ := if mIsW K.1 K.2 g bs = true then k (nxt K g) else (false, stp K g 1)
def rLf (K : MJ) (g n : Nat) (a : Int32) : Bool × MJ := rLt K g kw_for (fun K1 => rLn K1 g (fun b K2 => (true, lPut K2 g n 3 a b 0)))
def rLr (K : MJ) (g n : Nat) (a : Int32) : Bool × MJ :=
  if mIsW K.1 K.2 g kw_at = true then rLn (nxt K g) g (fun b K1 => (true, lPut K1 g n 0 a b 0))
  else if mIsW K.1 K.2 g kw_from = true then rLn (nxt K g) g (fun b K1 => rLt K1 g kw_to (fun K2 => rLn K2 g (fun c K3 => (true, lPut K3 g n 1 a b c))))
  else (false, stp K g 1)
def rLw (K : MJ) (g n : Nat) : Bool × MJ :=
  if mIsW K.1 K.2 g kw_rest = false ∧ mIsW K.1 K.2 g kw_dogs = false ∧ mIsW K.1 K.2 g kw_fine = false then (false, stp K g 1)
  else if n = 10 then (false, stp K g 3)
  else rLn (nxt K g) g (fun a K1 => if mIsW K.1 K.2 g kw_dogs = true then (true, lPut K1 g n 2 a 0 0) else if mIsW K.1 K.2 g kw_fine = true then rLf K1 g n a else rLr K1 g n a)
def rLs (K : MJ) (g n : Nat) : Nat → (Bool × MJ) × Nat
  | 0 => ((true, K), n)
  | f + 1 => if (rLw K g n).1 = true then
      (if mIs (rLw K g n).2.1 g 59 = true then rLs (nxt (rLw K g n).2 g) g (n + 1) f
       else if (rLw K g n).2.1 g 26 = 1 then ((true, (rLw K g n).2), n + 1) else ((false, stp (rLw K g n).2 g 1), n + 1))
    else (rLw K g n, n)
def rLa (K : MJ) (g n : Nat) : (Bool × MJ) × Nat := rLs K g n (11 - n)
def lCon (R : Bool × MJ) (g n f : Nat) : (Bool × MJ) × Nat := if R.1 = true then (if mIs R.2.1 g 59 = true then rLs (nxt R.2 g) g (n + 1) f else if R.2.1 g 26 = 1 then ((true, R.2), n + 1) else ((false, stp R.2 g 1), n + 1)) else (R, n)
theorem lCon_f {K : MJ} {g n f : Nat} : lCon (false, K) g n f = ((false, K), n) := rfl
theorem ndN_t {K : MJ} {g : Nat} (h : (ndN K g).1 = true) : K.1 g 26 = 3 := by
  unfold ndN at h
  split at h
  · assumption
  · cases h
theorem ndN_f {K : MJ} {g : Nat} (h : (ndN K g).1 = false) : ¬ K.1 g 26 = 3 := by
  unfold ndN at h
  split at h
  · cases h
  · assumption
theorem ndW_t {K : MJ} {g : Nat} {bs : List Int32} (h : (ndW K g bs).1 = true) : mIsW K.1 K.2 g bs = true := by
  unfold ndW at h
  split at h
  · assumption
  · cases h
theorem ndW_f {K : MJ} {g : Nat} {bs : List Int32} (h : (ndW K g bs).1 = false) : ¬ mIsW K.1 K.2 g bs = true := by
  unfold ndW at h
  split at h
  · cases h
  · assumption
set_option maxHeartbeats 2000000 in
set_option maxRecDepth 20000 in
/-- SledHouseModel.readLaws -/
theorem c_rLa {E : Ev} (GE : Glob E) (S : Nat → Option (Nat × Nat)) (K : MJ) (V : Nat → Nat → Option Nat) (N g n : Nat) (hZ : Strs E) (hs0 : S g = some (12, 0)) (hR : MrSh S V g) (hK : MkOK K.1 g) (hn : K.1 g 38 = nI n) (hn10 : n ≤ 10) : CtX E yX13_readLaws cX13_readLaws 7 (some .int) (rmL 8) [.ref g] (S, K.1, V, K.2, N) (PX S V N g (rLa K g n).1 (some (.int (nI (rLa K g n).2)))) := by
  refine CtX.start GE (by decide) rfl (Nat.le_of_ble_eq_true rfl) (fun M X hx0 => ?_)
  have X : Cx E M RX13 cX13_readLaws 7 (rmL 8) (some .int) "readLaws" := X
  refine r_loc (L' := [some (.ref g), none, none, none, none, none, none]) rfl ?_
  obtain ⟨v21, v22, v32, v33, v34, v35, v36, v37, v39, s19, s20, s21, s22, s23, s24, s25, s26, s27⟩ := id hR
  generalize hRR : rLa K g n = RR
  rw [rLa] at hRR
  have H260 : ∀ (K1 : MJ) (n1 : Nat) (m : Int32) (x3 x4 x5 x6 : Option Value), m = 0 → (if K1.1 g 26 = 1 then ((true, K1), n1) else ((false, stp K1 g 1), n1)) = RR → G E M 0 0 (qX E M (rmL 8) (PX S V N g RR.1 (some (.int (nI RR.2))))) 7 [some (.ref g), some (.int (nI n1)), some (.int m), x3, x4, x5, x6] [] (S, K1.1, V, K1.2, N) := by
    intro K1 n1 m x3 x4 x5 x6 hm he
    refine r_iload_n X dX13_readLaws_7 rfl rfl ?_
    refine r_if_eq (tgt := 260) X dX13_readLaws_8 (by decide) (fun h8 => ?_) (fun h8 => ?_)
    · skip
      refine r_aload_n X dX13_readLaws_260 rfl rfl ?_
      refine r_getI X dX13_readLaws_261 fX13_159 (by assumption) (by first | assumption | rfl) ?_
      refine r_iconst (v := 1) X dX13_readLaws_264 (by decide) ?_
      refine r_icmp_eq (tgt := 274) X dX13_readLaws_265 (by decide) (fun h265 => ?_) (fun h265 => ?_)
      · skip
        refine r_iload_n X dX13_readLaws_274 rfl rfl ?_
        refine G.toX ?_
        refine r_ireturn X dX13_readLaws_275 rfl (by first | omega | decide | (simp only [rmL, rmA]; omega)) (by first | omega | decide | (simp only [rmL, rmA]; omega)) ?_
        have z1 : K1.1 g 26 = 1 := h265
        rw [if_pos z1] at he
        rw [← he]
        exact ⟨rfl, rfl⟩
      · skip
        refine r_aload_n X dX13_readLaws_268 rfl rfl ?_
        refine r_iconst (v := 1) X dX13_readLaws_269 (by decide) ?_
        refine q_callV X dX13_readLaws_270 mX13_186 cwX13_stop (c_mStp GE S _ V _ N g _ hs0 hR) rfl (by assumption) rfl rfl rfl (Nat.le_of_ble_eq_true rfl) ⟨Nat.le_of_ble_eq_true rfl, Nat.le_of_ble_eq_true rfl⟩ ⟨(by first | omega | decide | (simp only [rmL, rmA]; omega)), (by first | omega | decide | (simp only [rmL, rmA]; omega))⟩ ?_
        rintro _ _ ⟨rfl, rfl⟩
        refine t_athrow X dX13_readLaws_273 hx0 (by first | omega | decide | (simp only [rmL, rmA]; omega)) (by first | omega | decide | (simp only [rmL, rmA]; omega)) ?_
        have z1 : ¬ K1.1 g 26 = 1 := h265
        rw [if_neg z1] at he
        rw [← he]
        exact ⟨rfl, rfl⟩
    · skip
      exact absurd hm h8
  have H7 : ∀ n, n ≤ 11 → n ≤ 10 → ∀ (K1 : MJ) (x3 x4 x5 x6 : Option Value), MkOK K1.1 g → rLs K1 g n (11 - n) = RR → G E M 0 0 (qX E M (rmL 8) (PX S V N g RR.1 (some (.int (nI RR.2))))) 7 [some (.ref g), some (.int (nI n)), some (.int 1), x3, x4, x5, x6] [] (S, K1.1, V, K1.2, N) := by
    refine loopN 11 (fun n _ ih => ?_)
    intro hn10 K1 x3 x4 x5 x6 hK1 he
    rw [show 11 - n = (10 - n) + 1 by omega, rLs] at he
    have he : lCon (rLw K1 g n) g n (10 - n) = RR := he
    have H194 : ∀ (K2 : MJ) (kd a b c : Int32), n < 10 → MkOK K2.1 g → lCon (true, lPut K2 g n kd a b c) g n (10 - n) = RR → G E M 0 0 (qX E M (rmL 8) (PX S V N g RR.1 (some (.int (nI RR.2))))) 194 [some (.ref g), some (.int (nI n)), some (.int 1), some (.int kd), some (.int a), some (.int b), some (.int c)] [] (S, K2.1, V, K2.2, N) := by
      intro K2 kd a b c hn9 hK2 he
      rw [lCon, if_pos rfl] at he
      generalize hK3 : lPut K2 g n kd a b c = K3 at he
      have hK3o : MkOK K3.1 g := by
        rw [← hK3]
        exact hK2.keep (lPut_o (by omega)) (lPut_o (by omega)) (fun k => lPut_o (by omega))
      refine r_aload_n X dX13_readLaws_194 rfl rfl ?_
      refine r_getR X dX13_readLaws_195 fX13_88 (by assumption) (by assumption) ?_
      refine r_iconst (v := 4) X dX13_readLaws_198 (by decide) ?_
      refine r_iload_n X dX13_readLaws_199 rfl rfl ?_
      refine r_imul X dX13_readLaws_200 ?_
      refine r_topi (nI (4 * n)) (pk_mul 4 n) ?_
      refine r_iload_n X dX13_readLaws_201 rfl rfl ?_
      refine r_iastN X dX13_readLaws_202 (by assumption) (by omega) (by omega) ?_
      refine r_aload_n X dX13_readLaws_203 rfl rfl ?_
      refine r_getR X dX13_readLaws_204 fX13_88 (by assumption) (by assumption) ?_
      refine r_iconst (v := 4) X dX13_readLaws_207 (by decide) ?_
      refine r_iload_n X dX13_readLaws_208 rfl rfl ?_
      refine r_imul X dX13_readLaws_209 ?_
      refine r_topi (nI (4 * n)) (pk_mul 4 n) ?_
      refine r_iconst (v := 1) X dX13_readLaws_210 (by decide) ?_
      refine r_iadd X dX13_readLaws_211 ?_
      refine r_topi (nI (4 * n + 1)) (nI_add _ 1) ?_
      refine r_iload X dX13_readLaws_212 rfl ?_
      refine r_iastN X dX13_readLaws_214 (by assumption) (by omega) (by omega) ?_
      refine r_aload_n X dX13_readLaws_215 rfl rfl ?_
      refine r_getR X dX13_readLaws_216 fX13_88 (by assumption) (by assumption) ?_
      refine r_iconst (v := 4) X dX13_readLaws_219 (by decide) ?_
      refine r_iload_n X dX13_readLaws_220 rfl rfl ?_
      refine r_imul X dX13_readLaws_221 ?_
      refine r_topi (nI (4 * n)) (pk_mul 4 n) ?_
      refine r_iconst (v := 2) X dX13_readLaws_222 (by decide) ?_
      refine r_iadd X dX13_readLaws_223 ?_
      refine r_topi (nI (4 * n + 2)) (nI_add _ 2) ?_
      refine r_iload X dX13_readLaws_224 rfl ?_
      refine r_iastN X dX13_readLaws_226 (by assumption) (by omega) (by omega) ?_
      refine r_aload_n X dX13_readLaws_227 rfl rfl ?_
      refine r_getR X dX13_readLaws_228 fX13_88 (by assumption) (by assumption) ?_
      refine r_iconst (v := 4) X dX13_readLaws_231 (by decide) ?_
      refine r_iload_n X dX13_readLaws_232 rfl rfl ?_
      refine r_imul X dX13_readLaws_233 ?_
      refine r_topi (nI (4 * n)) (pk_mul 4 n) ?_
      refine r_iconst (v := 3) X dX13_readLaws_234 (by decide) ?_
      refine r_iadd X dX13_readLaws_235 ?_
      refine r_topi (nI (4 * n + 3)) (nI_add _ 3) ?_
      refine r_iload X dX13_readLaws_236 rfl ?_
      refine r_iastN X dX13_readLaws_238 (by assumption) (by omega) (by omega) ?_
      refine r_world (w' := (S, K3.1, V, K3.2, N)) (by rw [← hK3]; rfl) ?_
      first | refine r_iincN X dX13_readLaws_239 rfl (by decide) rfl ?_ | refine r_iinc X dX13_readLaws_239 rfl rfl (by decide) rfl ?_
      refine r_aload_n X dX13_readLaws_242 rfl rfl ?_
      refine r_bipush (v := 59) X dX13_readLaws_243 (by decide) ?_
      refine q_callV X dX13_readLaws_245 mX13_241 cwX13_is (c_mIs GE S _ V _ N g _ hs0) rfl (by assumption) rfl rfl rfl (Nat.le_of_ble_eq_true rfl) ⟨Nat.le_of_ble_eq_true rfl, Nat.le_of_ble_eq_true rfl⟩ ⟨(by first | omega | decide | (simp only [rmL, rmA]; omega)), (by first | omega | decide | (simp only [rmL, rmA]; omega))⟩ ?_
      rintro _ _ ⟨rfl, rfl⟩
      refine r_istore_n X dX13_readLaws_248 rfl (by decide) rfl ?_
      refine r_iload_n X dX13_readLaws_249 rfl rfl ?_
      refine r_if_eq (tgt := 257) X dX13_readLaws_250 (by decide) (fun h250 => ?_) (fun h250 => ?_)
      · skip
        refine r_goto (tgt := 7) X dX13_readLaws_257 (by decide) ?_
        first
          | (have z2 := bI_1 h250
             rw [if_pos z2] at he
             refine r_loc (L' := [some (.ref g), some (.int (nI (n + 1))), some (.int 1), some (.int kd), some (.int a), some (.int b), some (.int c)]) (by rw [z2]; rfl) ?_
             exact ih (by omega) (by omega) (nxt K3 g) _ _ _ _ (MkOK_nxt hK3o) (by rw [show 11 - (n + 1) = 10 - n by omega]; exact he))
          | (have z2 := bI_0 h250
             rw [if_neg (show ¬ mIs K3.1 g 59 = true by rw [z2]; decide)] at he
             exact H260 K3 (n + 1) _ _ _ _ _ h250 he)
      · skip
        refine r_aload_n X dX13_readLaws_253 rfl rfl ?_
        refine q_callV X dX13_readLaws_254 mX13_189 cwX13_next (c_nxt GE S K3 V N g hs0 hR hK3o) rfl (by assumption) rfl rfl rfl (Nat.le_of_ble_eq_true rfl) ⟨Nat.le_of_ble_eq_true rfl, Nat.le_of_ble_eq_true rfl⟩ ⟨(by first | omega | decide | (simp only [rmL, rmA]; omega)), (by first | omega | decide | (simp only [rmL, rmA]; omega))⟩ ?_
        rintro _ _ ⟨rfl, rfl⟩
        refine r_goto (tgt := 7) X dX13_readLaws_257 (by decide) ?_
        first
          | (have z2 := bI_1 h250
             rw [if_pos z2] at he
             refine r_loc (L' := [some (.ref g), some (.int (nI (n + 1))), some (.int 1), some (.int kd), some (.int a), some (.int b), some (.int c)]) (by rw [z2]; rfl) ?_
             exact ih (by omega) (by omega) (nxt K3 g) _ _ _ _ (MkOK_nxt hK3o) (by rw [show 11 - (n + 1) = 10 - n by omega]; exact he))
          | (have z2 := bI_0 h250
             rw [if_neg (show ¬ mIs K3.1 g 59 = true by rw [z2]; decide)] at he
             exact H260 K3 (n + 1) _ _ _ _ _ h250 he)
    have HD : ∀ (x3 x4 x5 x6 : Option Value), n < 10 → lCon (rLn (nxt K1 g) g (fun a K2 => (true, lPut K2 g n 2 a 0 0))) g n (10 - n) = RR → G E M 0 0 (qX E M (rmL 8) (PX S V N g RR.1 (some (.int (nI RR.2))))) 83 [some (.ref g), some (.int (nI n)), some (.int 1), x3, x4, x5, x6] [.int 2] (S, K1.1, V, K1.2, N) := by
      intro x3 x4 x5 x6 hn9 he
      refine r_istore_n X dX13_readLaws_83 rfl (by decide) rfl ?_
      refine r_aload_n X dX13_readLaws_84 rfl rfl ?_
      refine q_callV X dX13_readLaws_85 mX13_189 cwX13_next (c_nxt GE S K1 V N g hs0 hR hK1) rfl (by assumption) rfl rfl rfl (Nat.le_of_ble_eq_true rfl) ⟨Nat.le_of_ble_eq_true rfl, Nat.le_of_ble_eq_true rfl⟩ ⟨(by first | omega | decide | (simp only [rmL, rmA]; omega)), (by first | omega | decide | (simp only [rmL, rmA]; omega))⟩ ?_
      rintro _ _ ⟨rfl, rfl⟩
      refine r_aload_n X dX13_readLaws_88 rfl rfl ?_
      refine q_callX X dX13_readLaws_89 nX13_247.1 nX13_247.2.1 nX13_247.2.2 cwX13_needNumber (c_ndN GE S (nxt K1 g) V N g hs0 hR (MkOK_nxt hK1)) rfl (by assumption) rfl rfl rfl (Nat.le_of_ble_eq_true rfl) ⟨Nat.le_of_ble_eq_true rfl, Nat.le_of_ble_eq_true rfl⟩ ⟨(by first | omega | decide | (simp only [rmL, rmA]; omega)), (by first | omega | decide | (simp only [rmL, rmA]; omega))⟩ ?_ ?_
      rotate_left
      · rintro x9 w9 ⟨ho, rfl⟩
        obtain ⟨hb89, rfl⟩ := oc_t ho
        refine t_leave X hx0 (by first | omega | decide | (simp only [rmL, rmA]; omega)) (by first | omega | decide | (simp only [rmL, rmA]; omega)) ?_
        rw [rLn, if_neg (ndN_f hb89), lCon_f] at he
        rw [← he]
        exact ⟨rfl, by rw [ndN, if_neg (ndN_f hb89)]⟩
      rintro v9 w9 ⟨ho, rfl⟩
      obtain ⟨hb89, rfl⟩ := oc_r ho
      rw [rLn, if_pos (ndN_t hb89)] at he
      refine r_world (w' := (S, (nxt (nxt K1 g) g).1, V, (nxt (nxt K1 g) g).2, N)) (by rw [ndN, if_pos (ndN_t hb89)]) ?_
      refine r_istore X dX13_readLaws_92 (by decide) rfl ?_
      refine r_iconst (v := 0) X dX13_readLaws_94 (by decide) ?_
      refine r_istore X dX13_readLaws_95 (by decide) rfl ?_
      refine r_iconst (v := 0) X dX13_readLaws_97 (by decide) ?_
      refine r_istore X dX13_readLaws_98 (by decide) rfl ?_
      refine r_iload_n X dX13_readLaws_100 rfl rfl ?_
      refine r_iconst (v := 3) X dX13_readLaws_101 (by decide) ?_
      refine r_icmp_ne (tgt := 120) X dX13_readLaws_102 (by decide) (fun h102 => ?_) (fun h102 => ?_)
      · skip
        refine r_iload_n X dX13_readLaws_120 rfl rfl ?_
        refine r_if_ne (tgt := 194) X dX13_readLaws_121 (by decide) (fun h121 => ?_) (fun h121 => ?_)
        · skip
          exact H194 _ _ _ _ _ hn9 (MkOK_nxt (MkOK_nxt hK1)) he
        · skip
          exact absurd h121 (by decide)
      · skip
        exact absurd h102 (by decide)
    have HF : ∀ (x3 x4 x5 x6 : Option Value), n < 10 → lCon (rLn (nxt K1 g) g (fun a K2 => rLf K2 g n a)) g n (10 - n) = RR → G E M 0 0 (qX E M (rmL 8) (PX S V N g RR.1 (some (.int (nI RR.2))))) 83 [some (.ref g), some (.int (nI n)), some (.int 1), x3, x4, x5, x6] [.int 3] (S, K1.1, V, K1.2, N) := by
      intro x3 x4 x5 x6 hn9 he
      refine r_istore_n X dX13_readLaws_83 rfl (by decide) rfl ?_
      refine r_aload_n X dX13_readLaws_84 rfl rfl ?_
      refine q_callV X dX13_readLaws_85 mX13_189 cwX13_next (c_nxt GE S K1 V N g hs0 hR hK1) rfl (by assumption) rfl rfl rfl (Nat.le_of_ble_eq_true rfl) ⟨Nat.le_of_ble_eq_true rfl, Nat.le_of_ble_eq_true rfl⟩ ⟨(by first | omega | decide | (simp only [rmL, rmA]; omega)), (by first | omega | decide | (simp only [rmL, rmA]; omega))⟩ ?_
      rintro _ _ ⟨rfl, rfl⟩
      refine r_aload_n X dX13_readLaws_88 rfl rfl ?_
      refine q_callX X dX13_readLaws_89 nX13_247.1 nX13_247.2.1 nX13_247.2.2 cwX13_needNumber (c_ndN GE S (nxt K1 g) V N g hs0 hR (MkOK_nxt hK1)) rfl (by assumption) rfl rfl rfl (Nat.le_of_ble_eq_true rfl) ⟨Nat.le_of_ble_eq_true rfl, Nat.le_of_ble_eq_true rfl⟩ ⟨(by first | omega | decide | (simp only [rmL, rmA]; omega)), (by first | omega | decide | (simp only [rmL, rmA]; omega))⟩ ?_ ?_
      rotate_left
      · rintro x9 w9 ⟨ho, rfl⟩
        obtain ⟨hb89, rfl⟩ := oc_t ho
        refine t_leave X hx0 (by first | omega | decide | (simp only [rmL, rmA]; omega)) (by first | omega | decide | (simp only [rmL, rmA]; omega)) ?_
        rw [rLn, if_neg (ndN_f hb89), lCon_f] at he
        rw [← he]
        exact ⟨rfl, by rw [ndN, if_neg (ndN_f hb89)]⟩
      rintro v9 w9 ⟨ho, rfl⟩
      obtain ⟨hb89, rfl⟩ := oc_r ho
      rw [rLn, if_pos (ndN_t hb89)] at he
      refine r_world (w' := (S, (nxt (nxt K1 g) g).1, V, (nxt (nxt K1 g) g).2, N)) (by rw [ndN, if_pos (ndN_t hb89)]) ?_
      rw [rLf] at he
      generalize hK2 : nxt (nxt K1 g) g = K2 at he
      have hK2o : MkOK K2.1 g := by rw [← hK2]; exact MkOK_nxt (MkOK_nxt hK1)
      refine r_istore X dX13_readLaws_92 (by decide) rfl ?_
      refine r_iconst (v := 0) X dX13_readLaws_94 (by decide) ?_
      refine r_istore X dX13_readLaws_95 (by decide) rfl ?_
      refine r_iconst (v := 0) X dX13_readLaws_97 (by decide) ?_
      refine r_istore X dX13_readLaws_98 (by decide) rfl ?_
      refine r_iload_n X dX13_readLaws_100 rfl rfl ?_
      refine r_iconst (v := 3) X dX13_readLaws_101 (by decide) ?_
      refine r_icmp_ne (tgt := 120) X dX13_readLaws_102 (by decide) (fun h102 => ?_) (fun h102 => ?_)
      · skip
        exact absurd rfl h102
      · skip
        refine r_aload_n X dX13_readLaws_105 rfl rfl ?_
        refine r_ldcS X dX13_readLaws_106 (sX13_255 hZ) (fun u106 hu106 => ?_)
        refine q_callX X dX13_readLaws_108 nX13_257.1 nX13_257.2.1 nX13_257.2.2 cwX13_needWord (c_ndW GE S K2 V N g _ kw_for hZ hs0 hR hK2o (by assumption)) rfl (by assumption) rfl rfl rfl (Nat.le_of_ble_eq_true rfl) ⟨Nat.le_of_ble_eq_true rfl, Nat.le_of_ble_eq_true rfl⟩ ⟨(by first | omega | decide | (simp only [rmL, rmA]; omega)), (by first | omega | decide | (simp only [rmL, rmA]; omega))⟩ ?_ ?_
        rotate_left
        · rintro x9 w9 ⟨ho, rfl⟩
          obtain ⟨hb108, rfl⟩ := oc_t ho
          refine t_leave X hx0 (by first | omega | decide | (simp only [rmL, rmA]; omega)) (by first | omega | decide | (simp only [rmL, rmA]; omega)) ?_
          rw [rLt, if_neg (ndW_f hb108), lCon_f] at he
          rw [← he]
          exact ⟨rfl, by rw [ndW, if_neg (ndW_f hb108)]⟩
        rintro v9 w9 ⟨ho, rfl⟩
        obtain ⟨hb108, rfl⟩ := oc_r ho
        rw [rLt, if_pos (ndW_t hb108)] at he
        refine r_world (w' := (S, (nxt K2 g).1, V, (nxt K2 g).2, N)) (by rw [ndW, if_pos (ndW_t hb108)]) ?_
        refine r_aload_n X dX13_readLaws_111 rfl rfl ?_
        refine q_callX X dX13_readLaws_112 nX13_247.1 nX13_247.2.1 nX13_247.2.2 cwX13_needNumber (c_ndN GE S (nxt K2 g) V N g hs0 hR (MkOK_nxt hK2o)) rfl (by assumption) rfl rfl rfl (Nat.le_of_ble_eq_true rfl) ⟨Nat.le_of_ble_eq_true rfl, Nat.le_of_ble_eq_true rfl⟩ ⟨(by first | omega | decide | (simp only [rmL, rmA]; omega)), (by first | omega | decide | (simp only [rmL, rmA]; omega))⟩ ?_ ?_
        rotate_left
        · rintro x9 w9 ⟨ho, rfl⟩
          obtain ⟨hb112, rfl⟩ := oc_t ho
          refine t_leave X hx0 (by first | omega | decide | (simp only [rmL, rmA]; omega)) (by first | omega | decide | (simp only [rmL, rmA]; omega)) ?_
          rw [rLn, if_neg (ndN_f hb112), lCon_f] at he
          rw [← he]
          exact ⟨rfl, by rw [ndN, if_neg (ndN_f hb112)]⟩
        rintro v9 w9 ⟨ho, rfl⟩
        obtain ⟨hb112, rfl⟩ := oc_r ho
        rw [rLn, if_pos (ndN_t hb112)] at he
        refine r_world (w' := (S, (nxt (nxt K2 g) g).1, V, (nxt (nxt K2 g) g).2, N)) (by rw [ndN, if_pos (ndN_t hb112)]) ?_
        refine r_istore X dX13_readLaws_115 (by decide) rfl ?_
        refine r_goto (tgt := 194) X dX13_readLaws_117 (by decide) ?_
        exact H194 _ _ _ _ _ hn9 (MkOK_nxt (MkOK_nxt hK2o)) he
    have HR : ∀ (x3 x4 x5 x6 : Option Value), n < 10 → lCon (rLn (nxt K1 g) g (fun a K2 => rLr K2 g n a)) g n (10 - n) = RR → G E M 0 0 (qX E M (rmL 8) (PX S V N g RR.1 (some (.int (nI RR.2))))) 83 [some (.ref g), some (.int (nI n)), some (.int 1), x3, x4, x5, x6] [.int 0] (S, K1.1, V, K1.2, N) := by
      intro x3 x4 x5 x6 hn9 he
      refine r_istore_n X dX13_readLaws_83 rfl (by decide) rfl ?_
      refine r_aload_n X dX13_readLaws_84 rfl rfl ?_
      refine q_callV X dX13_readLaws_85 mX13_189 cwX13_next (c_nxt GE S K1 V N g hs0 hR hK1) rfl (by assumption) rfl rfl rfl (Nat.le_of_ble_eq_true rfl) ⟨Nat.le_of_ble_eq_true rfl, Nat.le_of_ble_eq_true rfl⟩ ⟨(by first | omega | decide | (simp only [rmL, rmA]; omega)), (by first | omega | decide | (simp only [rmL, rmA]; omega))⟩ ?_
      rintro _ _ ⟨rfl, rfl⟩
      refine r_aload_n X dX13_readLaws_88 rfl rfl ?_
      refine q_callX X dX13_readLaws_89 nX13_247.1 nX13_247.2.1 nX13_247.2.2 cwX13_needNumber (c_ndN GE S (nxt K1 g) V N g hs0 hR (MkOK_nxt hK1)) rfl (by assumption) rfl rfl rfl (Nat.le_of_ble_eq_true rfl) ⟨Nat.le_of_ble_eq_true rfl, Nat.le_of_ble_eq_true rfl⟩ ⟨(by first | omega | decide | (simp only [rmL, rmA]; omega)), (by first | omega | decide | (simp only [rmL, rmA]; omega))⟩ ?_ ?_
      rotate_left
      · rintro x9 w9 ⟨ho, rfl⟩
        obtain ⟨hb89, rfl⟩ := oc_t ho
        refine t_leave X hx0 (by first | omega | decide | (simp only [rmL, rmA]; omega)) (by first | omega | decide | (simp only [rmL, rmA]; omega)) ?_
        rw [rLn, if_neg (ndN_f hb89), lCon_f] at he
        rw [← he]
        exact ⟨rfl, by rw [ndN, if_neg (ndN_f hb89)]⟩
      rintro v9 w9 ⟨ho, rfl⟩
      obtain ⟨hb89, rfl⟩ := oc_r ho
      rw [rLn, if_pos (ndN_t hb89)] at he
      refine r_world (w' := (S, (nxt (nxt K1 g) g).1, V, (nxt (nxt K1 g) g).2, N)) (by rw [ndN, if_pos (ndN_t hb89)]) ?_
      rw [rLr] at he
      generalize hK2 : nxt (nxt K1 g) g = K2 at he
      have hK2o : MkOK K2.1 g := by rw [← hK2]; exact MkOK_nxt (MkOK_nxt hK1)
      refine r_istore X dX13_readLaws_92 (by decide) rfl ?_
      refine r_iconst (v := 0) X dX13_readLaws_94 (by decide) ?_
      refine r_istore X dX13_readLaws_95 (by decide) rfl ?_
      refine r_iconst (v := 0) X dX13_readLaws_97 (by decide) ?_
      refine r_istore X dX13_readLaws_98 (by decide) rfl ?_
      refine r_iload_n X dX13_readLaws_100 rfl rfl ?_
      refine r_iconst (v := 3) X dX13_readLaws_101 (by decide) ?_
      refine r_icmp_ne (tgt := 120) X dX13_readLaws_102 (by decide) (fun h102 => ?_) (fun h102 => ?_)
      · skip
        refine r_iload_n X dX13_readLaws_120 rfl rfl ?_
        refine r_if_ne (tgt := 194) X dX13_readLaws_121 (by decide) (fun h121 => ?_) (fun h121 => ?_)
        · skip
          exact absurd rfl h121
        · skip
          refine r_aload_n X dX13_readLaws_124 rfl rfl ?_
          refine r_ldcwS X dX13_readLaws_125 (sX13_261 hZ) (fun u125 hu125 => ?_)
          refine q_callV X dX13_readLaws_128 mX13_182 cwX13_isWord (c_mIsW GE S _ V _ N g _ kw_at hZ hs0 (by assumption)) rfl (by assumption) rfl rfl rfl (Nat.le_of_ble_eq_true rfl) ⟨Nat.le_of_ble_eq_true rfl, Nat.le_of_ble_eq_true rfl⟩ ⟨(by first | omega | decide | (simp only [rmL, rmA]; omega)), (by first | omega | decide | (simp only [rmL, rmA]; omega))⟩ ?_
          rintro _ _ ⟨rfl, rfl⟩
          refine r_if_ne (tgt := 150) X dX13_readLaws_131 (by decide) (fun h131 => ?_) (fun h131 => ?_)
          · skip
            refine r_aload_n X dX13_readLaws_150 rfl rfl ?_
            refine r_ldcwS X dX13_readLaws_151 (sX13_261 hZ) (fun u151 hu151 => ?_)
            refine q_callV X dX13_readLaws_154 mX13_182 cwX13_isWord (c_mIsW GE S _ V _ N g _ kw_at hZ hs0 (by assumption)) rfl (by assumption) rfl rfl rfl (Nat.le_of_ble_eq_true rfl) ⟨Nat.le_of_ble_eq_true rfl, Nat.le_of_ble_eq_true rfl⟩ ⟨(by first | omega | decide | (simp only [rmL, rmA]; omega)), (by first | omega | decide | (simp only [rmL, rmA]; omega))⟩ ?_
            rintro _ _ ⟨rfl, rfl⟩
            refine r_if_eq (tgt := 164) X dX13_readLaws_157 (by decide) (fun h157 => ?_) (fun h157 => ?_)
            · skip
              refine r_iconst (v := 1) X dX13_readLaws_164 (by decide) ?_
              refine r_istore_n X dX13_readLaws_165 rfl (by decide) rfl ?_
              refine r_aload_n X dX13_readLaws_166 rfl rfl ?_
              refine q_callV X dX13_readLaws_167 mX13_189 cwX13_next (c_nxt GE S K2 V N g hs0 hR hK2o) rfl (by assumption) rfl rfl rfl (Nat.le_of_ble_eq_true rfl) ⟨Nat.le_of_ble_eq_true rfl, Nat.le_of_ble_eq_true rfl⟩ ⟨(by first | omega | decide | (simp only [rmL, rmA]; omega)), (by first | omega | decide | (simp only [rmL, rmA]; omega))⟩ ?_
              rintro _ _ ⟨rfl, rfl⟩
              first
                | (have z1 := bI_1 h157
                   rw [if_pos z1] at he
                   skip
                   refine r_aload_n X dX13_readLaws_170 rfl rfl ?_
                   refine q_callX X dX13_readLaws_171 nX13_247.1 nX13_247.2.1 nX13_247.2.2 cwX13_needNumber (c_ndN GE S (nxt K2 g) V N g hs0 hR (MkOK_nxt hK2o)) rfl (by assumption) rfl rfl rfl (Nat.le_of_ble_eq_true rfl) ⟨Nat.le_of_ble_eq_true rfl, Nat.le_of_ble_eq_true rfl⟩ ⟨(by first | omega | decide | (simp only [rmL, rmA]; omega)), (by first | omega | decide | (simp only [rmL, rmA]; omega))⟩ ?_ ?_
                   rotate_left
                   · rintro x9 w9 ⟨ho, rfl⟩
                     obtain ⟨hb171, rfl⟩ := oc_t ho
                     refine t_leave X hx0 (by first | omega | decide | (simp only [rmL, rmA]; omega)) (by first | omega | decide | (simp only [rmL, rmA]; omega)) ?_
                     rw [rLn, if_neg (ndN_f hb171), lCon_f] at he
                     rw [← he]
                     exact ⟨rfl, by rw [ndN, if_neg (ndN_f hb171)]⟩
                   rintro v9 w9 ⟨ho, rfl⟩
                   obtain ⟨hb171, rfl⟩ := oc_r ho
                   rw [rLn, if_pos (ndN_t hb171)] at he
                   refine r_world (w' := (S, (nxt (nxt K2 g) g).1, V, (nxt (nxt K2 g) g).2, N)) (by rw [ndN, if_pos (ndN_t hb171)]) ?_
                   refine r_istore X dX13_readLaws_174 (by decide) rfl ?_
                   refine r_iload_n X dX13_readLaws_176 rfl rfl ?_
                   refine r_iconst (v := 1) X dX13_readLaws_177 (by decide) ?_
                   refine r_icmp_ne (tgt := 194) X dX13_readLaws_178 (by decide) (fun h178 => ?_) (fun h178 => ?_)
                   · skip
                     exact H194 _ _ _ _ _ hn9 (MkOK_nxt (MkOK_nxt hK2o)) he
                   · skip
                     exact absurd h178 (by decide)
                  )
                | (have z1 := bI_0 h157
                   have z2 := bI_1 h141
                   rw [if_neg (show ¬ mIsW K2.1 K2.2 g kw_at = true by rw [z1]; decide), if_pos z2] at he
                   skip
                   refine r_aload_n X dX13_readLaws_170 rfl rfl ?_
                   refine q_callX X dX13_readLaws_171 nX13_247.1 nX13_247.2.1 nX13_247.2.2 cwX13_needNumber (c_ndN GE S (nxt K2 g) V N g hs0 hR (MkOK_nxt hK2o)) rfl (by assumption) rfl rfl rfl (Nat.le_of_ble_eq_true rfl) ⟨Nat.le_of_ble_eq_true rfl, Nat.le_of_ble_eq_true rfl⟩ ⟨(by first | omega | decide | (simp only [rmL, rmA]; omega)), (by first | omega | decide | (simp only [rmL, rmA]; omega))⟩ ?_ ?_
                   rotate_left
                   · rintro x9 w9 ⟨ho, rfl⟩
                     obtain ⟨hb171, rfl⟩ := oc_t ho
                     refine t_leave X hx0 (by first | omega | decide | (simp only [rmL, rmA]; omega)) (by first | omega | decide | (simp only [rmL, rmA]; omega)) ?_
                     rw [rLn, if_neg (ndN_f hb171), lCon_f] at he
                     rw [← he]
                     exact ⟨rfl, by rw [ndN, if_neg (ndN_f hb171)]⟩
                   rintro v9 w9 ⟨ho, rfl⟩
                   obtain ⟨hb171, rfl⟩ := oc_r ho
                   rw [rLn, if_pos (ndN_t hb171)] at he
                   refine r_world (w' := (S, (nxt (nxt K2 g) g).1, V, (nxt (nxt K2 g) g).2, N)) (by rw [ndN, if_pos (ndN_t hb171)]) ?_
                   generalize hK4 : nxt (nxt K2 g) g = K4 at he
                   have hK4o : MkOK K4.1 g := by rw [← hK4]; exact MkOK_nxt (MkOK_nxt hK2o)
                   refine r_istore X dX13_readLaws_174 (by decide) rfl ?_
                   refine r_iload_n X dX13_readLaws_176 rfl rfl ?_
                   refine r_iconst (v := 1) X dX13_readLaws_177 (by decide) ?_
                   refine r_icmp_ne (tgt := 194) X dX13_readLaws_178 (by decide) (fun h178 => ?_) (fun h178 => ?_)
                   · skip
                     exact absurd rfl h178
                   · skip
                     refine r_aload_n X dX13_readLaws_181 rfl rfl ?_
                     refine r_ldcwS X dX13_readLaws_182 (sX13_264 hZ) (fun u182 hu182 => ?_)
                     refine q_callX X dX13_readLaws_185 nX13_257.1 nX13_257.2.1 nX13_257.2.2 cwX13_needWord (c_ndW GE S K4 V N g _ kw_to hZ hs0 hR hK4o (by assumption)) rfl (by assumption) rfl rfl rfl (Nat.le_of_ble_eq_true rfl) ⟨Nat.le_of_ble_eq_true rfl, Nat.le_of_ble_eq_true rfl⟩ ⟨(by first | omega | decide | (simp only [rmL, rmA]; omega)), (by first | omega | decide | (simp only [rmL, rmA]; omega))⟩ ?_ ?_
                     rotate_left
                     · rintro x9 w9 ⟨ho, rfl⟩
                       obtain ⟨hb185, rfl⟩ := oc_t ho
                       refine t_leave X hx0 (by first | omega | decide | (simp only [rmL, rmA]; omega)) (by first | omega | decide | (simp only [rmL, rmA]; omega)) ?_
                       rw [rLt, if_neg (ndW_f hb185), lCon_f] at he
                       rw [← he]
                       exact ⟨rfl, by rw [ndW, if_neg (ndW_f hb185)]⟩
                     rintro v9 w9 ⟨ho, rfl⟩
                     obtain ⟨hb185, rfl⟩ := oc_r ho
                     rw [rLt, if_pos (ndW_t hb185)] at he
                     refine r_world (w' := (S, (nxt K4 g).1, V, (nxt K4 g).2, N)) (by rw [ndW, if_pos (ndW_t hb185)]) ?_
                     refine r_aload_n X dX13_readLaws_188 rfl rfl ?_
                     refine q_callX X dX13_readLaws_189 nX13_247.1 nX13_247.2.1 nX13_247.2.2 cwX13_needNumber (c_ndN GE S (nxt K4 g) V N g hs0 hR (MkOK_nxt hK4o)) rfl (by assumption) rfl rfl rfl (Nat.le_of_ble_eq_true rfl) ⟨Nat.le_of_ble_eq_true rfl, Nat.le_of_ble_eq_true rfl⟩ ⟨(by first | omega | decide | (simp only [rmL, rmA]; omega)), (by first | omega | decide | (simp only [rmL, rmA]; omega))⟩ ?_ ?_
                     rotate_left
                     · rintro x9 w9 ⟨ho, rfl⟩
                       obtain ⟨hb189, rfl⟩ := oc_t ho
                       refine t_leave X hx0 (by first | omega | decide | (simp only [rmL, rmA]; omega)) (by first | omega | decide | (simp only [rmL, rmA]; omega)) ?_
                       rw [rLn, if_neg (ndN_f hb189), lCon_f] at he
                       rw [← he]
                       exact ⟨rfl, by rw [ndN, if_neg (ndN_f hb189)]⟩
                     rintro v9 w9 ⟨ho, rfl⟩
                     obtain ⟨hb189, rfl⟩ := oc_r ho
                     rw [rLn, if_pos (ndN_t hb189)] at he
                     refine r_world (w' := (S, (nxt (nxt K4 g) g).1, V, (nxt (nxt K4 g) g).2, N)) (by rw [ndN, if_pos (ndN_t hb189)]) ?_
                     refine r_istore X dX13_readLaws_192 (by decide) rfl ?_
                     exact H194 _ _ _ _ _ hn9 (MkOK_nxt (MkOK_nxt hK4o)) he
                  )
                | (have z1 := bI_0 h157
                   have z2 := bI_1 h131
                   exact absurd (z1.symm.trans z2) (by decide))
            · skip
              refine r_iconst (v := 0) X dX13_readLaws_160 (by decide) ?_
              refine r_goto (tgt := 165) X dX13_readLaws_161 (by decide) ?_
              refine r_istore_n X dX13_readLaws_165 rfl (by decide) rfl ?_
              refine r_aload_n X dX13_readLaws_166 rfl rfl ?_
              refine q_callV X dX13_readLaws_167 mX13_189 cwX13_next (c_nxt GE S K2 V N g hs0 hR hK2o) rfl (by assumption) rfl rfl rfl (Nat.le_of_ble_eq_true rfl) ⟨Nat.le_of_ble_eq_true rfl, Nat.le_of_ble_eq_true rfl⟩ ⟨(by first | omega | decide | (simp only [rmL, rmA]; omega)), (by first | omega | decide | (simp only [rmL, rmA]; omega))⟩ ?_
              rintro _ _ ⟨rfl, rfl⟩
              first
                | (have z1 := bI_1 h157
                   rw [if_pos z1] at he
                   skip
                   refine r_aload_n X dX13_readLaws_170 rfl rfl ?_
                   refine q_callX X dX13_readLaws_171 nX13_247.1 nX13_247.2.1 nX13_247.2.2 cwX13_needNumber (c_ndN GE S (nxt K2 g) V N g hs0 hR (MkOK_nxt hK2o)) rfl (by assumption) rfl rfl rfl (Nat.le_of_ble_eq_true rfl) ⟨Nat.le_of_ble_eq_true rfl, Nat.le_of_ble_eq_true rfl⟩ ⟨(by first | omega | decide | (simp only [rmL, rmA]; omega)), (by first | omega | decide | (simp only [rmL, rmA]; omega))⟩ ?_ ?_
                   rotate_left
                   · rintro x9 w9 ⟨ho, rfl⟩
                     obtain ⟨hb171, rfl⟩ := oc_t ho
                     refine t_leave X hx0 (by first | omega | decide | (simp only [rmL, rmA]; omega)) (by first | omega | decide | (simp only [rmL, rmA]; omega)) ?_
                     rw [rLn, if_neg (ndN_f hb171), lCon_f] at he
                     rw [← he]
                     exact ⟨rfl, by rw [ndN, if_neg (ndN_f hb171)]⟩
                   rintro v9 w9 ⟨ho, rfl⟩
                   obtain ⟨hb171, rfl⟩ := oc_r ho
                   rw [rLn, if_pos (ndN_t hb171)] at he
                   refine r_world (w' := (S, (nxt (nxt K2 g) g).1, V, (nxt (nxt K2 g) g).2, N)) (by rw [ndN, if_pos (ndN_t hb171)]) ?_
                   refine r_istore X dX13_readLaws_174 (by decide) rfl ?_
                   refine r_iload_n X dX13_readLaws_176 rfl rfl ?_
                   refine r_iconst (v := 1) X dX13_readLaws_177 (by decide) ?_
                   refine r_icmp_ne (tgt := 194) X dX13_readLaws_178 (by decide) (fun h178 => ?_) (fun h178 => ?_)
                   · skip
                     exact H194 _ _ _ _ _ hn9 (MkOK_nxt (MkOK_nxt hK2o)) he
                   · skip
                     exact absurd h178 (by decide)
                  )
                | (have z1 := bI_0 h157
                   have z2 := bI_1 h141
                   rw [if_neg (show ¬ mIsW K2.1 K2.2 g kw_at = true by rw [z1]; decide), if_pos z2] at he
                   skip
                   refine r_aload_n X dX13_readLaws_170 rfl rfl ?_
                   refine q_callX X dX13_readLaws_171 nX13_247.1 nX13_247.2.1 nX13_247.2.2 cwX13_needNumber (c_ndN GE S (nxt K2 g) V N g hs0 hR (MkOK_nxt hK2o)) rfl (by assumption) rfl rfl rfl (Nat.le_of_ble_eq_true rfl) ⟨Nat.le_of_ble_eq_true rfl, Nat.le_of_ble_eq_true rfl⟩ ⟨(by first | omega | decide | (simp only [rmL, rmA]; omega)), (by first | omega | decide | (simp only [rmL, rmA]; omega))⟩ ?_ ?_
                   rotate_left
                   · rintro x9 w9 ⟨ho, rfl⟩
                     obtain ⟨hb171, rfl⟩ := oc_t ho
                     refine t_leave X hx0 (by first | omega | decide | (simp only [rmL, rmA]; omega)) (by first | omega | decide | (simp only [rmL, rmA]; omega)) ?_
                     rw [rLn, if_neg (ndN_f hb171), lCon_f] at he
                     rw [← he]
                     exact ⟨rfl, by rw [ndN, if_neg (ndN_f hb171)]⟩
                   rintro v9 w9 ⟨ho, rfl⟩
                   obtain ⟨hb171, rfl⟩ := oc_r ho
                   rw [rLn, if_pos (ndN_t hb171)] at he
                   refine r_world (w' := (S, (nxt (nxt K2 g) g).1, V, (nxt (nxt K2 g) g).2, N)) (by rw [ndN, if_pos (ndN_t hb171)]) ?_
                   generalize hK4 : nxt (nxt K2 g) g = K4 at he
                   have hK4o : MkOK K4.1 g := by rw [← hK4]; exact MkOK_nxt (MkOK_nxt hK2o)
                   refine r_istore X dX13_readLaws_174 (by decide) rfl ?_
                   refine r_iload_n X dX13_readLaws_176 rfl rfl ?_
                   refine r_iconst (v := 1) X dX13_readLaws_177 (by decide) ?_
                   refine r_icmp_ne (tgt := 194) X dX13_readLaws_178 (by decide) (fun h178 => ?_) (fun h178 => ?_)
                   · skip
                     exact absurd rfl h178
                   · skip
                     refine r_aload_n X dX13_readLaws_181 rfl rfl ?_
                     refine r_ldcwS X dX13_readLaws_182 (sX13_264 hZ) (fun u182 hu182 => ?_)
                     refine q_callX X dX13_readLaws_185 nX13_257.1 nX13_257.2.1 nX13_257.2.2 cwX13_needWord (c_ndW GE S K4 V N g _ kw_to hZ hs0 hR hK4o (by assumption)) rfl (by assumption) rfl rfl rfl (Nat.le_of_ble_eq_true rfl) ⟨Nat.le_of_ble_eq_true rfl, Nat.le_of_ble_eq_true rfl⟩ ⟨(by first | omega | decide | (simp only [rmL, rmA]; omega)), (by first | omega | decide | (simp only [rmL, rmA]; omega))⟩ ?_ ?_
                     rotate_left
                     · rintro x9 w9 ⟨ho, rfl⟩
                       obtain ⟨hb185, rfl⟩ := oc_t ho
                       refine t_leave X hx0 (by first | omega | decide | (simp only [rmL, rmA]; omega)) (by first | omega | decide | (simp only [rmL, rmA]; omega)) ?_
                       rw [rLt, if_neg (ndW_f hb185), lCon_f] at he
                       rw [← he]
                       exact ⟨rfl, by rw [ndW, if_neg (ndW_f hb185)]⟩
                     rintro v9 w9 ⟨ho, rfl⟩
                     obtain ⟨hb185, rfl⟩ := oc_r ho
                     rw [rLt, if_pos (ndW_t hb185)] at he
                     refine r_world (w' := (S, (nxt K4 g).1, V, (nxt K4 g).2, N)) (by rw [ndW, if_pos (ndW_t hb185)]) ?_
                     refine r_aload_n X dX13_readLaws_188 rfl rfl ?_
                     refine q_callX X dX13_readLaws_189 nX13_247.1 nX13_247.2.1 nX13_247.2.2 cwX13_needNumber (c_ndN GE S (nxt K4 g) V N g hs0 hR (MkOK_nxt hK4o)) rfl (by assumption) rfl rfl rfl (Nat.le_of_ble_eq_true rfl) ⟨Nat.le_of_ble_eq_true rfl, Nat.le_of_ble_eq_true rfl⟩ ⟨(by first | omega | decide | (simp only [rmL, rmA]; omega)), (by first | omega | decide | (simp only [rmL, rmA]; omega))⟩ ?_ ?_
                     rotate_left
                     · rintro x9 w9 ⟨ho, rfl⟩
                       obtain ⟨hb189, rfl⟩ := oc_t ho
                       refine t_leave X hx0 (by first | omega | decide | (simp only [rmL, rmA]; omega)) (by first | omega | decide | (simp only [rmL, rmA]; omega)) ?_
                       rw [rLn, if_neg (ndN_f hb189), lCon_f] at he
                       rw [← he]
                       exact ⟨rfl, by rw [ndN, if_neg (ndN_f hb189)]⟩
                     rintro v9 w9 ⟨ho, rfl⟩
                     obtain ⟨hb189, rfl⟩ := oc_r ho
                     rw [rLn, if_pos (ndN_t hb189)] at he
                     refine r_world (w' := (S, (nxt (nxt K4 g) g).1, V, (nxt (nxt K4 g) g).2, N)) (by rw [ndN, if_pos (ndN_t hb189)]) ?_
                     refine r_istore X dX13_readLaws_192 (by decide) rfl ?_
                     exact H194 _ _ _ _ _ hn9 (MkOK_nxt (MkOK_nxt hK4o)) he
                  )
                | (have z1 := bI_0 h157
                   have z2 := bI_1 h131
                   exact absurd (z1.symm.trans z2) (by decide))
          · skip
            refine r_aload_n X dX13_readLaws_134 rfl rfl ?_
            refine r_ldcwS X dX13_readLaws_135 (sX13_262 hZ) (fun u135 hu135 => ?_)
            refine q_callV X dX13_readLaws_138 mX13_182 cwX13_isWord (c_mIsW GE S _ V _ N g _ kw_from hZ hs0 (by assumption)) rfl (by assumption) rfl rfl rfl (Nat.le_of_ble_eq_true rfl) ⟨Nat.le_of_ble_eq_true rfl, Nat.le_of_ble_eq_true rfl⟩ ⟨(by first | omega | decide | (simp only [rmL, rmA]; omega)), (by first | omega | decide | (simp only [rmL, rmA]; omega))⟩ ?_
            rintro _ _ ⟨rfl, rfl⟩
            refine r_if_ne (tgt := 150) X dX13_readLaws_141 (by decide) (fun h141 => ?_) (fun h141 => ?_)
            · skip
              refine r_aload_n X dX13_readLaws_150 rfl rfl ?_
              refine r_ldcwS X dX13_readLaws_151 (sX13_261 hZ) (fun u151 hu151 => ?_)
              refine q_callV X dX13_readLaws_154 mX13_182 cwX13_isWord (c_mIsW GE S _ V _ N g _ kw_at hZ hs0 (by assumption)) rfl (by assumption) rfl rfl rfl (Nat.le_of_ble_eq_true rfl) ⟨Nat.le_of_ble_eq_true rfl, Nat.le_of_ble_eq_true rfl⟩ ⟨(by first | omega | decide | (simp only [rmL, rmA]; omega)), (by first | omega | decide | (simp only [rmL, rmA]; omega))⟩ ?_
              rintro _ _ ⟨rfl, rfl⟩
              refine r_if_eq (tgt := 164) X dX13_readLaws_157 (by decide) (fun h157 => ?_) (fun h157 => ?_)
              · skip
                refine r_iconst (v := 1) X dX13_readLaws_164 (by decide) ?_
                refine r_istore_n X dX13_readLaws_165 rfl (by decide) rfl ?_
                refine r_aload_n X dX13_readLaws_166 rfl rfl ?_
                refine q_callV X dX13_readLaws_167 mX13_189 cwX13_next (c_nxt GE S K2 V N g hs0 hR hK2o) rfl (by assumption) rfl rfl rfl (Nat.le_of_ble_eq_true rfl) ⟨Nat.le_of_ble_eq_true rfl, Nat.le_of_ble_eq_true rfl⟩ ⟨(by first | omega | decide | (simp only [rmL, rmA]; omega)), (by first | omega | decide | (simp only [rmL, rmA]; omega))⟩ ?_
                rintro _ _ ⟨rfl, rfl⟩
                first
                  | (have z1 := bI_1 h157
                     rw [if_pos z1] at he
                     skip
                     refine r_aload_n X dX13_readLaws_170 rfl rfl ?_
                     refine q_callX X dX13_readLaws_171 nX13_247.1 nX13_247.2.1 nX13_247.2.2 cwX13_needNumber (c_ndN GE S (nxt K2 g) V N g hs0 hR (MkOK_nxt hK2o)) rfl (by assumption) rfl rfl rfl (Nat.le_of_ble_eq_true rfl) ⟨Nat.le_of_ble_eq_true rfl, Nat.le_of_ble_eq_true rfl⟩ ⟨(by first | omega | decide | (simp only [rmL, rmA]; omega)), (by first | omega | decide | (simp only [rmL, rmA]; omega))⟩ ?_ ?_
                     rotate_left
                     · rintro x9 w9 ⟨ho, rfl⟩
                       obtain ⟨hb171, rfl⟩ := oc_t ho
                       refine t_leave X hx0 (by first | omega | decide | (simp only [rmL, rmA]; omega)) (by first | omega | decide | (simp only [rmL, rmA]; omega)) ?_
                       rw [rLn, if_neg (ndN_f hb171), lCon_f] at he
                       rw [← he]
                       exact ⟨rfl, by rw [ndN, if_neg (ndN_f hb171)]⟩
                     rintro v9 w9 ⟨ho, rfl⟩
                     obtain ⟨hb171, rfl⟩ := oc_r ho
                     rw [rLn, if_pos (ndN_t hb171)] at he
                     refine r_world (w' := (S, (nxt (nxt K2 g) g).1, V, (nxt (nxt K2 g) g).2, N)) (by rw [ndN, if_pos (ndN_t hb171)]) ?_
                     refine r_istore X dX13_readLaws_174 (by decide) rfl ?_
                     refine r_iload_n X dX13_readLaws_176 rfl rfl ?_
                     refine r_iconst (v := 1) X dX13_readLaws_177 (by decide) ?_
                     refine r_icmp_ne (tgt := 194) X dX13_readLaws_178 (by decide) (fun h178 => ?_) (fun h178 => ?_)
                     · skip
                       exact H194 _ _ _ _ _ hn9 (MkOK_nxt (MkOK_nxt hK2o)) he
                     · skip
                       exact absurd h178 (by decide)
                    )
                  | (have z1 := bI_0 h157
                     have z2 := bI_1 h141
                     rw [if_neg (show ¬ mIsW K2.1 K2.2 g kw_at = true by rw [z1]; decide), if_pos z2] at he
                     skip
                     refine r_aload_n X dX13_readLaws_170 rfl rfl ?_
                     refine q_callX X dX13_readLaws_171 nX13_247.1 nX13_247.2.1 nX13_247.2.2 cwX13_needNumber (c_ndN GE S (nxt K2 g) V N g hs0 hR (MkOK_nxt hK2o)) rfl (by assumption) rfl rfl rfl (Nat.le_of_ble_eq_true rfl) ⟨Nat.le_of_ble_eq_true rfl, Nat.le_of_ble_eq_true rfl⟩ ⟨(by first | omega | decide | (simp only [rmL, rmA]; omega)), (by first | omega | decide | (simp only [rmL, rmA]; omega))⟩ ?_ ?_
                     rotate_left
                     · rintro x9 w9 ⟨ho, rfl⟩
                       obtain ⟨hb171, rfl⟩ := oc_t ho
                       refine t_leave X hx0 (by first | omega | decide | (simp only [rmL, rmA]; omega)) (by first | omega | decide | (simp only [rmL, rmA]; omega)) ?_
                       rw [rLn, if_neg (ndN_f hb171), lCon_f] at he
                       rw [← he]
                       exact ⟨rfl, by rw [ndN, if_neg (ndN_f hb171)]⟩
                     rintro v9 w9 ⟨ho, rfl⟩
                     obtain ⟨hb171, rfl⟩ := oc_r ho
                     rw [rLn, if_pos (ndN_t hb171)] at he
                     refine r_world (w' := (S, (nxt (nxt K2 g) g).1, V, (nxt (nxt K2 g) g).2, N)) (by rw [ndN, if_pos (ndN_t hb171)]) ?_
                     generalize hK4 : nxt (nxt K2 g) g = K4 at he
                     have hK4o : MkOK K4.1 g := by rw [← hK4]; exact MkOK_nxt (MkOK_nxt hK2o)
                     refine r_istore X dX13_readLaws_174 (by decide) rfl ?_
                     refine r_iload_n X dX13_readLaws_176 rfl rfl ?_
                     refine r_iconst (v := 1) X dX13_readLaws_177 (by decide) ?_
                     refine r_icmp_ne (tgt := 194) X dX13_readLaws_178 (by decide) (fun h178 => ?_) (fun h178 => ?_)
                     · skip
                       exact absurd rfl h178
                     · skip
                       refine r_aload_n X dX13_readLaws_181 rfl rfl ?_
                       refine r_ldcwS X dX13_readLaws_182 (sX13_264 hZ) (fun u182 hu182 => ?_)
                       refine q_callX X dX13_readLaws_185 nX13_257.1 nX13_257.2.1 nX13_257.2.2 cwX13_needWord (c_ndW GE S K4 V N g _ kw_to hZ hs0 hR hK4o (by assumption)) rfl (by assumption) rfl rfl rfl (Nat.le_of_ble_eq_true rfl) ⟨Nat.le_of_ble_eq_true rfl, Nat.le_of_ble_eq_true rfl⟩ ⟨(by first | omega | decide | (simp only [rmL, rmA]; omega)), (by first | omega | decide | (simp only [rmL, rmA]; omega))⟩ ?_ ?_
                       rotate_left
                       · rintro x9 w9 ⟨ho, rfl⟩
                         obtain ⟨hb185, rfl⟩ := oc_t ho
                         refine t_leave X hx0 (by first | omega | decide | (simp only [rmL, rmA]; omega)) (by first | omega | decide | (simp only [rmL, rmA]; omega)) ?_
                         rw [rLt, if_neg (ndW_f hb185), lCon_f] at he
                         rw [← he]
                         exact ⟨rfl, by rw [ndW, if_neg (ndW_f hb185)]⟩
                       rintro v9 w9 ⟨ho, rfl⟩
                       obtain ⟨hb185, rfl⟩ := oc_r ho
                       rw [rLt, if_pos (ndW_t hb185)] at he
                       refine r_world (w' := (S, (nxt K4 g).1, V, (nxt K4 g).2, N)) (by rw [ndW, if_pos (ndW_t hb185)]) ?_
                       refine r_aload_n X dX13_readLaws_188 rfl rfl ?_
                       refine q_callX X dX13_readLaws_189 nX13_247.1 nX13_247.2.1 nX13_247.2.2 cwX13_needNumber (c_ndN GE S (nxt K4 g) V N g hs0 hR (MkOK_nxt hK4o)) rfl (by assumption) rfl rfl rfl (Nat.le_of_ble_eq_true rfl) ⟨Nat.le_of_ble_eq_true rfl, Nat.le_of_ble_eq_true rfl⟩ ⟨(by first | omega | decide | (simp only [rmL, rmA]; omega)), (by first | omega | decide | (simp only [rmL, rmA]; omega))⟩ ?_ ?_
                       rotate_left
                       · rintro x9 w9 ⟨ho, rfl⟩
                         obtain ⟨hb189, rfl⟩ := oc_t ho
                         refine t_leave X hx0 (by first | omega | decide | (simp only [rmL, rmA]; omega)) (by first | omega | decide | (simp only [rmL, rmA]; omega)) ?_
                         rw [rLn, if_neg (ndN_f hb189), lCon_f] at he
                         rw [← he]
                         exact ⟨rfl, by rw [ndN, if_neg (ndN_f hb189)]⟩
                       rintro v9 w9 ⟨ho, rfl⟩
                       obtain ⟨hb189, rfl⟩ := oc_r ho
                       rw [rLn, if_pos (ndN_t hb189)] at he
                       refine r_world (w' := (S, (nxt (nxt K4 g) g).1, V, (nxt (nxt K4 g) g).2, N)) (by rw [ndN, if_pos (ndN_t hb189)]) ?_
                       refine r_istore X dX13_readLaws_192 (by decide) rfl ?_
                       exact H194 _ _ _ _ _ hn9 (MkOK_nxt (MkOK_nxt hK4o)) he
                    )
                  | (have z1 := bI_0 h157
                     have z2 := bI_1 h131
                     exact absurd (z1.symm.trans z2) (by decide))
              · skip
                refine r_iconst (v := 0) X dX13_readLaws_160 (by decide) ?_
                refine r_goto (tgt := 165) X dX13_readLaws_161 (by decide) ?_
                refine r_istore_n X dX13_readLaws_165 rfl (by decide) rfl ?_
                refine r_aload_n X dX13_readLaws_166 rfl rfl ?_
                refine q_callV X dX13_readLaws_167 mX13_189 cwX13_next (c_nxt GE S K2 V N g hs0 hR hK2o) rfl (by assumption) rfl rfl rfl (Nat.le_of_ble_eq_true rfl) ⟨Nat.le_of_ble_eq_true rfl, Nat.le_of_ble_eq_true rfl⟩ ⟨(by first | omega | decide | (simp only [rmL, rmA]; omega)), (by first | omega | decide | (simp only [rmL, rmA]; omega))⟩ ?_
                rintro _ _ ⟨rfl, rfl⟩
                first
                  | (have z1 := bI_1 h157
                     rw [if_pos z1] at he
                     skip
                     refine r_aload_n X dX13_readLaws_170 rfl rfl ?_
                     refine q_callX X dX13_readLaws_171 nX13_247.1 nX13_247.2.1 nX13_247.2.2 cwX13_needNumber (c_ndN GE S (nxt K2 g) V N g hs0 hR (MkOK_nxt hK2o)) rfl (by assumption) rfl rfl rfl (Nat.le_of_ble_eq_true rfl) ⟨Nat.le_of_ble_eq_true rfl, Nat.le_of_ble_eq_true rfl⟩ ⟨(by first | omega | decide | (simp only [rmL, rmA]; omega)), (by first | omega | decide | (simp only [rmL, rmA]; omega))⟩ ?_ ?_
                     rotate_left
                     · rintro x9 w9 ⟨ho, rfl⟩
                       obtain ⟨hb171, rfl⟩ := oc_t ho
                       refine t_leave X hx0 (by first | omega | decide | (simp only [rmL, rmA]; omega)) (by first | omega | decide | (simp only [rmL, rmA]; omega)) ?_
                       rw [rLn, if_neg (ndN_f hb171), lCon_f] at he
                       rw [← he]
                       exact ⟨rfl, by rw [ndN, if_neg (ndN_f hb171)]⟩
                     rintro v9 w9 ⟨ho, rfl⟩
                     obtain ⟨hb171, rfl⟩ := oc_r ho
                     rw [rLn, if_pos (ndN_t hb171)] at he
                     refine r_world (w' := (S, (nxt (nxt K2 g) g).1, V, (nxt (nxt K2 g) g).2, N)) (by rw [ndN, if_pos (ndN_t hb171)]) ?_
                     refine r_istore X dX13_readLaws_174 (by decide) rfl ?_
                     refine r_iload_n X dX13_readLaws_176 rfl rfl ?_
                     refine r_iconst (v := 1) X dX13_readLaws_177 (by decide) ?_
                     refine r_icmp_ne (tgt := 194) X dX13_readLaws_178 (by decide) (fun h178 => ?_) (fun h178 => ?_)
                     · skip
                       exact H194 _ _ _ _ _ hn9 (MkOK_nxt (MkOK_nxt hK2o)) he
                     · skip
                       exact absurd h178 (by decide)
                    )
                  | (have z1 := bI_0 h157
                     have z2 := bI_1 h141
                     rw [if_neg (show ¬ mIsW K2.1 K2.2 g kw_at = true by rw [z1]; decide), if_pos z2] at he
                     skip
                     refine r_aload_n X dX13_readLaws_170 rfl rfl ?_
                     refine q_callX X dX13_readLaws_171 nX13_247.1 nX13_247.2.1 nX13_247.2.2 cwX13_needNumber (c_ndN GE S (nxt K2 g) V N g hs0 hR (MkOK_nxt hK2o)) rfl (by assumption) rfl rfl rfl (Nat.le_of_ble_eq_true rfl) ⟨Nat.le_of_ble_eq_true rfl, Nat.le_of_ble_eq_true rfl⟩ ⟨(by first | omega | decide | (simp only [rmL, rmA]; omega)), (by first | omega | decide | (simp only [rmL, rmA]; omega))⟩ ?_ ?_
                     rotate_left
                     · rintro x9 w9 ⟨ho, rfl⟩
                       obtain ⟨hb171, rfl⟩ := oc_t ho
                       refine t_leave X hx0 (by first | omega | decide | (simp only [rmL, rmA]; omega)) (by first | omega | decide | (simp only [rmL, rmA]; omega)) ?_
                       rw [rLn, if_neg (ndN_f hb171), lCon_f] at he
                       rw [← he]
                       exact ⟨rfl, by rw [ndN, if_neg (ndN_f hb171)]⟩
                     rintro v9 w9 ⟨ho, rfl⟩
                     obtain ⟨hb171, rfl⟩ := oc_r ho
                     rw [rLn, if_pos (ndN_t hb171)] at he
                     refine r_world (w' := (S, (nxt (nxt K2 g) g).1, V, (nxt (nxt K2 g) g).2, N)) (by rw [ndN, if_pos (ndN_t hb171)]) ?_
                     generalize hK4 : nxt (nxt K2 g) g = K4 at he
                     have hK4o : MkOK K4.1 g := by rw [← hK4]; exact MkOK_nxt (MkOK_nxt hK2o)
                     refine r_istore X dX13_readLaws_174 (by decide) rfl ?_
                     refine r_iload_n X dX13_readLaws_176 rfl rfl ?_
                     refine r_iconst (v := 1) X dX13_readLaws_177 (by decide) ?_
                     refine r_icmp_ne (tgt := 194) X dX13_readLaws_178 (by decide) (fun h178 => ?_) (fun h178 => ?_)
                     · skip
                       exact absurd rfl h178
                     · skip
                       refine r_aload_n X dX13_readLaws_181 rfl rfl ?_
                       refine r_ldcwS X dX13_readLaws_182 (sX13_264 hZ) (fun u182 hu182 => ?_)
                       refine q_callX X dX13_readLaws_185 nX13_257.1 nX13_257.2.1 nX13_257.2.2 cwX13_needWord (c_ndW GE S K4 V N g _ kw_to hZ hs0 hR hK4o (by assumption)) rfl (by assumption) rfl rfl rfl (Nat.le_of_ble_eq_true rfl) ⟨Nat.le_of_ble_eq_true rfl, Nat.le_of_ble_eq_true rfl⟩ ⟨(by first | omega | decide | (simp only [rmL, rmA]; omega)), (by first | omega | decide | (simp only [rmL, rmA]; omega))⟩ ?_ ?_
                       rotate_left
                       · rintro x9 w9 ⟨ho, rfl⟩
                         obtain ⟨hb185, rfl⟩ := oc_t ho
                         refine t_leave X hx0 (by first | omega | decide | (simp only [rmL, rmA]; omega)) (by first | omega | decide | (simp only [rmL, rmA]; omega)) ?_
                         rw [rLt, if_neg (ndW_f hb185), lCon_f] at he
                         rw [← he]
                         exact ⟨rfl, by rw [ndW, if_neg (ndW_f hb185)]⟩
                       rintro v9 w9 ⟨ho, rfl⟩
                       obtain ⟨hb185, rfl⟩ := oc_r ho
                       rw [rLt, if_pos (ndW_t hb185)] at he
                       refine r_world (w' := (S, (nxt K4 g).1, V, (nxt K4 g).2, N)) (by rw [ndW, if_pos (ndW_t hb185)]) ?_
                       refine r_aload_n X dX13_readLaws_188 rfl rfl ?_
                       refine q_callX X dX13_readLaws_189 nX13_247.1 nX13_247.2.1 nX13_247.2.2 cwX13_needNumber (c_ndN GE S (nxt K4 g) V N g hs0 hR (MkOK_nxt hK4o)) rfl (by assumption) rfl rfl rfl (Nat.le_of_ble_eq_true rfl) ⟨Nat.le_of_ble_eq_true rfl, Nat.le_of_ble_eq_true rfl⟩ ⟨(by first | omega | decide | (simp only [rmL, rmA]; omega)), (by first | omega | decide | (simp only [rmL, rmA]; omega))⟩ ?_ ?_
                       rotate_left
                       · rintro x9 w9 ⟨ho, rfl⟩
                         obtain ⟨hb189, rfl⟩ := oc_t ho
                         refine t_leave X hx0 (by first | omega | decide | (simp only [rmL, rmA]; omega)) (by first | omega | decide | (simp only [rmL, rmA]; omega)) ?_
                         rw [rLn, if_neg (ndN_f hb189), lCon_f] at he
                         rw [← he]
                         exact ⟨rfl, by rw [ndN, if_neg (ndN_f hb189)]⟩
                       rintro v9 w9 ⟨ho, rfl⟩
                       obtain ⟨hb189, rfl⟩ := oc_r ho
                       rw [rLn, if_pos (ndN_t hb189)] at he
                       refine r_world (w' := (S, (nxt (nxt K4 g) g).1, V, (nxt (nxt K4 g) g).2, N)) (by rw [ndN, if_pos (ndN_t hb189)]) ?_
                       refine r_istore X dX13_readLaws_192 (by decide) rfl ?_
                       exact H194 _ _ _ _ _ hn9 (MkOK_nxt (MkOK_nxt hK4o)) he
                    )
                  | (have z1 := bI_0 h157
                     have z2 := bI_1 h131
                     exact absurd (z1.symm.trans z2) (by decide))
            · skip
              refine r_aload_n X dX13_readLaws_144 rfl rfl ?_
              refine r_iconst (v := 1) X dX13_readLaws_145 (by decide) ?_
              refine q_callV X dX13_readLaws_146 mX13_186 cwX13_stop (c_mStp GE S _ V _ N g _ hs0 hR) rfl (by assumption) rfl rfl rfl (Nat.le_of_ble_eq_true rfl) ⟨Nat.le_of_ble_eq_true rfl, Nat.le_of_ble_eq_true rfl⟩ ⟨(by first | omega | decide | (simp only [rmL, rmA]; omega)), (by first | omega | decide | (simp only [rmL, rmA]; omega))⟩ ?_
              rintro _ _ ⟨rfl, rfl⟩
              refine t_athrow X dX13_readLaws_149 hx0 (by first | omega | decide | (simp only [rmL, rmA]; omega)) (by first | omega | decide | (simp only [rmL, rmA]; omega)) ?_
              have z1 := bI_0 h131
              have z2 := bI_0 h141
              rw [if_neg (show ¬ mIsW K2.1 K2.2 g kw_at = true by rw [z1]; decide), if_neg (show ¬ mIsW K2.1 K2.2 g kw_from = true by rw [z2]; decide), lCon_f] at he
              rw [← he]
              exact ⟨rfl, rfl⟩
      · skip
        exact absurd h102 (by decide)
    rw [rLw] at he
    refine r_iload_n X dX13_readLaws_7 rfl rfl ?_
    refine r_if_eq (tgt := 260) X dX13_readLaws_8 (by decide) (fun h8 => ?_) (fun h8 => ?_)
    · skip
      exact absurd h8 (by decide)
    · skip
      refine r_aload_n X dX13_readLaws_11 rfl rfl ?_
      refine r_ldcS X dX13_readLaws_12 (sX13_202 hZ) (fun u12 hu12 => ?_)
      refine q_callV X dX13_readLaws_14 mX13_182 cwX13_isWord (c_mIsW GE S _ V _ N g _ kw_rest hZ hs0 (by assumption)) rfl (by assumption) rfl rfl rfl (Nat.le_of_ble_eq_true rfl) ⟨Nat.le_of_ble_eq_true rfl, Nat.le_of_ble_eq_true rfl⟩ ⟨(by first | omega | decide | (simp only [rmL, rmA]; omega)), (by first | omega | decide | (simp only [rmL, rmA]; omega))⟩ ?_
      rintro _ _ ⟨rfl, rfl⟩
      refine r_if_ne (tgt := 44) X dX13_readLaws_17 (by decide) (fun h17 => ?_) (fun h17 => ?_)
      · skip
        refine r_iload_n X dX13_readLaws_44 rfl rfl ?_
        refine r_bipush (v := nI 10) X dX13_readLaws_45 (by decide) ?_
        refine r_icmpN_ne (tgt := 56) X dX13_readLaws_47 (by decide) (by omega) (by omega) (fun h47 => ?_) (fun h47 => ?_)
        · skip
          refine r_aload_n X dX13_readLaws_56 rfl rfl ?_
          refine r_ldcS X dX13_readLaws_57 (sX13_211 hZ) (fun u57 hu57 => ?_)
          refine q_callV X dX13_readLaws_59 mX13_182 cwX13_isWord (c_mIsW GE S _ V _ N g _ kw_dogs hZ hs0 (by assumption)) rfl (by assumption) rfl rfl rfl (Nat.le_of_ble_eq_true rfl) ⟨Nat.le_of_ble_eq_true rfl, Nat.le_of_ble_eq_true rfl⟩ ⟨(by first | omega | decide | (simp only [rmL, rmA]; omega)), (by first | omega | decide | (simp only [rmL, rmA]; omega))⟩ ?_
          rintro _ _ ⟨rfl, rfl⟩
          refine r_if_eq (tgt := 69) X dX13_readLaws_62 (by decide) (fun h62 => ?_) (fun h62 => ?_)
          · skip
            refine r_aload_n X dX13_readLaws_69 rfl rfl ?_
            refine r_ldcS X dX13_readLaws_70 (sX13_253 hZ) (fun u70 hu70 => ?_)
            refine q_callV X dX13_readLaws_72 mX13_182 cwX13_isWord (c_mIsW GE S _ V _ N g _ kw_fine hZ hs0 (by assumption)) rfl (by assumption) rfl rfl rfl (Nat.le_of_ble_eq_true rfl) ⟨Nat.le_of_ble_eq_true rfl, Nat.le_of_ble_eq_true rfl⟩ ⟨(by first | omega | decide | (simp only [rmL, rmA]; omega)), (by first | omega | decide | (simp only [rmL, rmA]; omega))⟩ ?_
            rintro _ _ ⟨rfl, rfl⟩
            refine r_if_eq (tgt := 82) X dX13_readLaws_75 (by decide) (fun h75 => ?_) (fun h75 => ?_)
            · skip
              refine r_iconst (v := 0) X dX13_readLaws_82 (by decide) ?_
              have hno : ¬ (mIsW K1.1 K1.2 g kw_rest = false ∧ mIsW K1.1 K1.2 g kw_dogs = false ∧ mIsW K1.1 K1.2 g kw_fine = false) := by
                rintro ⟨q1, q2, q3⟩
                first | exact absurd ((bI_1 h17).symm.trans q1) (by decide) | exact absurd ((bI_1 h26).symm.trans q2) (by decide) | exact absurd ((bI_1 h35).symm.trans q3) (by decide)
              rw [if_neg hno, if_neg (by omega)] at he
              first
                | (have z1 := bI_1 h62
                   simp only [z1, if_true] at he
                   exact HD _ _ _ _ (by omega) he)
                | (have z1 := bI_0 h62
                   have z2 := bI_1 h75
                   simp only [z1, z2, if_true, Bool.false_eq_true, if_false] at he
                   exact HF _ _ _ _ (by omega) he)
                | (have z1 := bI_0 h62
                   have z2 := bI_0 h75
                   simp only [z1, z2, Bool.false_eq_true, if_false] at he
                   exact HR _ _ _ _ (by omega) he)
            · skip
              refine r_iconst (v := 3) X dX13_readLaws_78 (by decide) ?_
              refine r_goto (tgt := 83) X dX13_readLaws_79 (by decide) ?_
              have hno : ¬ (mIsW K1.1 K1.2 g kw_rest = false ∧ mIsW K1.1 K1.2 g kw_dogs = false ∧ mIsW K1.1 K1.2 g kw_fine = false) := by
                rintro ⟨q1, q2, q3⟩
                first | exact absurd ((bI_1 h17).symm.trans q1) (by decide) | exact absurd ((bI_1 h26).symm.trans q2) (by decide) | exact absurd ((bI_1 h35).symm.trans q3) (by decide)
              rw [if_neg hno, if_neg (by omega)] at he
              first
                | (have z1 := bI_1 h62
                   simp only [z1, if_true] at he
                   exact HD _ _ _ _ (by omega) he)
                | (have z1 := bI_0 h62
                   have z2 := bI_1 h75
                   simp only [z1, z2, if_true, Bool.false_eq_true, if_false] at he
                   exact HF _ _ _ _ (by omega) he)
                | (have z1 := bI_0 h62
                   have z2 := bI_0 h75
                   simp only [z1, z2, Bool.false_eq_true, if_false] at he
                   exact HR _ _ _ _ (by omega) he)
          · skip
            refine r_iconst (v := 2) X dX13_readLaws_65 (by decide) ?_
            refine r_goto (tgt := 83) X dX13_readLaws_66 (by decide) ?_
            have hno : ¬ (mIsW K1.1 K1.2 g kw_rest = false ∧ mIsW K1.1 K1.2 g kw_dogs = false ∧ mIsW K1.1 K1.2 g kw_fine = false) := by
              rintro ⟨q1, q2, q3⟩
              first | exact absurd ((bI_1 h17).symm.trans q1) (by decide) | exact absurd ((bI_1 h26).symm.trans q2) (by decide) | exact absurd ((bI_1 h35).symm.trans q3) (by decide)
            rw [if_neg hno, if_neg (by omega)] at he
            first
              | (have z1 := bI_1 h62
                 simp only [z1, if_true] at he
                 exact HD _ _ _ _ (by omega) he)
              | (have z1 := bI_0 h62
                 have z2 := bI_1 h75
                 simp only [z1, z2, if_true, Bool.false_eq_true, if_false] at he
                 exact HF _ _ _ _ (by omega) he)
              | (have z1 := bI_0 h62
                 have z2 := bI_0 h75
                 simp only [z1, z2, Bool.false_eq_true, if_false] at he
                 exact HR _ _ _ _ (by omega) he)
        · skip
          refine r_aload_n X dX13_readLaws_50 rfl rfl ?_
          refine r_iconst (v := 3) X dX13_readLaws_51 (by decide) ?_
          refine q_callV X dX13_readLaws_52 mX13_186 cwX13_stop (c_mStp GE S _ V _ N g _ hs0 hR) rfl (by assumption) rfl rfl rfl (Nat.le_of_ble_eq_true rfl) ⟨Nat.le_of_ble_eq_true rfl, Nat.le_of_ble_eq_true rfl⟩ ⟨(by first | omega | decide | (simp only [rmL, rmA]; omega)), (by first | omega | decide | (simp only [rmL, rmA]; omega))⟩ ?_
          rintro _ _ ⟨rfl, rfl⟩
          refine t_athrow X dX13_readLaws_55 hx0 (by first | omega | decide | (simp only [rmL, rmA]; omega)) (by first | omega | decide | (simp only [rmL, rmA]; omega)) ?_
          have hno : ¬ (mIsW K1.1 K1.2 g kw_rest = false ∧ mIsW K1.1 K1.2 g kw_dogs = false ∧ mIsW K1.1 K1.2 g kw_fine = false) := by
            rintro ⟨q1, q2, q3⟩
            first | exact absurd ((bI_1 h17).symm.trans q1) (by decide) | exact absurd ((bI_1 h26).symm.trans q2) (by decide) | exact absurd ((bI_1 h35).symm.trans q3) (by decide)
          rw [if_neg hno, if_pos (by omega), lCon_f] at he
          rw [← he]
          exact ⟨rfl, rfl⟩
      · skip
        refine r_aload_n X dX13_readLaws_20 rfl rfl ?_
        refine r_ldcS X dX13_readLaws_21 (sX13_211 hZ) (fun u21 hu21 => ?_)
        refine q_callV X dX13_readLaws_23 mX13_182 cwX13_isWord (c_mIsW GE S _ V _ N g _ kw_dogs hZ hs0 (by assumption)) rfl (by assumption) rfl rfl rfl (Nat.le_of_ble_eq_true rfl) ⟨Nat.le_of_ble_eq_true rfl, Nat.le_of_ble_eq_true rfl⟩ ⟨(by first | omega | decide | (simp only [rmL, rmA]; omega)), (by first | omega | decide | (simp only [rmL, rmA]; omega))⟩ ?_
        rintro _ _ ⟨rfl, rfl⟩
        refine r_if_ne (tgt := 44) X dX13_readLaws_26 (by decide) (fun h26 => ?_) (fun h26 => ?_)
        · skip
          refine r_iload_n X dX13_readLaws_44 rfl rfl ?_
          refine r_bipush (v := nI 10) X dX13_readLaws_45 (by decide) ?_
          refine r_icmpN_ne (tgt := 56) X dX13_readLaws_47 (by decide) (by omega) (by omega) (fun h47 => ?_) (fun h47 => ?_)
          · skip
            refine r_aload_n X dX13_readLaws_56 rfl rfl ?_
            refine r_ldcS X dX13_readLaws_57 (sX13_211 hZ) (fun u57 hu57 => ?_)
            refine q_callV X dX13_readLaws_59 mX13_182 cwX13_isWord (c_mIsW GE S _ V _ N g _ kw_dogs hZ hs0 (by assumption)) rfl (by assumption) rfl rfl rfl (Nat.le_of_ble_eq_true rfl) ⟨Nat.le_of_ble_eq_true rfl, Nat.le_of_ble_eq_true rfl⟩ ⟨(by first | omega | decide | (simp only [rmL, rmA]; omega)), (by first | omega | decide | (simp only [rmL, rmA]; omega))⟩ ?_
            rintro _ _ ⟨rfl, rfl⟩
            refine r_if_eq (tgt := 69) X dX13_readLaws_62 (by decide) (fun h62 => ?_) (fun h62 => ?_)
            · skip
              refine r_aload_n X dX13_readLaws_69 rfl rfl ?_
              refine r_ldcS X dX13_readLaws_70 (sX13_253 hZ) (fun u70 hu70 => ?_)
              refine q_callV X dX13_readLaws_72 mX13_182 cwX13_isWord (c_mIsW GE S _ V _ N g _ kw_fine hZ hs0 (by assumption)) rfl (by assumption) rfl rfl rfl (Nat.le_of_ble_eq_true rfl) ⟨Nat.le_of_ble_eq_true rfl, Nat.le_of_ble_eq_true rfl⟩ ⟨(by first | omega | decide | (simp only [rmL, rmA]; omega)), (by first | omega | decide | (simp only [rmL, rmA]; omega))⟩ ?_
              rintro _ _ ⟨rfl, rfl⟩
              refine r_if_eq (tgt := 82) X dX13_readLaws_75 (by decide) (fun h75 => ?_) (fun h75 => ?_)
              · skip
                refine r_iconst (v := 0) X dX13_readLaws_82 (by decide) ?_
                have hno : ¬ (mIsW K1.1 K1.2 g kw_rest = false ∧ mIsW K1.1 K1.2 g kw_dogs = false ∧ mIsW K1.1 K1.2 g kw_fine = false) := by
                  rintro ⟨q1, q2, q3⟩
                  first | exact absurd ((bI_1 h17).symm.trans q1) (by decide) | exact absurd ((bI_1 h26).symm.trans q2) (by decide) | exact absurd ((bI_1 h35).symm.trans q3) (by decide)
                rw [if_neg hno, if_neg (by omega)] at he
                first
                  | (have z1 := bI_1 h62
                     simp only [z1, if_true] at he
                     exact HD _ _ _ _ (by omega) he)
                  | (have z1 := bI_0 h62
                     have z2 := bI_1 h75
                     simp only [z1, z2, if_true, Bool.false_eq_true, if_false] at he
                     exact HF _ _ _ _ (by omega) he)
                  | (have z1 := bI_0 h62
                     have z2 := bI_0 h75
                     simp only [z1, z2, Bool.false_eq_true, if_false] at he
                     exact HR _ _ _ _ (by omega) he)
              · skip
                refine r_iconst (v := 3) X dX13_readLaws_78 (by decide) ?_
                refine r_goto (tgt := 83) X dX13_readLaws_79 (by decide) ?_
                have hno : ¬ (mIsW K1.1 K1.2 g kw_rest = false ∧ mIsW K1.1 K1.2 g kw_dogs = false ∧ mIsW K1.1 K1.2 g kw_fine = false) := by
                  rintro ⟨q1, q2, q3⟩
                  first | exact absurd ((bI_1 h17).symm.trans q1) (by decide) | exact absurd ((bI_1 h26).symm.trans q2) (by decide) | exact absurd ((bI_1 h35).symm.trans q3) (by decide)
                rw [if_neg hno, if_neg (by omega)] at he
                first
                  | (have z1 := bI_1 h62
                     simp only [z1, if_true] at he
                     exact HD _ _ _ _ (by omega) he)
                  | (have z1 := bI_0 h62
                     have z2 := bI_1 h75
                     simp only [z1, z2, if_true, Bool.false_eq_true, if_false] at he
                     exact HF _ _ _ _ (by omega) he)
                  | (have z1 := bI_0 h62
                     have z2 := bI_0 h75
                     simp only [z1, z2, Bool.false_eq_true, if_false] at he
                     exact HR _ _ _ _ (by omega) he)
            · skip
              refine r_iconst (v := 2) X dX13_readLaws_65 (by decide) ?_
              refine r_goto (tgt := 83) X dX13_readLaws_66 (by decide) ?_
              have hno : ¬ (mIsW K1.1 K1.2 g kw_rest = false ∧ mIsW K1.1 K1.2 g kw_dogs = false ∧ mIsW K1.1 K1.2 g kw_fine = false) := by
                rintro ⟨q1, q2, q3⟩
                first | exact absurd ((bI_1 h17).symm.trans q1) (by decide) | exact absurd ((bI_1 h26).symm.trans q2) (by decide) | exact absurd ((bI_1 h35).symm.trans q3) (by decide)
              rw [if_neg hno, if_neg (by omega)] at he
              first
                | (have z1 := bI_1 h62
                   simp only [z1, if_true] at he
                   exact HD _ _ _ _ (by omega) he)
                | (have z1 := bI_0 h62
                   have z2 := bI_1 h75
                   simp only [z1, z2, if_true, Bool.false_eq_true, if_false] at he
                   exact HF _ _ _ _ (by omega) he)
                | (have z1 := bI_0 h62
                   have z2 := bI_0 h75
                   simp only [z1, z2, Bool.false_eq_true, if_false] at he
                   exact HR _ _ _ _ (by omega) he)
          · skip
            refine r_aload_n X dX13_readLaws_50 rfl rfl ?_
            refine r_iconst (v := 3) X dX13_readLaws_51 (by decide) ?_
            refine q_callV X dX13_readLaws_52 mX13_186 cwX13_stop (c_mStp GE S _ V _ N g _ hs0 hR) rfl (by assumption) rfl rfl rfl (Nat.le_of_ble_eq_true rfl) ⟨Nat.le_of_ble_eq_true rfl, Nat.le_of_ble_eq_true rfl⟩ ⟨(by first | omega | decide | (simp only [rmL, rmA]; omega)), (by first | omega | decide | (simp only [rmL, rmA]; omega))⟩ ?_
            rintro _ _ ⟨rfl, rfl⟩
            refine t_athrow X dX13_readLaws_55 hx0 (by first | omega | decide | (simp only [rmL, rmA]; omega)) (by first | omega | decide | (simp only [rmL, rmA]; omega)) ?_
            have hno : ¬ (mIsW K1.1 K1.2 g kw_rest = false ∧ mIsW K1.1 K1.2 g kw_dogs = false ∧ mIsW K1.1 K1.2 g kw_fine = false) := by
              rintro ⟨q1, q2, q3⟩
              first | exact absurd ((bI_1 h17).symm.trans q1) (by decide) | exact absurd ((bI_1 h26).symm.trans q2) (by decide) | exact absurd ((bI_1 h35).symm.trans q3) (by decide)
            rw [if_neg hno, if_pos (by omega), lCon_f] at he
            rw [← he]
            exact ⟨rfl, rfl⟩
        · skip
          refine r_aload_n X dX13_readLaws_29 rfl rfl ?_
          refine r_ldcS X dX13_readLaws_30 (sX13_253 hZ) (fun u30 hu30 => ?_)
          refine q_callV X dX13_readLaws_32 mX13_182 cwX13_isWord (c_mIsW GE S _ V _ N g _ kw_fine hZ hs0 (by assumption)) rfl (by assumption) rfl rfl rfl (Nat.le_of_ble_eq_true rfl) ⟨Nat.le_of_ble_eq_true rfl, Nat.le_of_ble_eq_true rfl⟩ ⟨(by first | omega | decide | (simp only [rmL, rmA]; omega)), (by first | omega | decide | (simp only [rmL, rmA]; omega))⟩ ?_
          rintro _ _ ⟨rfl, rfl⟩
          refine r_if_ne (tgt := 44) X dX13_readLaws_35 (by decide) (fun h35 => ?_) (fun h35 => ?_)
          · skip
            refine r_iload_n X dX13_readLaws_44 rfl rfl ?_
            refine r_bipush (v := nI 10) X dX13_readLaws_45 (by decide) ?_
            refine r_icmpN_ne (tgt := 56) X dX13_readLaws_47 (by decide) (by omega) (by omega) (fun h47 => ?_) (fun h47 => ?_)
            · skip
              refine r_aload_n X dX13_readLaws_56 rfl rfl ?_
              refine r_ldcS X dX13_readLaws_57 (sX13_211 hZ) (fun u57 hu57 => ?_)
              refine q_callV X dX13_readLaws_59 mX13_182 cwX13_isWord (c_mIsW GE S _ V _ N g _ kw_dogs hZ hs0 (by assumption)) rfl (by assumption) rfl rfl rfl (Nat.le_of_ble_eq_true rfl) ⟨Nat.le_of_ble_eq_true rfl, Nat.le_of_ble_eq_true rfl⟩ ⟨(by first | omega | decide | (simp only [rmL, rmA]; omega)), (by first | omega | decide | (simp only [rmL, rmA]; omega))⟩ ?_
              rintro _ _ ⟨rfl, rfl⟩
              refine r_if_eq (tgt := 69) X dX13_readLaws_62 (by decide) (fun h62 => ?_) (fun h62 => ?_)
              · skip
                refine r_aload_n X dX13_readLaws_69 rfl rfl ?_
                refine r_ldcS X dX13_readLaws_70 (sX13_253 hZ) (fun u70 hu70 => ?_)
                refine q_callV X dX13_readLaws_72 mX13_182 cwX13_isWord (c_mIsW GE S _ V _ N g _ kw_fine hZ hs0 (by assumption)) rfl (by assumption) rfl rfl rfl (Nat.le_of_ble_eq_true rfl) ⟨Nat.le_of_ble_eq_true rfl, Nat.le_of_ble_eq_true rfl⟩ ⟨(by first | omega | decide | (simp only [rmL, rmA]; omega)), (by first | omega | decide | (simp only [rmL, rmA]; omega))⟩ ?_
                rintro _ _ ⟨rfl, rfl⟩
                refine r_if_eq (tgt := 82) X dX13_readLaws_75 (by decide) (fun h75 => ?_) (fun h75 => ?_)
                · skip
                  refine r_iconst (v := 0) X dX13_readLaws_82 (by decide) ?_
                  have hno : ¬ (mIsW K1.1 K1.2 g kw_rest = false ∧ mIsW K1.1 K1.2 g kw_dogs = false ∧ mIsW K1.1 K1.2 g kw_fine = false) := by
                    rintro ⟨q1, q2, q3⟩
                    first | exact absurd ((bI_1 h17).symm.trans q1) (by decide) | exact absurd ((bI_1 h26).symm.trans q2) (by decide) | exact absurd ((bI_1 h35).symm.trans q3) (by decide)
                  rw [if_neg hno, if_neg (by omega)] at he
                  first
                    | (have z1 := bI_1 h62
                       simp only [z1, if_true] at he
                       exact HD _ _ _ _ (by omega) he)
                    | (have z1 := bI_0 h62
                       have z2 := bI_1 h75
                       simp only [z1, z2, if_true, Bool.false_eq_true, if_false] at he
                       exact HF _ _ _ _ (by omega) he)
                    | (have z1 := bI_0 h62
                       have z2 := bI_0 h75
                       simp only [z1, z2, Bool.false_eq_true, if_false] at he
                       exact HR _ _ _ _ (by omega) he)
                · skip
                  refine r_iconst (v := 3) X dX13_readLaws_78 (by decide) ?_
                  refine r_goto (tgt := 83) X dX13_readLaws_79 (by decide) ?_
                  have hno : ¬ (mIsW K1.1 K1.2 g kw_rest = false ∧ mIsW K1.1 K1.2 g kw_dogs = false ∧ mIsW K1.1 K1.2 g kw_fine = false) := by
                    rintro ⟨q1, q2, q3⟩
                    first | exact absurd ((bI_1 h17).symm.trans q1) (by decide) | exact absurd ((bI_1 h26).symm.trans q2) (by decide) | exact absurd ((bI_1 h35).symm.trans q3) (by decide)
                  rw [if_neg hno, if_neg (by omega)] at he
                  first
                    | (have z1 := bI_1 h62
                       simp only [z1, if_true] at he
                       exact HD _ _ _ _ (by omega) he)
                    | (have z1 := bI_0 h62
                       have z2 := bI_1 h75
                       simp only [z1, z2, if_true, Bool.false_eq_true, if_false] at he
                       exact HF _ _ _ _ (by omega) he)
                    | (have z1 := bI_0 h62
                       have z2 := bI_0 h75
                       simp only [z1, z2, Bool.false_eq_true, if_false] at he
                       exact HR _ _ _ _ (by omega) he)
              · skip
                refine r_iconst (v := 2) X dX13_readLaws_65 (by decide) ?_
                refine r_goto (tgt := 83) X dX13_readLaws_66 (by decide) ?_
                have hno : ¬ (mIsW K1.1 K1.2 g kw_rest = false ∧ mIsW K1.1 K1.2 g kw_dogs = false ∧ mIsW K1.1 K1.2 g kw_fine = false) := by
                  rintro ⟨q1, q2, q3⟩
                  first | exact absurd ((bI_1 h17).symm.trans q1) (by decide) | exact absurd ((bI_1 h26).symm.trans q2) (by decide) | exact absurd ((bI_1 h35).symm.trans q3) (by decide)
                rw [if_neg hno, if_neg (by omega)] at he
                first
                  | (have z1 := bI_1 h62
                     simp only [z1, if_true] at he
                     exact HD _ _ _ _ (by omega) he)
                  | (have z1 := bI_0 h62
                     have z2 := bI_1 h75
                     simp only [z1, z2, if_true, Bool.false_eq_true, if_false] at he
                     exact HF _ _ _ _ (by omega) he)
                  | (have z1 := bI_0 h62
                     have z2 := bI_0 h75
                     simp only [z1, z2, Bool.false_eq_true, if_false] at he
                     exact HR _ _ _ _ (by omega) he)
            · skip
              refine r_aload_n X dX13_readLaws_50 rfl rfl ?_
              refine r_iconst (v := 3) X dX13_readLaws_51 (by decide) ?_
              refine q_callV X dX13_readLaws_52 mX13_186 cwX13_stop (c_mStp GE S _ V _ N g _ hs0 hR) rfl (by assumption) rfl rfl rfl (Nat.le_of_ble_eq_true rfl) ⟨Nat.le_of_ble_eq_true rfl, Nat.le_of_ble_eq_true rfl⟩ ⟨(by first | omega | decide | (simp only [rmL, rmA]; omega)), (by first | omega | decide | (simp only [rmL, rmA]; omega))⟩ ?_
              rintro _ _ ⟨rfl, rfl⟩
              refine t_athrow X dX13_readLaws_55 hx0 (by first | omega | decide | (simp only [rmL, rmA]; omega)) (by first | omega | decide | (simp only [rmL, rmA]; omega)) ?_
              have hno : ¬ (mIsW K1.1 K1.2 g kw_rest = false ∧ mIsW K1.1 K1.2 g kw_dogs = false ∧ mIsW K1.1 K1.2 g kw_fine = false) := by
                rintro ⟨q1, q2, q3⟩
                first | exact absurd ((bI_1 h17).symm.trans q1) (by decide) | exact absurd ((bI_1 h26).symm.trans q2) (by decide) | exact absurd ((bI_1 h35).symm.trans q3) (by decide)
              rw [if_neg hno, if_pos (by omega), lCon_f] at he
              rw [← he]
              exact ⟨rfl, rfl⟩
          · skip
            refine r_aload_n X dX13_readLaws_38 rfl rfl ?_
            refine r_iconst (v := 1) X dX13_readLaws_39 (by decide) ?_
            refine q_callV X dX13_readLaws_40 mX13_186 cwX13_stop (c_mStp GE S _ V _ N g _ hs0 hR) rfl (by assumption) rfl rfl rfl (Nat.le_of_ble_eq_true rfl) ⟨Nat.le_of_ble_eq_true rfl, Nat.le_of_ble_eq_true rfl⟩ ⟨(by first | omega | decide | (simp only [rmL, rmA]; omega)), (by first | omega | decide | (simp only [rmL, rmA]; omega))⟩ ?_
            rintro _ _ ⟨rfl, rfl⟩
            refine t_athrow X dX13_readLaws_43 hx0 (by first | omega | decide | (simp only [rmL, rmA]; omega)) (by first | omega | decide | (simp only [rmL, rmA]; omega)) ?_
            have hyes : mIsW K1.1 K1.2 g kw_rest = false ∧ mIsW K1.1 K1.2 g kw_dogs = false ∧ mIsW K1.1 K1.2 g kw_fine = false := ⟨bI_0 h17, bI_0 h26, bI_0 h35⟩
            rw [if_pos hyes, lCon_f] at he
            rw [← he]
            exact ⟨rfl, rfl⟩
  refine r_aload_n X dX13_readLaws_0 rfl rfl ?_
  refine r_getI X dX13_readLaws_1 fX13_250 (by assumption) hn ?_
  refine r_istore_n X dX13_readLaws_4 rfl (by decide) rfl ?_
  refine r_iconst (v := 1) X dX13_readLaws_5 (by decide) ?_
  refine r_istore_n X dX13_readLaws_6 rfl (by decide) rfl ?_
  exact H7 n (by omega) hn10 K _ _ _ _ hK hRR
