/-! THE CLASS, 13: undo, snapshots -/
set_option maxHeartbeats 2000000
set_option maxRecDepth 100000
section
variable {g : pp_G} {h : Nat} {sh : List (Nat × Nat)} {I : Nat → Nat → Int32} {J : Nat → Nat → Int64} {R : Nat → Nat → Option Nat} {w : pp_W} {P : pp_R → pp_W → Prop} {G : LG} {T : TM} {n : Nat} {A : AS}
/-- the picture, when the ledger is replaced by another, and the ring's numbers change -/
theorem RC_rep {sh : List (Nat × Nat)} {I I' : Nat → Nat → Int32} {J J' : Nat → Nat → Int64} {R : Nat → Nat → Option Nat} {G' : LG} {U : Nat × (Nat → LG)} (h : RC A sh I J R) (hf : ∀ a, (a < 102 ∨ 112 ≤ a) → a ≠ 118 → I' a = I a) (hj : ∀ a, (a < 102 ∨ 112 ≤ a) → J' a = J a) (hG : cG I' J' G') (hU : cU I' J' R U) : RC (aB A, aN A, aE A, aT A, G', U, aS A) sh I' J' R := by
  obtain ⟨h1, h2, h3, h4, h5, h6, h7, h8, h9⟩ := h
  refine ⟨hG, cT_cg h2 (fun a x y => hf a (by omega) (by omega)), ?_, ?_, ?_, h6, hU, ?_, cL_cg (L := 84) h9 (fun a x y => hf a (by omega) (by omega)) (fun a x y => hj a (by omega))⟩
  · rw [hf 65 (by omega) (by omega)]; exact h3
  · rw [hf 64 (by omega) (by omega)]; exact h4
  · rw [hf 64 (by omega) (by omega)]; exact h5
  · intro s hs
    rcases h8 s hs with q | ⟨L, G, q1, q2, q3⟩
    · exact Or.inl q
    · have b := (h6.1 (10 + s) (by omega) L (by rw [ent, if_neg (by omega), show 10 + s - 10 = s by omega]; exact q1)).1
      exact Or.inr ⟨L, G, q1, q2, cL_cg q3 (fun a x y => hf a (by omega) (by omega)) (fun a x y => hj a (by omega))⟩
theorem c_takeBack (hC : sC sh R) (hA : RC A sh I J R) (hP : cP sh I J R P (.int (o_undo A).1) (o_undo A).2) : pp_MW g (h + 2) mi_X3_takeBack [.ref 118, .ref 102] (sh, I, J, R) P := by
  obtain ⟨nw, hk, u1, u2, u3, u4⟩ := hA.2.2.2.2.2.2.1
  refine pp_st0 [(0, .ref 118), (1, .ref 102)] ok_X3_takeBack rfl (Nat.le_of_ble_eq_true rfl) rfl ?_
  by_cases c : (aU A).1 = 0
  · rw [o_undo, if_pos c] at hP
    have z := hP sh I J R hC ⟨⟨[], by simp⟩, fun a _ _ => ⟨rfl, rfl, rfl⟩⟩ hA
    rw [c] at u2
    cases hr : R 119 nw with
    | none =>
      refine pp_go rfl sk_X3_takeBack_0 ?_
      simp (disch := omega) only [sg_X3_takeBack_0, sw_c, sw_n, sx, sf_4, sv_i, sv_j, sv_r, sv_q1, sv_q0, sv_1i, sv_1r, sv_2, sl_i, sl_j, sl_a, sl_v, sp_p, sp_f1, sp_f2, sc_w, sc_c, sc_r, sc_f, sc_a, sc_k, pp_in, pp_al, ↓reduceIte, Nat.reduceEqDiff, Nat.reduceLT, Nat.reduceLeDiff, Nat.reduceAdd, Nat.reduceSub, Nat.reduceMul, List.length_cons, List.length_nil, true_and, and_true, and_self, true_implies, eq_self, not_true_eq_false, not_false_eq_true, false_implies, implies_true, false_and, and_false, Bool.false_eq_true, or_true, true_or, or_false, false_or, Classical.not_not, Nat.le_refl, Nat.lt_irrefl, Bool.true_eq_false, n_lit, n_a, n_c, n_s, n_b, n_m, n_g, n_w, n_n, rk_X3_takeBack, hC, u1, u2, hr]
      refine pp_go rfl sk_X3_takeBack_21 ?_
      simp (disch := omega) only [sg_X3_takeBack_21, sw_c, sw_n, sx, sf_4, sv_i, sv_j, sv_r, sv_q1, sv_q0, sv_1i, sv_1r, sv_2, sl_i, sl_j, sl_a, sl_v, sp_p, sp_f1, sp_f2, sc_w, sc_c, sc_r, sc_f, sc_a, sc_k, pp_in, pp_al, ↓reduceIte, Nat.reduceEqDiff, Nat.reduceLT, Nat.reduceLeDiff, Nat.reduceAdd, Nat.reduceSub, Nat.reduceMul, List.length_cons, List.length_nil, true_and, and_true, and_self, true_implies, eq_self, not_true_eq_false, not_false_eq_true, false_implies, implies_true, false_and, and_false, Bool.false_eq_true, or_true, true_or, or_false, false_or, Classical.not_not, Nat.le_refl, Nat.lt_irrefl, Bool.true_eq_false, n_lit, n_a, n_c, n_s, n_b, n_m, n_g, n_w, n_n, rk_X3_takeBack]
      exact z
    | some L =>
      refine pp_go rfl sk_X3_takeBack_0 ?_
      simp (disch := omega) only [sg_X3_takeBack_0, sw_c, sw_n, sx, sf_4, sv_i, sv_j, sv_r, sv_q1, sv_q0, sv_1i, sv_1r, sv_2, sl_i, sl_j, sl_a, sl_v, sp_p, sp_f1, sp_f2, sc_w, sc_c, sc_r, sc_f, sc_a, sc_k, pp_in, pp_al, ↓reduceIte, Nat.reduceEqDiff, Nat.reduceLT, Nat.reduceLeDiff, Nat.reduceAdd, Nat.reduceSub, Nat.reduceMul, List.length_cons, List.length_nil, true_and, and_true, and_self, true_implies, eq_self, not_true_eq_false, not_false_eq_true, false_implies, implies_true, false_and, and_false, Bool.false_eq_true, or_true, true_or, or_false, false_or, Classical.not_not, Nat.le_refl, Nat.lt_irrefl, Bool.true_eq_false, n_lit, n_a, n_c, n_s, n_b, n_m, n_g, n_w, n_n, rk_X3_takeBack, hC, u1, u2, hr]
      refine pp_go rfl sk_X3_takeBack_21 ?_
      simp (disch := omega) only [sg_X3_takeBack_21, sw_c, sw_n, sx, sf_4, sv_i, sv_j, sv_r, sv_q1, sv_q0, sv_1i, sv_1r, sv_2, sl_i, sl_j, sl_a, sl_v, sp_p, sp_f1, sp_f2, sc_w, sc_c, sc_r, sc_f, sc_a, sc_k, pp_in, pp_al, ↓reduceIte, Nat.reduceEqDiff, Nat.reduceLT, Nat.reduceLeDiff, Nat.reduceAdd, Nat.reduceSub, Nat.reduceMul, List.length_cons, List.length_nil, true_and, and_true, and_self, true_implies, eq_self, not_true_eq_false, not_false_eq_true, false_implies, implies_true, false_and, and_false, Bool.false_eq_true, or_true, true_or, or_false, false_or, Classical.not_not, Nat.le_refl, Nat.lt_irrefl, Bool.true_eq_false, n_lit, n_a, n_c, n_s, n_b, n_m, n_g, n_w, n_n, rk_X3_takeBack]
      exact z
  · rw [o_undo, if_neg c] at hP
    obtain ⟨L, l1, l2⟩ := u4 0 (by omega)
    rw [show (nw + 10 - 0) % 10 = nw by omega] at l1
    have hr : R 119 nw = some L := by rw [ent, if_pos hk] at l1; exact l1
    have q := hA.2.2.2.2.2.1.1 nw (by omega) L l1
    refine pp_go rfl sk_X3_takeBack_0 ?_
    simp (disch := omega) only [sg_X3_takeBack_0, sw_c, sw_n, sx, sf_4, sv_i, sv_j, sv_r, sv_q1, sv_q0, sv_1i, sv_1r, sv_2, sl_i, sl_j, sl_a, sl_v, sp_p, sp_f1, sp_f2, sc_w, sc_c, sc_r, sc_f, sc_a, sc_k, pp_in, pp_al, ↓reduceIte, Nat.reduceEqDiff, Nat.reduceLT, Nat.reduceLeDiff, Nat.reduceAdd, Nat.reduceSub, Nat.reduceMul, List.length_cons, List.length_nil, true_and, and_true, and_self, true_implies, eq_self, not_true_eq_false, not_false_eq_true, false_implies, implies_true, false_and, and_false, Bool.false_eq_true, or_true, true_or, or_false, false_or, Classical.not_not, Nat.le_refl, Nat.lt_irrefl, Bool.true_eq_false, n_lit, n_a, n_c, n_s, n_b, n_m, n_g, n_w, n_n, rk_X3_takeBack, hC, u1, u2, hr, c]
    refine pp_go rfl sk_X3_takeBack_23 ?_
    simp (disch := omega) only [sg_X3_takeBack_23, sw_c, sw_n, sx, sf_4, sv_i, sv_j, sv_r, sv_q1, sv_q0, sv_1i, sv_1r, sv_2, sl_i, sl_j, sl_a, sl_v, sp_p, sp_f1, sp_f2, sc_w, sc_c, sc_r, sc_f, sc_a, sc_k, pp_in, pp_al, ↓reduceIte, Nat.reduceEqDiff, Nat.reduceLT, Nat.reduceLeDiff, Nat.reduceAdd, Nat.reduceSub, Nat.reduceMul, List.length_cons, List.length_nil, true_and, and_true, and_self, true_implies, eq_self, not_true_eq_false, not_false_eq_true, false_implies, implies_true, false_and, and_false, Bool.false_eq_true, or_true, true_or, or_false, false_or, Classical.not_not, Nat.le_refl, Nat.lt_irrefl, Bool.true_eq_false, n_lit, n_a, n_c, n_s, n_b, n_m, n_g, n_w, n_n, rk_X3_takeBack, hC, q.2]
    refine c_copyFrom (L := 102) (M := L) hC.2.2.2.2.2.2.2 q.2 (Or.inl (by omega)) l2 (fun I1 J1 f1 g1 => ?_)
    have e1 : I1 118 1 = Int32.ofNat nw := by rw [(f1 118 (by omega)).1]; exact u1
    have e2 : I1 118 2 = Int32.ofNat (aU A).1 := by rw [(f1 118 (by omega)).1]; exact u2
    have fin : ∀ k, k < 10 → (∀ i, i < (aU A).1 - 1 → (k + 10 - i) % 10 = (nw + 10 - (i + 1)) % 10) → ∀ I2 : Nat → Nat → Int32, (∀ a, a ≠ 118 → I2 a = I1 a) → I2 118 1 = Int32.ofNat k → I2 118 2 = Int32.ofNat ((aU A).1 - 1) → P (.inl (some (.int (Int32.ofNat ((aU A).1 - 1))))) (sh, I2, J1, R) := by
      intro k k10 hx I2 i0 i1 i2
      refine hP sh I2 J1 R hC ⟨⟨[], by simp⟩, fun a x y => ⟨(i0 a (by omega)).trans (f1 a (by omega)).1, (f1 a (by omega)).2, rfl⟩⟩ (RC_rep hA (fun a x y => (i0 a y).trans (f1 a (by omega)).1) (fun a x => (f1 a (by omega)).2) (cL_cg (L := 102) g1 (fun a x y => i0 a (by omega)) (fun _ _ _ => rfl)) ⟨k, k10, i1, i2, by show (aU A).1 - 1 ≤ 10; omega, fun i hi => ?_⟩)
      have hi : i < (aU A).1 - 1 := hi
      obtain ⟨M, m1, m2⟩ := u4 (i + 1) (by omega)
      have b := hA.2.2.2.2.2.1.1 _ (by omega) M m1
      refine ⟨M, by rw [hx i hi]; exact m1, ?_⟩
      exact cL_cg m2 (fun a x y => (i0 a (by omega)).trans (f1 a (by omega)).1) (fun a x y => (f1 a (by omega)).2)
    by_cases c0 : nw = 0
    · subst c0
      simp (disch := omega) only [sw_c, sw_n, sx, sf_4, sv_i, sv_j, sv_r, sv_q1, sv_q0, sv_1i, sv_1r, sv_2, sl_i, sl_j, sl_a, sl_v, sp_p, sp_f1, sp_f2, sc_w, sc_c, sc_r, sc_f, sc_a, sc_k, pp_in, pp_al, ↓reduceIte, Nat.reduceEqDiff, Nat.reduceLT, Nat.reduceLeDiff, Nat.reduceAdd, Nat.reduceSub, Nat.reduceMul, List.length_cons, List.length_nil, true_and, and_true, and_self, true_implies, eq_self, not_true_eq_false, not_false_eq_true, false_implies, implies_true, false_and, and_false, Bool.false_eq_true, or_true, true_or, or_false, false_or, Classical.not_not, Nat.le_refl, Nat.lt_irrefl, Bool.true_eq_false, n_lit, n_a, n_c, n_s, n_b, n_m, n_g, n_w, n_n, rk_X3_takeBack, hC, e1]
      refine pp_go rfl sk_X3_takeBack_45 ?_
      simp (disch := omega) only [sg_X3_takeBack_45, sw_c, sw_n, sx, sf_4, sv_i, sv_j, sv_r, sv_q1, sv_q0, sv_1i, sv_1r, sv_2, sl_i, sl_j, sl_a, sl_v, sp_p, sp_f1, sp_f2, sc_w, sc_c, sc_r, sc_f, sc_a, sc_k, pp_in, pp_al, ↓reduceIte, Nat.reduceEqDiff, Nat.reduceLT, Nat.reduceLeDiff, Nat.reduceAdd, Nat.reduceSub, Nat.reduceMul, List.length_cons, List.length_nil, true_and, and_true, and_self, true_implies, eq_self, not_true_eq_false, not_false_eq_true, false_implies, implies_true, false_and, and_false, Bool.false_eq_true, or_true, true_or, or_false, false_or, Classical.not_not, Nat.le_refl, Nat.lt_irrefl, Bool.true_eq_false, n_lit, n_a, n_c, n_s, n_b, n_m, n_g, n_w, n_n, rk_X3_takeBack, hC]
      refine pp_go rfl sk_X3_takeBack_52 ?_
      simp (disch := omega) only [sg_X3_takeBack_52, sw_c, sw_n, sx, sf_4, sv_i, sv_j, sv_r, sv_q1, sv_q0, sv_1i, sv_1r, sv_2, sl_i, sl_j, sl_a, sl_v, sp_p, sp_f1, sp_f2, sc_w, sc_c, sc_r, sc_f, sc_a, sc_k, pp_in, pp_al, ↓reduceIte, Nat.reduceEqDiff, Nat.reduceLT, Nat.reduceLeDiff, Nat.reduceAdd, Nat.reduceSub, Nat.reduceMul, List.length_cons, List.length_nil, true_and, and_true, and_self, true_implies, eq_self, not_true_eq_false, not_false_eq_true, false_implies, implies_true, false_and, and_false, Bool.false_eq_true, or_true, true_or, or_false, false_or, Classical.not_not, Nat.le_refl, Nat.lt_irrefl, Bool.true_eq_false, n_lit, n_a, n_c, n_s, n_b, n_m, n_g, n_w, n_n, rk_X3_takeBack, hC, e2]
      refine fin 9 (by omega) (fun i hi => by omega) _ (fun a ha => pp_s_ne _ _ ha) ?_ ?_
      · simp only [n_m, ↓reduceIte, Nat.reduceEqDiff]
      · simp only [n_m, ↓reduceIte, Nat.reduceEqDiff]
    · have q0 : ¬ nw ≤ 0 := by omega
      simp (disch := omega) only [sw_c, sw_n, sx, sf_4, sv_i, sv_j, sv_r, sv_q1, sv_q0, sv_1i, sv_1r, sv_2, sl_i, sl_j, sl_a, sl_v, sp_p, sp_f1, sp_f2, sc_w, sc_c, sc_r, sc_f, sc_a, sc_k, pp_in, pp_al, ↓reduceIte, Nat.reduceEqDiff, Nat.reduceLT, Nat.reduceLeDiff, Nat.reduceAdd, Nat.reduceSub, Nat.reduceMul, List.length_cons, List.length_nil, true_and, and_true, and_self, true_implies, eq_self, not_true_eq_false, not_false_eq_true, false_implies, implies_true, false_and, and_false, Bool.false_eq_true, or_true, true_or, or_false, false_or, Classical.not_not, Nat.le_refl, Nat.lt_irrefl, Bool.true_eq_false, n_lit, n_a, n_c, n_s, n_b, n_m, n_g, n_w, n_n, rk_X3_takeBack, hC, e1, q0]
      refine pp_go rfl sk_X3_takeBack_52 ?_
      simp (disch := omega) only [sg_X3_takeBack_52, sw_c, sw_n, sx, sf_4, sv_i, sv_j, sv_r, sv_q1, sv_q0, sv_1i, sv_1r, sv_2, sl_i, sl_j, sl_a, sl_v, sp_p, sp_f1, sp_f2, sc_w, sc_c, sc_r, sc_f, sc_a, sc_k, pp_in, pp_al, ↓reduceIte, Nat.reduceEqDiff, Nat.reduceLT, Nat.reduceLeDiff, Nat.reduceAdd, Nat.reduceSub, Nat.reduceMul, List.length_cons, List.length_nil, true_and, and_true, and_self, true_implies, eq_self, not_true_eq_false, not_false_eq_true, false_implies, implies_true, false_and, and_false, Bool.false_eq_true, or_true, true_or, or_false, false_or, Classical.not_not, Nat.le_refl, Nat.lt_irrefl, Bool.true_eq_false, n_lit, n_a, n_c, n_s, n_b, n_m, n_g, n_w, n_n, rk_X3_takeBack, hC, e2]
      refine fin (nw - 1) (by omega) (fun i hi => by omega) _ (fun a ha => pp_s_ne _ _ ha) ?_ ?_
      · simp only [n_m, ↓reduceIte, Nat.reduceEqDiff]
      · simp only [n_m, ↓reduceIte, Nat.reduceEqDiff]
theorem c_undo (hC : sC sh R) (hA : RC A sh I J R) (hP : cP sh I J R P (.int (o_undo A).1) (o_undo A).2) : pp_MW g (h + 3) mi_X8_undo [.ref 64] (sh, I, J, R) P := by
  refine pp_st0 [(0, .ref 64)] ok_X8_undo rfl (Nat.le_of_ble_eq_true rfl) rfl ?_
  refine pp_go rfl sk_X8_undo_0 ?_
  simp (disch := omega) only [sg_X8_undo_0, sw_c, sw_n, sx, sf_4, sv_i, sv_j, sv_r, sv_q1, sv_q0, sv_1i, sv_1r, sv_2, sl_i, sl_j, sl_a, sl_v, sp_p, sp_f1, sp_f2, sc_w, sc_c, sc_r, sc_f, sc_a, sc_k, pp_in, pp_al, ↓reduceIte, Nat.reduceEqDiff, Nat.reduceLT, Nat.reduceLeDiff, Nat.reduceAdd, Nat.reduceSub, Nat.reduceMul, List.length_cons, List.length_nil, true_and, and_true, and_self, true_implies, eq_self, not_true_eq_false, not_false_eq_true, false_implies, implies_true, false_and, and_false, Bool.false_eq_true, or_true, true_or, or_false, false_or, Classical.not_not, Nat.le_refl, Nat.lt_irrefl, Bool.true_eq_false, n_lit, n_a, n_c, n_s, n_b, n_m, n_g, n_w, n_n, rk_X8_undo, hC]
  refine c_takeBack hC hA (fun sh' I' J' R' a b c => ?_)
  simp (disch := omega) only [sw_c, sw_n, sx, sf_4, sv_i, sv_j, sv_r, sv_q1, sv_q0, sv_1i, sv_1r, sv_2, sl_i, sl_j, sl_a, sl_v, sp_p, sp_f1, sp_f2, sc_w, sc_c, sc_r, sc_f, sc_a, sc_k, pp_in, pp_al, ↓reduceIte, Nat.reduceEqDiff, Nat.reduceLT, Nat.reduceLeDiff, Nat.reduceAdd, Nat.reduceSub, Nat.reduceMul, List.length_cons, List.length_nil, true_and, and_true, and_self, true_implies, eq_self, not_true_eq_false, not_false_eq_true, false_implies, implies_true, false_and, and_false, Bool.false_eq_true, or_true, true_or, or_false, false_or, Classical.not_not, Nat.le_refl, Nat.lt_irrefl, Bool.true_eq_false, n_lit, n_a, n_c, n_s, n_b, n_m, n_g, n_w, n_n, rk_X8_undo]
  exact hP sh' I' J' R' a b c
theorem c_hclear (hC : sC sh R) (hP : P (.inl none) (sh, pp_s I 118 (va_up (I 118) 2 (Int32.ofNat 0)), J, R)) : pp_MW g (h + 1) mi_X3_clear [.ref 118] (sh, I, J, R) P := by
  refine pp_st0 [(0, .ref 118)] ok_X3_clear rfl (Nat.le_of_ble_eq_true rfl) rfl ?_
  refine pp_go rfl sk_X3_clear_0 ?_
  simp (disch := omega) only [sg_X3_clear_0, sw_c, sw_n, sx, sf_4, sv_i, sv_j, sv_r, sv_q1, sv_q0, sv_1i, sv_1r, sv_2, sl_i, sl_j, sl_a, sl_v, sp_p, sp_f1, sp_f2, sc_w, sc_c, sc_r, sc_f, sc_a, sc_k, pp_in, pp_al, ↓reduceIte, Nat.reduceEqDiff, Nat.reduceLT, Nat.reduceLeDiff, Nat.reduceAdd, Nat.reduceSub, Nat.reduceMul, List.length_cons, List.length_nil, true_and, and_true, and_self, true_implies, eq_self, not_true_eq_false, not_false_eq_true, false_implies, implies_true, false_and, and_false, Bool.false_eq_true, or_true, true_or, or_false, false_or, Classical.not_not, Nat.le_refl, Nat.lt_irrefl, Bool.true_eq_false, n_lit, n_a, n_c, n_s, n_b, n_m, n_g, n_w, n_n, hC]
  exact hP
theorem c_restore {p : Int32} (hC : sC sh R) (hA : RC A sh I J R) (hE : (o_restore A p).1 = 1 → xB sh I J R P eB) (hE2 : (o_restore A p).1 = 2 → xB sh I J R P eS) (hP : (o_restore A p).1 = 0 → cP sh I J R P (.int (o_restore A p).2.1) (o_restore A p).2.2) : pp_MW g (h + 3) mi_X8_restoreSnapshot [.ref 64, .int p] (sh, I, J, R) P := by
  refine pp_st0 [(0, .ref 64), (1, .int p)] ok_X8_restoreSnapshot rfl (Nat.le_of_ble_eq_true rfl) rfl ?_
  refine pp_go rfl sk_X8_restoreSnapshot_0 ?_
  simp (disch := omega) only [sg_X8_restoreSnapshot_0, sw_c, sw_n, sx, sf_4, sv_i, sv_j, sv_r, sv_q1, sv_q0, sv_1i, sv_1r, sv_2, sl_i, sl_j, sl_a, sl_v, sp_p, sp_f1, sp_f2, sc_w, sc_c, sc_r, sc_f, sc_a, sc_k, pp_in, pp_al, ↓reduceIte, Nat.reduceEqDiff, Nat.reduceLT, Nat.reduceLeDiff, Nat.reduceAdd, Nat.reduceSub, Nat.reduceMul, List.length_cons, List.length_nil, true_and, and_true, and_self, true_implies, eq_self, not_true_eq_false, not_false_eq_true, false_implies, implies_true, false_and, and_false, Bool.false_eq_true, or_true, true_or, or_false, false_or, Classical.not_not, Nat.le_refl, Nat.lt_irrefl, Bool.true_eq_false, n_lit, n_a, n_c, n_s, n_b, n_m, n_g, n_w, n_n, rk_X8_restoreSnapshot, hC]
  rcases idx_cases p 2 (by omega) with ⟨k, k1, rfl, e1⟩ | ⟨ho, e1⟩
  · rcases hA.2.2.2.2.2.2.2.1 k k1 with ⟨q1, q2⟩ | ⟨L, G, q1, q2, q3⟩
    · simp only [o_restore, e1, q1] at hE2
      refine c_ckS0 hC k1 ?_
      simp (disch := omega) only [sw_c, sw_n, sx, sf_4, sv_i, sv_j, sv_r, sv_q1, sv_q0, sv_1i, sv_1r, sv_2, sl_i, sl_j, sl_a, sl_v, sp_p, sp_f1, sp_f2, sc_w, sc_c, sc_r, sc_f, sc_a, sc_k, pp_in, pp_al, ↓reduceIte, Nat.reduceEqDiff, Nat.reduceLT, Nat.reduceLeDiff, Nat.reduceAdd, Nat.reduceSub, Nat.reduceMul, List.length_cons, List.length_nil, true_and, and_true, and_self, true_implies, eq_self, not_true_eq_false, not_false_eq_true, false_implies, implies_true, false_and, and_false, Bool.false_eq_true, or_true, true_or, or_false, false_or, Classical.not_not, Nat.le_refl, Nat.lt_irrefl, Bool.true_eq_false, n_lit, n_a, n_c, n_s, n_b, n_m, n_g, n_w, n_n, rk_X8_restoreSnapshot, hC, q2, ex_1]
      exact hE2 trivial
    · simp only [o_restore, e1, q2] at hP
      have q := hA.2.2.2.2.2.1.1 (10 + k) (by omega) L (by rw [ent, if_neg (by omega), show 10 + k - 10 = k by omega]; exact q1)
      refine c_ckS0 hC k1 ?_
      simp (disch := omega) only [sw_c, sw_n, sx, sf_4, sv_i, sv_j, sv_r, sv_q1, sv_q0, sv_1i, sv_1r, sv_2, sl_i, sl_j, sl_a, sl_v, sp_p, sp_f1, sp_f2, sc_w, sc_c, sc_r, sc_f, sc_a, sc_k, pp_in, pp_al, ↓reduceIte, Nat.reduceEqDiff, Nat.reduceLT, Nat.reduceLeDiff, Nat.reduceAdd, Nat.reduceSub, Nat.reduceMul, List.length_cons, List.length_nil, true_and, and_true, and_self, true_implies, eq_self, not_true_eq_false, not_false_eq_true, false_implies, implies_true, false_and, and_false, Bool.false_eq_true, or_true, true_or, or_false, false_or, Classical.not_not, Nat.le_refl, Nat.lt_irrefl, Bool.true_eq_false, n_lit, n_a, n_c, n_s, n_b, n_m, n_g, n_w, n_n, rk_X8_restoreSnapshot, hC, q1]
      refine pp_go rfl sk_X8_restoreSnapshot_27 ?_
      simp (disch := omega) only [sg_X8_restoreSnapshot_27, sw_c, sw_n, sx, sf_4, sv_i, sv_j, sv_r, sv_q1, sv_q0, sv_1i, sv_1r, sv_2, sl_i, sl_j, sl_a, sl_v, sp_p, sp_f1, sp_f2, sc_w, sc_c, sc_r, sc_f, sc_a, sc_k, pp_in, pp_al, ↓reduceIte, Nat.reduceEqDiff, Nat.reduceLT, Nat.reduceLeDiff, Nat.reduceAdd, Nat.reduceSub, Nat.reduceMul, List.length_cons, List.length_nil, true_and, and_true, and_self, true_implies, eq_self, not_true_eq_false, not_false_eq_true, false_implies, implies_true, false_and, and_false, Bool.false_eq_true, or_true, true_or, or_false, false_or, Classical.not_not, Nat.le_refl, Nat.lt_irrefl, Bool.true_eq_false, n_lit, n_a, n_c, n_s, n_b, n_m, n_g, n_w, n_n, rk_X8_restoreSnapshot, hC]
      refine c_copyFrom (L := 102) (M := L) hC.2.2.2.2.2.2.2 q.2 (Or.inl (by omega)) q3 (fun I1 J1 f1 g1 => ?_)
      simp (disch := omega) only [sw_c, sw_n, sx, sf_4, sv_i, sv_j, sv_r, sv_q1, sv_q0, sv_1i, sv_1r, sv_2, sl_i, sl_j, sl_a, sl_v, sp_p, sp_f1, sp_f2, sc_w, sc_c, sc_r, sc_f, sc_a, sc_k, pp_in, pp_al, ↓reduceIte, Nat.reduceEqDiff, Nat.reduceLT, Nat.reduceLeDiff, Nat.reduceAdd, Nat.reduceSub, Nat.reduceMul, List.length_cons, List.length_nil, true_and, and_true, and_self, true_implies, eq_self, not_true_eq_false, not_false_eq_true, false_implies, implies_true, false_and, and_false, Bool.false_eq_true, or_true, true_or, or_false, false_or, Classical.not_not, Nat.le_refl, Nat.lt_irrefl, Bool.true_eq_false, n_lit, n_a, n_c, n_s, n_b, n_m, n_g, n_w, n_n, rk_X8_restoreSnapshot, hC]
      refine c_hclear hC ?_
      have d0 : I1 102 0 = Int32.ofNat (G.1 0) := g1.1
      simp (disch := omega) only [sw_c, sw_n, sx, sf_4, sv_i, sv_j, sv_r, sv_q1, sv_q0, sv_1i, sv_1r, sv_2, sl_i, sl_j, sl_a, sl_v, sp_p, sp_f1, sp_f2, sc_w, sc_c, sc_r, sc_f, sc_a, sc_k, pp_in, pp_al, ↓reduceIte, Nat.reduceEqDiff, Nat.reduceLT, Nat.reduceLeDiff, Nat.reduceAdd, Nat.reduceSub, Nat.reduceMul, List.length_cons, List.length_nil, true_and, and_true, and_self, true_implies, eq_self, not_true_eq_false, not_false_eq_true, false_implies, implies_true, false_and, and_false, Bool.false_eq_true, or_true, true_or, or_false, false_or, Classical.not_not, Nat.le_refl, Nat.lt_irrefl, Bool.true_eq_false, n_lit, n_a, n_c, n_s, n_b, n_m, n_g, n_w, n_n, rk_X8_restoreSnapshot, hC, d0]
      obtain ⟨nw, hk, u1, u2, u3, u4⟩ := hA.2.2.2.2.2.2.1
      refine hP trivial sh _ J1 R hC ⟨⟨[], by simp⟩, fun a x y => ⟨(pp_s_ne _ _ (by omega)).trans (f1 a (by omega)).1, (f1 a (by omega)).2, rfl⟩⟩ (RC_rep hA (fun a x y => (pp_s_ne _ _ y).trans (f1 a (by omega)).1) (fun a x => (f1 a (by omega)).2) (cL_cg (L := 102) g1 (fun a x y => pp_s_ne _ _ (by omega)) (fun _ _ _ => rfl)) ⟨nw, hk, ?_, ?_, Nat.zero_le _, fun i hi => absurd hi (Nat.not_lt_zero _)⟩)
      · simp only [n_m, ↓reduceIte, Nat.reduceEqDiff]; rw [(f1 118 (by omega)).1]; exact u1
      · simp only [n_m, ↓reduceIte]
  · simp only [o_restore, e1] at hE
    exact c_ckS1 hC ho (hE trivial)
end
