/-! THE CLASS, 19: statements taken in and kept -/
set_option maxHeartbeats 2000000
set_option maxRecDepth 100000
theorem bit_set {s i j : Nat} : bit (s ||| 1 <<< i) j = if j = i then true else bit s j := by
  rw [Nat.one_shiftLeft]
  have e1 : ∀ x : Nat, bit x j = x.testBit j := fun x => by
    rw [bit, Nat.testBit_eq_decide_div_mod_eq]
  rw [e1, e1, Nat.testBit_or, Nat.testBit_two_pow]
  by_cases c : j = i
  · simp [c]
  · simp [c, Ne.symm c]
def admO (D : DR) (o : Option Nat) : Nat := match o with
  | none => 1
  | some i => adm D i
theorem stw_lt {b : Nat → Nat} {t : TK} {i : Nat} (h : stw b t = some i) : i < 12 ∧ t.1 = 1 := by
  unfold stw at h
  by_cases w0 : isw b t 0 = true
  · rw [if_pos w0] at h; cases h; exact ⟨by omega, isw_1 w0⟩
  rw [if_neg w0] at h
  by_cases w1 : isw b t 1 = true
  · rw [if_pos w1] at h; cases h; exact ⟨by omega, isw_1 w1⟩
  rw [if_neg w1] at h
  by_cases w2 : isw b t 2 = true
  · rw [if_pos w2] at h; cases h; exact ⟨by omega, isw_1 w2⟩
  rw [if_neg w2] at h
  by_cases w3 : isw b t 3 = true
  · rw [if_pos w3] at h; cases h; exact ⟨by omega, isw_1 w3⟩
  rw [if_neg w3] at h
  by_cases w4 : isw b t 4 = true
  · rw [if_pos w4] at h; cases h; exact ⟨by omega, isw_1 w4⟩
  rw [if_neg w4] at h
  by_cases w5 : isw b t 5 = true
  · rw [if_pos w5] at h; cases h; exact ⟨by omega, isw_1 w5⟩
  rw [if_neg w5] at h
  by_cases w6 : isw b t 6 = true
  · rw [if_pos w6] at h; cases h; exact ⟨by omega, isw_1 w6⟩
  rw [if_neg w6] at h
  by_cases w7 : isw b t 7 = true
  · rw [if_pos w7] at h; cases h; exact ⟨by omega, isw_1 w7⟩
  rw [if_neg w7] at h
  by_cases w8 : isw b t 8 = true
  · rw [if_pos w8] at h; cases h; exact ⟨by omega, isw_1 w8⟩
  rw [if_neg w8] at h
  by_cases w9 : isw b t 9 = true
  · rw [if_pos w9] at h; cases h; exact ⟨by omega, isw_1 w9⟩
  rw [if_neg w9] at h
  by_cases w10 : isw b t 10 = true
  · rw [if_pos w10] at h; cases h; exact ⟨by omega, isw_1 w10⟩
  rw [if_neg w10] at h
  by_cases w11 : isw b t 11 = true
  · rw [if_pos w11] at h; cases h; exact ⟨by omega, isw_1 w11⟩
  rw [if_neg w11] at h
  cases h
section
variable {g : pp_G} {h : Nat} {sh : List (Nat × Nat)} {I : Nat → Nat → Int32} {J : Nat → Nat → Int64} {R : Nat → Nat → Option Nat} {w : pp_W} {P : pp_R → pp_W → Prop} {b : Nat → Nat} {n : Nat} {t : TK} {D : DR}
theorem c_stTok (hC : sC sh R) (hx : xC I b n) (ht : tC I b n t) (hP : P (.inl (some (.int (oi (stw b t))))) (sh, I, J, R)) : pp_MW g (h + 6) mi_X5_statementAtToken [.ref 66] (sh, I, J, R) P := by
  refine pp_st0 [(0, .ref 66)] ok_X5_statementAtToken rfl (Nat.le_of_ble_eq_true rfl) rfl ?_
  unfold stw at hP
  refine pp_go rfl sk_X5_statementAtToken_0 ?_
  simp (disch := omega) only [sg_X5_statementAtToken_0, sw_c, sw_n, sx, sf_4, sv_i, sv_j, sv_r, sv_q1, sv_q0, sv_1i, sv_1r, sv_2, sl_i, sl_j, sl_a, sl_v, sp_p, sp_f1, sp_f2, sc_w, sc_c, sc_r, sc_f, sc_a, sc_k, pp_in, pp_al, ↓reduceIte, Nat.reduceEqDiff, Nat.reduceLT, Nat.reduceLeDiff, Nat.reduceAdd, Nat.reduceSub, Nat.reduceMul, List.length_cons, List.length_nil, true_and, and_true, and_self, true_implies, eq_self, not_true_eq_false, not_false_eq_true, false_implies, implies_true, false_and, and_false, Bool.false_eq_true, or_true, true_or, or_false, false_or, Classical.not_not, Nat.le_refl, Nat.lt_irrefl, Bool.true_eq_false, n_lit, n_a, n_c, n_s, n_b, n_m, n_g, n_w, n_n, rk_X5_statementAtToken, hC]
  refine c_isWord (i := 0) hC hx ht (by omega) ?_
  simp (disch := omega) only [sw_c, sw_n, sx, sf_4, sv_i, sv_j, sv_r, sv_q1, sv_q0, sv_1i, sv_1r, sv_2, sl_i, sl_j, sl_a, sl_v, sp_p, sp_f1, sp_f2, sc_w, sc_c, sc_r, sc_f, sc_a, sc_k, pp_in, pp_al, ↓reduceIte, Nat.reduceEqDiff, Nat.reduceLT, Nat.reduceLeDiff, Nat.reduceAdd, Nat.reduceSub, Nat.reduceMul, List.length_cons, List.length_nil, true_and, and_true, and_self, true_implies, eq_self, not_true_eq_false, not_false_eq_true, false_implies, implies_true, false_and, and_false, Bool.false_eq_true, or_true, true_or, or_false, false_or, Classical.not_not, Nat.le_refl, Nat.lt_irrefl, Bool.true_eq_false, n_lit, n_a, n_c, n_s, n_b, n_m, n_g, n_w, n_n, rk_X5_statementAtToken, hC]
  refine ⟨fun w0 => ?_, fun w0 => ?_⟩
  rotate_left
  · rw [if_pos w0] at hP
    exact hP
  rw [if_neg w0] at hP
  refine pp_go rfl sk_X5_statementAtToken_14 ?_
  simp (disch := omega) only [sg_X5_statementAtToken_14, sw_c, sw_n, sx, sf_4, sv_i, sv_j, sv_r, sv_q1, sv_q0, sv_1i, sv_1r, sv_2, sl_i, sl_j, sl_a, sl_v, sp_p, sp_f1, sp_f2, sc_w, sc_c, sc_r, sc_f, sc_a, sc_k, pp_in, pp_al, ↓reduceIte, Nat.reduceEqDiff, Nat.reduceLT, Nat.reduceLeDiff, Nat.reduceAdd, Nat.reduceSub, Nat.reduceMul, List.length_cons, List.length_nil, true_and, and_true, and_self, true_implies, eq_self, not_true_eq_false, not_false_eq_true, false_implies, implies_true, false_and, and_false, Bool.false_eq_true, or_true, true_or, or_false, false_or, Classical.not_not, Nat.le_refl, Nat.lt_irrefl, Bool.true_eq_false, n_lit, n_a, n_c, n_s, n_b, n_m, n_g, n_w, n_n, rk_X5_statementAtToken, hC]
  refine c_isWord (i := 1) hC hx ht (by omega) ?_
  simp (disch := omega) only [sw_c, sw_n, sx, sf_4, sv_i, sv_j, sv_r, sv_q1, sv_q0, sv_1i, sv_1r, sv_2, sl_i, sl_j, sl_a, sl_v, sp_p, sp_f1, sp_f2, sc_w, sc_c, sc_r, sc_f, sc_a, sc_k, pp_in, pp_al, ↓reduceIte, Nat.reduceEqDiff, Nat.reduceLT, Nat.reduceLeDiff, Nat.reduceAdd, Nat.reduceSub, Nat.reduceMul, List.length_cons, List.length_nil, true_and, and_true, and_self, true_implies, eq_self, not_true_eq_false, not_false_eq_true, false_implies, implies_true, false_and, and_false, Bool.false_eq_true, or_true, true_or, or_false, false_or, Classical.not_not, Nat.le_refl, Nat.lt_irrefl, Bool.true_eq_false, n_lit, n_a, n_c, n_s, n_b, n_m, n_g, n_w, n_n, rk_X5_statementAtToken, hC]
  refine ⟨fun w1 => ?_, fun w1 => ?_⟩
  rotate_left
  · rw [if_pos w1] at hP
    exact hP
  rw [if_neg w1] at hP
  refine pp_go rfl sk_X5_statementAtToken_28 ?_
  simp (disch := omega) only [sg_X5_statementAtToken_28, sw_c, sw_n, sx, sf_4, sv_i, sv_j, sv_r, sv_q1, sv_q0, sv_1i, sv_1r, sv_2, sl_i, sl_j, sl_a, sl_v, sp_p, sp_f1, sp_f2, sc_w, sc_c, sc_r, sc_f, sc_a, sc_k, pp_in, pp_al, ↓reduceIte, Nat.reduceEqDiff, Nat.reduceLT, Nat.reduceLeDiff, Nat.reduceAdd, Nat.reduceSub, Nat.reduceMul, List.length_cons, List.length_nil, true_and, and_true, and_self, true_implies, eq_self, not_true_eq_false, not_false_eq_true, false_implies, implies_true, false_and, and_false, Bool.false_eq_true, or_true, true_or, or_false, false_or, Classical.not_not, Nat.le_refl, Nat.lt_irrefl, Bool.true_eq_false, n_lit, n_a, n_c, n_s, n_b, n_m, n_g, n_w, n_n, rk_X5_statementAtToken, hC]
  refine c_isWord (i := 2) hC hx ht (by omega) ?_
  simp (disch := omega) only [sw_c, sw_n, sx, sf_4, sv_i, sv_j, sv_r, sv_q1, sv_q0, sv_1i, sv_1r, sv_2, sl_i, sl_j, sl_a, sl_v, sp_p, sp_f1, sp_f2, sc_w, sc_c, sc_r, sc_f, sc_a, sc_k, pp_in, pp_al, ↓reduceIte, Nat.reduceEqDiff, Nat.reduceLT, Nat.reduceLeDiff, Nat.reduceAdd, Nat.reduceSub, Nat.reduceMul, List.length_cons, List.length_nil, true_and, and_true, and_self, true_implies, eq_self, not_true_eq_false, not_false_eq_true, false_implies, implies_true, false_and, and_false, Bool.false_eq_true, or_true, true_or, or_false, false_or, Classical.not_not, Nat.le_refl, Nat.lt_irrefl, Bool.true_eq_false, n_lit, n_a, n_c, n_s, n_b, n_m, n_g, n_w, n_n, rk_X5_statementAtToken, hC]
  refine ⟨fun w2 => ?_, fun w2 => ?_⟩
  rotate_left
  · rw [if_pos w2] at hP
    exact hP
  rw [if_neg w2] at hP
  refine pp_go rfl sk_X5_statementAtToken_42 ?_
  simp (disch := omega) only [sg_X5_statementAtToken_42, sw_c, sw_n, sx, sf_4, sv_i, sv_j, sv_r, sv_q1, sv_q0, sv_1i, sv_1r, sv_2, sl_i, sl_j, sl_a, sl_v, sp_p, sp_f1, sp_f2, sc_w, sc_c, sc_r, sc_f, sc_a, sc_k, pp_in, pp_al, ↓reduceIte, Nat.reduceEqDiff, Nat.reduceLT, Nat.reduceLeDiff, Nat.reduceAdd, Nat.reduceSub, Nat.reduceMul, List.length_cons, List.length_nil, true_and, and_true, and_self, true_implies, eq_self, not_true_eq_false, not_false_eq_true, false_implies, implies_true, false_and, and_false, Bool.false_eq_true, or_true, true_or, or_false, false_or, Classical.not_not, Nat.le_refl, Nat.lt_irrefl, Bool.true_eq_false, n_lit, n_a, n_c, n_s, n_b, n_m, n_g, n_w, n_n, rk_X5_statementAtToken, hC]
  refine c_isWord (i := 3) hC hx ht (by omega) ?_
  simp (disch := omega) only [sw_c, sw_n, sx, sf_4, sv_i, sv_j, sv_r, sv_q1, sv_q0, sv_1i, sv_1r, sv_2, sl_i, sl_j, sl_a, sl_v, sp_p, sp_f1, sp_f2, sc_w, sc_c, sc_r, sc_f, sc_a, sc_k, pp_in, pp_al, ↓reduceIte, Nat.reduceEqDiff, Nat.reduceLT, Nat.reduceLeDiff, Nat.reduceAdd, Nat.reduceSub, Nat.reduceMul, List.length_cons, List.length_nil, true_and, and_true, and_self, true_implies, eq_self, not_true_eq_false, not_false_eq_true, false_implies, implies_true, false_and, and_false, Bool.false_eq_true, or_true, true_or, or_false, false_or, Classical.not_not, Nat.le_refl, Nat.lt_irrefl, Bool.true_eq_false, n_lit, n_a, n_c, n_s, n_b, n_m, n_g, n_w, n_n, rk_X5_statementAtToken, hC]
  refine ⟨fun w3 => ?_, fun w3 => ?_⟩
  rotate_left
  · rw [if_pos w3] at hP
    exact hP
  rw [if_neg w3] at hP
  refine pp_go rfl sk_X5_statementAtToken_56 ?_
  simp (disch := omega) only [sg_X5_statementAtToken_56, sw_c, sw_n, sx, sf_4, sv_i, sv_j, sv_r, sv_q1, sv_q0, sv_1i, sv_1r, sv_2, sl_i, sl_j, sl_a, sl_v, sp_p, sp_f1, sp_f2, sc_w, sc_c, sc_r, sc_f, sc_a, sc_k, pp_in, pp_al, ↓reduceIte, Nat.reduceEqDiff, Nat.reduceLT, Nat.reduceLeDiff, Nat.reduceAdd, Nat.reduceSub, Nat.reduceMul, List.length_cons, List.length_nil, true_and, and_true, and_self, true_implies, eq_self, not_true_eq_false, not_false_eq_true, false_implies, implies_true, false_and, and_false, Bool.false_eq_true, or_true, true_or, or_false, false_or, Classical.not_not, Nat.le_refl, Nat.lt_irrefl, Bool.true_eq_false, n_lit, n_a, n_c, n_s, n_b, n_m, n_g, n_w, n_n, rk_X5_statementAtToken, hC]
  refine c_isWord (i := 4) hC hx ht (by omega) ?_
  simp (disch := omega) only [sw_c, sw_n, sx, sf_4, sv_i, sv_j, sv_r, sv_q1, sv_q0, sv_1i, sv_1r, sv_2, sl_i, sl_j, sl_a, sl_v, sp_p, sp_f1, sp_f2, sc_w, sc_c, sc_r, sc_f, sc_a, sc_k, pp_in, pp_al, ↓reduceIte, Nat.reduceEqDiff, Nat.reduceLT, Nat.reduceLeDiff, Nat.reduceAdd, Nat.reduceSub, Nat.reduceMul, List.length_cons, List.length_nil, true_and, and_true, and_self, true_implies, eq_self, not_true_eq_false, not_false_eq_true, false_implies, implies_true, false_and, and_false, Bool.false_eq_true, or_true, true_or, or_false, false_or, Classical.not_not, Nat.le_refl, Nat.lt_irrefl, Bool.true_eq_false, n_lit, n_a, n_c, n_s, n_b, n_m, n_g, n_w, n_n, rk_X5_statementAtToken, hC]
  refine ⟨fun w4 => ?_, fun w4 => ?_⟩
  rotate_left
  · rw [if_pos w4] at hP
    exact hP
  rw [if_neg w4] at hP
  refine pp_go rfl sk_X5_statementAtToken_70 ?_
  simp (disch := omega) only [sg_X5_statementAtToken_70, sw_c, sw_n, sx, sf_4, sv_i, sv_j, sv_r, sv_q1, sv_q0, sv_1i, sv_1r, sv_2, sl_i, sl_j, sl_a, sl_v, sp_p, sp_f1, sp_f2, sc_w, sc_c, sc_r, sc_f, sc_a, sc_k, pp_in, pp_al, ↓reduceIte, Nat.reduceEqDiff, Nat.reduceLT, Nat.reduceLeDiff, Nat.reduceAdd, Nat.reduceSub, Nat.reduceMul, List.length_cons, List.length_nil, true_and, and_true, and_self, true_implies, eq_self, not_true_eq_false, not_false_eq_true, false_implies, implies_true, false_and, and_false, Bool.false_eq_true, or_true, true_or, or_false, false_or, Classical.not_not, Nat.le_refl, Nat.lt_irrefl, Bool.true_eq_false, n_lit, n_a, n_c, n_s, n_b, n_m, n_g, n_w, n_n, rk_X5_statementAtToken, hC]
  refine c_isWord (i := 5) hC hx ht (by omega) ?_
  simp (disch := omega) only [sw_c, sw_n, sx, sf_4, sv_i, sv_j, sv_r, sv_q1, sv_q0, sv_1i, sv_1r, sv_2, sl_i, sl_j, sl_a, sl_v, sp_p, sp_f1, sp_f2, sc_w, sc_c, sc_r, sc_f, sc_a, sc_k, pp_in, pp_al, ↓reduceIte, Nat.reduceEqDiff, Nat.reduceLT, Nat.reduceLeDiff, Nat.reduceAdd, Nat.reduceSub, Nat.reduceMul, List.length_cons, List.length_nil, true_and, and_true, and_self, true_implies, eq_self, not_true_eq_false, not_false_eq_true, false_implies, implies_true, false_and, and_false, Bool.false_eq_true, or_true, true_or, or_false, false_or, Classical.not_not, Nat.le_refl, Nat.lt_irrefl, Bool.true_eq_false, n_lit, n_a, n_c, n_s, n_b, n_m, n_g, n_w, n_n, rk_X5_statementAtToken, hC]
  refine ⟨fun w5 => ?_, fun w5 => ?_⟩
  rotate_left
  · rw [if_pos w5] at hP
    exact hP
  rw [if_neg w5] at hP
  refine pp_go rfl sk_X5_statementAtToken_84 ?_
  simp (disch := omega) only [sg_X5_statementAtToken_84, sw_c, sw_n, sx, sf_4, sv_i, sv_j, sv_r, sv_q1, sv_q0, sv_1i, sv_1r, sv_2, sl_i, sl_j, sl_a, sl_v, sp_p, sp_f1, sp_f2, sc_w, sc_c, sc_r, sc_f, sc_a, sc_k, pp_in, pp_al, ↓reduceIte, Nat.reduceEqDiff, Nat.reduceLT, Nat.reduceLeDiff, Nat.reduceAdd, Nat.reduceSub, Nat.reduceMul, List.length_cons, List.length_nil, true_and, and_true, and_self, true_implies, eq_self, not_true_eq_false, not_false_eq_true, false_implies, implies_true, false_and, and_false, Bool.false_eq_true, or_true, true_or, or_false, false_or, Classical.not_not, Nat.le_refl, Nat.lt_irrefl, Bool.true_eq_false, n_lit, n_a, n_c, n_s, n_b, n_m, n_g, n_w, n_n, rk_X5_statementAtToken, hC]
  refine c_isWord (i := 6) hC hx ht (by omega) ?_
  simp (disch := omega) only [sw_c, sw_n, sx, sf_4, sv_i, sv_j, sv_r, sv_q1, sv_q0, sv_1i, sv_1r, sv_2, sl_i, sl_j, sl_a, sl_v, sp_p, sp_f1, sp_f2, sc_w, sc_c, sc_r, sc_f, sc_a, sc_k, pp_in, pp_al, ↓reduceIte, Nat.reduceEqDiff, Nat.reduceLT, Nat.reduceLeDiff, Nat.reduceAdd, Nat.reduceSub, Nat.reduceMul, List.length_cons, List.length_nil, true_and, and_true, and_self, true_implies, eq_self, not_true_eq_false, not_false_eq_true, false_implies, implies_true, false_and, and_false, Bool.false_eq_true, or_true, true_or, or_false, false_or, Classical.not_not, Nat.le_refl, Nat.lt_irrefl, Bool.true_eq_false, n_lit, n_a, n_c, n_s, n_b, n_m, n_g, n_w, n_n, rk_X5_statementAtToken, hC]
  refine ⟨fun w6 => ?_, fun w6 => ?_⟩
  rotate_left
  · rw [if_pos w6] at hP
    exact hP
  rw [if_neg w6] at hP
  refine pp_go rfl sk_X5_statementAtToken_99 ?_
  simp (disch := omega) only [sg_X5_statementAtToken_99, sw_c, sw_n, sx, sf_4, sv_i, sv_j, sv_r, sv_q1, sv_q0, sv_1i, sv_1r, sv_2, sl_i, sl_j, sl_a, sl_v, sp_p, sp_f1, sp_f2, sc_w, sc_c, sc_r, sc_f, sc_a, sc_k, pp_in, pp_al, ↓reduceIte, Nat.reduceEqDiff, Nat.reduceLT, Nat.reduceLeDiff, Nat.reduceAdd, Nat.reduceSub, Nat.reduceMul, List.length_cons, List.length_nil, true_and, and_true, and_self, true_implies, eq_self, not_true_eq_false, not_false_eq_true, false_implies, implies_true, false_and, and_false, Bool.false_eq_true, or_true, true_or, or_false, false_or, Classical.not_not, Nat.le_refl, Nat.lt_irrefl, Bool.true_eq_false, n_lit, n_a, n_c, n_s, n_b, n_m, n_g, n_w, n_n, rk_X5_statementAtToken, hC]
  refine c_isWord (i := 7) hC hx ht (by omega) ?_
  simp (disch := omega) only [sw_c, sw_n, sx, sf_4, sv_i, sv_j, sv_r, sv_q1, sv_q0, sv_1i, sv_1r, sv_2, sl_i, sl_j, sl_a, sl_v, sp_p, sp_f1, sp_f2, sc_w, sc_c, sc_r, sc_f, sc_a, sc_k, pp_in, pp_al, ↓reduceIte, Nat.reduceEqDiff, Nat.reduceLT, Nat.reduceLeDiff, Nat.reduceAdd, Nat.reduceSub, Nat.reduceMul, List.length_cons, List.length_nil, true_and, and_true, and_self, true_implies, eq_self, not_true_eq_false, not_false_eq_true, false_implies, implies_true, false_and, and_false, Bool.false_eq_true, or_true, true_or, or_false, false_or, Classical.not_not, Nat.le_refl, Nat.lt_irrefl, Bool.true_eq_false, n_lit, n_a, n_c, n_s, n_b, n_m, n_g, n_w, n_n, rk_X5_statementAtToken, hC]
  refine ⟨fun w7 => ?_, fun w7 => ?_⟩
  rotate_left
  · rw [if_pos w7] at hP
    exact hP
  rw [if_neg w7] at hP
  refine pp_go rfl sk_X5_statementAtToken_114 ?_
  simp (disch := omega) only [sg_X5_statementAtToken_114, sw_c, sw_n, sx, sf_4, sv_i, sv_j, sv_r, sv_q1, sv_q0, sv_1i, sv_1r, sv_2, sl_i, sl_j, sl_a, sl_v, sp_p, sp_f1, sp_f2, sc_w, sc_c, sc_r, sc_f, sc_a, sc_k, pp_in, pp_al, ↓reduceIte, Nat.reduceEqDiff, Nat.reduceLT, Nat.reduceLeDiff, Nat.reduceAdd, Nat.reduceSub, Nat.reduceMul, List.length_cons, List.length_nil, true_and, and_true, and_self, true_implies, eq_self, not_true_eq_false, not_false_eq_true, false_implies, implies_true, false_and, and_false, Bool.false_eq_true, or_true, true_or, or_false, false_or, Classical.not_not, Nat.le_refl, Nat.lt_irrefl, Bool.true_eq_false, n_lit, n_a, n_c, n_s, n_b, n_m, n_g, n_w, n_n, rk_X5_statementAtToken, hC]
  refine c_isWord (i := 8) hC hx ht (by omega) ?_
  simp (disch := omega) only [sw_c, sw_n, sx, sf_4, sv_i, sv_j, sv_r, sv_q1, sv_q0, sv_1i, sv_1r, sv_2, sl_i, sl_j, sl_a, sl_v, sp_p, sp_f1, sp_f2, sc_w, sc_c, sc_r, sc_f, sc_a, sc_k, pp_in, pp_al, ↓reduceIte, Nat.reduceEqDiff, Nat.reduceLT, Nat.reduceLeDiff, Nat.reduceAdd, Nat.reduceSub, Nat.reduceMul, List.length_cons, List.length_nil, true_and, and_true, and_self, true_implies, eq_self, not_true_eq_false, not_false_eq_true, false_implies, implies_true, false_and, and_false, Bool.false_eq_true, or_true, true_or, or_false, false_or, Classical.not_not, Nat.le_refl, Nat.lt_irrefl, Bool.true_eq_false, n_lit, n_a, n_c, n_s, n_b, n_m, n_g, n_w, n_n, rk_X5_statementAtToken, hC]
  refine ⟨fun w8 => ?_, fun w8 => ?_⟩
  rotate_left
  · rw [if_pos w8] at hP
    exact hP
  rw [if_neg w8] at hP
  refine pp_go rfl sk_X5_statementAtToken_129 ?_
  simp (disch := omega) only [sg_X5_statementAtToken_129, sw_c, sw_n, sx, sf_4, sv_i, sv_j, sv_r, sv_q1, sv_q0, sv_1i, sv_1r, sv_2, sl_i, sl_j, sl_a, sl_v, sp_p, sp_f1, sp_f2, sc_w, sc_c, sc_r, sc_f, sc_a, sc_k, pp_in, pp_al, ↓reduceIte, Nat.reduceEqDiff, Nat.reduceLT, Nat.reduceLeDiff, Nat.reduceAdd, Nat.reduceSub, Nat.reduceMul, List.length_cons, List.length_nil, true_and, and_true, and_self, true_implies, eq_self, not_true_eq_false, not_false_eq_true, false_implies, implies_true, false_and, and_false, Bool.false_eq_true, or_true, true_or, or_false, false_or, Classical.not_not, Nat.le_refl, Nat.lt_irrefl, Bool.true_eq_false, n_lit, n_a, n_c, n_s, n_b, n_m, n_g, n_w, n_n, rk_X5_statementAtToken, hC]
  refine c_isWord (i := 9) hC hx ht (by omega) ?_
  simp (disch := omega) only [sw_c, sw_n, sx, sf_4, sv_i, sv_j, sv_r, sv_q1, sv_q0, sv_1i, sv_1r, sv_2, sl_i, sl_j, sl_a, sl_v, sp_p, sp_f1, sp_f2, sc_w, sc_c, sc_r, sc_f, sc_a, sc_k, pp_in, pp_al, ↓reduceIte, Nat.reduceEqDiff, Nat.reduceLT, Nat.reduceLeDiff, Nat.reduceAdd, Nat.reduceSub, Nat.reduceMul, List.length_cons, List.length_nil, true_and, and_true, and_self, true_implies, eq_self, not_true_eq_false, not_false_eq_true, false_implies, implies_true, false_and, and_false, Bool.false_eq_true, or_true, true_or, or_false, false_or, Classical.not_not, Nat.le_refl, Nat.lt_irrefl, Bool.true_eq_false, n_lit, n_a, n_c, n_s, n_b, n_m, n_g, n_w, n_n, rk_X5_statementAtToken, hC]
  refine ⟨fun w9 => ?_, fun w9 => ?_⟩
  rotate_left
  · rw [if_pos w9] at hP
    exact hP
  rw [if_neg w9] at hP
  refine pp_go rfl sk_X5_statementAtToken_144 ?_
  simp (disch := omega) only [sg_X5_statementAtToken_144, sw_c, sw_n, sx, sf_4, sv_i, sv_j, sv_r, sv_q1, sv_q0, sv_1i, sv_1r, sv_2, sl_i, sl_j, sl_a, sl_v, sp_p, sp_f1, sp_f2, sc_w, sc_c, sc_r, sc_f, sc_a, sc_k, pp_in, pp_al, ↓reduceIte, Nat.reduceEqDiff, Nat.reduceLT, Nat.reduceLeDiff, Nat.reduceAdd, Nat.reduceSub, Nat.reduceMul, List.length_cons, List.length_nil, true_and, and_true, and_self, true_implies, eq_self, not_true_eq_false, not_false_eq_true, false_implies, implies_true, false_and, and_false, Bool.false_eq_true, or_true, true_or, or_false, false_or, Classical.not_not, Nat.le_refl, Nat.lt_irrefl, Bool.true_eq_false, n_lit, n_a, n_c, n_s, n_b, n_m, n_g, n_w, n_n, rk_X5_statementAtToken, hC]
  refine c_isWord (i := 10) hC hx ht (by omega) ?_
  simp (disch := omega) only [sw_c, sw_n, sx, sf_4, sv_i, sv_j, sv_r, sv_q1, sv_q0, sv_1i, sv_1r, sv_2, sl_i, sl_j, sl_a, sl_v, sp_p, sp_f1, sp_f2, sc_w, sc_c, sc_r, sc_f, sc_a, sc_k, pp_in, pp_al, ↓reduceIte, Nat.reduceEqDiff, Nat.reduceLT, Nat.reduceLeDiff, Nat.reduceAdd, Nat.reduceSub, Nat.reduceMul, List.length_cons, List.length_nil, true_and, and_true, and_self, true_implies, eq_self, not_true_eq_false, not_false_eq_true, false_implies, implies_true, false_and, and_false, Bool.false_eq_true, or_true, true_or, or_false, false_or, Classical.not_not, Nat.le_refl, Nat.lt_irrefl, Bool.true_eq_false, n_lit, n_a, n_c, n_s, n_b, n_m, n_g, n_w, n_n, rk_X5_statementAtToken, hC]
  refine ⟨fun w10 => ?_, fun w10 => ?_⟩
  rotate_left
  · rw [if_pos w10] at hP
    exact hP
  rw [if_neg w10] at hP
  refine pp_go rfl sk_X5_statementAtToken_159 ?_
  simp (disch := omega) only [sg_X5_statementAtToken_159, sw_c, sw_n, sx, sf_4, sv_i, sv_j, sv_r, sv_q1, sv_q0, sv_1i, sv_1r, sv_2, sl_i, sl_j, sl_a, sl_v, sp_p, sp_f1, sp_f2, sc_w, sc_c, sc_r, sc_f, sc_a, sc_k, pp_in, pp_al, ↓reduceIte, Nat.reduceEqDiff, Nat.reduceLT, Nat.reduceLeDiff, Nat.reduceAdd, Nat.reduceSub, Nat.reduceMul, List.length_cons, List.length_nil, true_and, and_true, and_self, true_implies, eq_self, not_true_eq_false, not_false_eq_true, false_implies, implies_true, false_and, and_false, Bool.false_eq_true, or_true, true_or, or_false, false_or, Classical.not_not, Nat.le_refl, Nat.lt_irrefl, Bool.true_eq_false, n_lit, n_a, n_c, n_s, n_b, n_m, n_g, n_w, n_n, rk_X5_statementAtToken, hC]
  refine c_isWord (i := 11) hC hx ht (by omega) ?_
  simp (disch := omega) only [sw_c, sw_n, sx, sf_4, sv_i, sv_j, sv_r, sv_q1, sv_q0, sv_1i, sv_1r, sv_2, sl_i, sl_j, sl_a, sl_v, sp_p, sp_f1, sp_f2, sc_w, sc_c, sc_r, sc_f, sc_a, sc_k, pp_in, pp_al, ↓reduceIte, Nat.reduceEqDiff, Nat.reduceLT, Nat.reduceLeDiff, Nat.reduceAdd, Nat.reduceSub, Nat.reduceMul, List.length_cons, List.length_nil, true_and, and_true, and_self, true_implies, eq_self, not_true_eq_false, not_false_eq_true, false_implies, implies_true, false_and, and_false, Bool.false_eq_true, or_true, true_or, or_false, false_or, Classical.not_not, Nat.le_refl, Nat.lt_irrefl, Bool.true_eq_false, n_lit, n_a, n_c, n_s, n_b, n_m, n_g, n_w, n_n, rk_X5_statementAtToken, hC]
  refine ⟨fun w11 => ?_, fun w11 => ?_⟩
  rotate_left
  · rw [if_pos w11] at hP
    exact hP
  rw [if_neg w11] at hP
  refine pp_go rfl sk_X5_statementAtToken_174 ?_
  simp (disch := omega) only [sg_X5_statementAtToken_174, sw_c, sw_n, sx, sf_4, sv_i, sv_j, sv_r, sv_q1, sv_q0, sv_1i, sv_1r, sv_2, sl_i, sl_j, sl_a, sl_v, sp_p, sp_f1, sp_f2, sc_w, sc_c, sc_r, sc_f, sc_a, sc_k, pp_in, pp_al, ↓reduceIte, Nat.reduceEqDiff, Nat.reduceLT, Nat.reduceLeDiff, Nat.reduceAdd, Nat.reduceSub, Nat.reduceMul, List.length_cons, List.length_nil, true_and, and_true, and_self, true_implies, eq_self, not_true_eq_false, not_false_eq_true, false_implies, implies_true, false_and, and_false, Bool.false_eq_true, or_true, true_or, or_false, false_or, Classical.not_not, Nat.le_refl, Nat.lt_irrefl, Bool.true_eq_false, n_lit, n_a, n_c, n_s, n_b, n_m, n_g, n_w, n_n, rk_X5_statementAtToken]
  exact hP
theorem c_admit {o : Option Nat} (hC : sC sh R) (hW : cW I J (dG D)) (hV : cV I D) (hs : sNC I D.2.2.2.2.2.2) (hw : wfD D) (ho : ∀ i, o = some i → i < 12) (hP : P (.inl (some (.int (Int32.ofNat (admO D o))))) (sh, I, J, R)) : pp_MW g (h + 1) mi_X5_admit [.ref 66, .int (oi o)] (sh, I, J, R) P := by
  obtain ⟨d0, d1, d2, d3, hw⟩ := hw
  have m0 : I 74 2 = Int32.ofNat (D.1 0) := hW.2.2.1
  have m2 : I 74 4 = Int32.ofNat (D.1 2) := hW.2.2.2.1
  have m1 : I 67 0 = Int32.ofNat (D.1 1) := hV.1
  have m3 : I 67 3 = Int32.ofNat (D.1 3) := hV.2.1
  cases o with
  | none =>
    refine pp_st0 [(0, .ref 66), (1, .int (-1))] ok_X5_admit rfl (Nat.le_of_ble_eq_true rfl) rfl ?_
    have hP : P (.inl (some (.int (Int32.ofNat 1)))) (sh, I, J, R) := hP
    have e1 : (-Int32.ofNat 1 = Int32.ofInt (-1)) := by decide
    have z : ∀ i : Nat, i < 4 → ¬ -Int32.ofNat 1 = Int32.ofNat i := fun i hi e => by
      have := congrArg Int32.toInt e
      rw [n_i.2.2.2 _ (by omega)] at this
      have y : (-Int32.ofNat 1).toInt = -1 := by decide
      omega
    refine pp_go rfl sk_X5_admit_0 ?_
    simp (disch := omega) only [sg_X5_admit_0, sw_c, sw_n, sx, sf_4, sv_i, sv_j, sv_r, sv_q1, sv_q0, sv_1i, sv_1r, sv_2, sl_i, sl_j, sl_a, sl_v, sp_p, sp_f1, sp_f2, sc_w, sc_c, sc_r, sc_f, sc_a, sc_k, pp_in, pp_al, ↓reduceIte, Nat.reduceEqDiff, Nat.reduceLT, Nat.reduceLeDiff, Nat.reduceAdd, Nat.reduceSub, Nat.reduceMul, List.length_cons, List.length_nil, true_and, and_true, and_self, true_implies, eq_self, not_true_eq_false, not_false_eq_true, false_implies, implies_true, false_and, and_false, Bool.false_eq_true, or_true, true_or, or_false, false_or, Classical.not_not, Nat.le_refl, Nat.lt_irrefl, Bool.true_eq_false, n_lit, n_a, n_c, n_s, n_b, n_m, n_g, n_w, n_n, rk_X5_admit, sc_s]
    refine ⟨⟨fun _ => ?_, fun q => ?_, fun q => ?_, fun q => ?_, fun q => ?_⟩, fun q => ?_⟩
    · refine pp_go rfl sk_X5_admit_36 ?_
      simp (disch := omega) only [sg_X5_admit_36, sw_c, sw_n, sx, sf_4, sv_i, sv_j, sv_r, sv_q1, sv_q0, sv_1i, sv_1r, sv_2, sl_i, sl_j, sl_a, sl_v, sp_p, sp_f1, sp_f2, sc_w, sc_c, sc_r, sc_f, sc_a, sc_k, pp_in, pp_al, ↓reduceIte, Nat.reduceEqDiff, Nat.reduceLT, Nat.reduceLeDiff, Nat.reduceAdd, Nat.reduceSub, Nat.reduceMul, List.length_cons, List.length_nil, true_and, and_true, and_self, true_implies, eq_self, not_true_eq_false, not_false_eq_true, false_implies, implies_true, false_and, and_false, Bool.false_eq_true, or_true, true_or, or_false, false_or, Classical.not_not, Nat.le_refl, Nat.lt_irrefl, Bool.true_eq_false, n_lit, n_a, n_c, n_s, n_b, n_m, n_g, n_w, n_n, rk_X5_admit]
      exact hP
    · exact absurd q (by decide)
    · exact absurd q (by decide)
    · exact absurd q (by decide)
    · exact absurd q (by decide)
    · exact absurd q (by decide)
  | some i =>
    have i12 := ho i rfl
    have hP : P (.inl (some (.int (Int32.ofNat (adm D i))))) (sh, I, J, R) := hP
    refine pp_st0 [(0, .ref 66), (1, .int (Int32.ofNat i))] ok_X5_admit rfl (Nat.le_of_ble_eq_true rfl) rfl ?_
    refine pp_go rfl sk_X5_admit_0 ?_
    simp (disch := omega) only [sg_X5_admit_0, sw_c, sw_n, sx, sf_4, sv_i, sv_j, sv_r, sv_q1, sv_q0, sv_1i, sv_1r, sv_2, sl_i, sl_j, sl_a, sl_v, sp_p, sp_f1, sp_f2, sc_w, sc_c, sc_r, sc_f, sc_a, sc_k, pp_in, pp_al, ↓reduceIte, Nat.reduceEqDiff, Nat.reduceLT, Nat.reduceLeDiff, Nat.reduceAdd, Nat.reduceSub, Nat.reduceMul, List.length_cons, List.length_nil, true_and, and_true, and_self, true_implies, eq_self, not_true_eq_false, not_false_eq_true, false_implies, implies_true, false_and, and_false, Bool.false_eq_true, or_true, true_or, or_false, false_or, Classical.not_not, Nat.le_refl, Nat.lt_irrefl, Bool.true_eq_false, n_lit, n_a, n_c, n_s, n_b, n_m, n_g, n_w, n_n, rk_X5_admit, sc_s, n_i]
    refine ⟨⟨fun q => ?_, fun q => ?_, fun q => ?_, fun q => ?_, fun q => ?_⟩, fun q => ?_⟩
    · exfalso; omega
    · rw [show i = 0 by omega] at hP
      repeat' (first | ((with_reducible refine pp_go (pc := 38) (seg := sg_X5_admit_38) hh_X5_admit sk_X5_admit_38 ?_); simp (disch := omega) only [sg_X5_admit_38, sw_c, sw_n, sx, sf_4, sv_i, sv_j, sv_r, sv_q1, sv_q0, sv_1i, sv_1r, sv_2, sl_i, sl_j, sl_a, sl_v, sp_p, sp_f1, sp_f2, sc_w, sc_c, sc_r, sc_f, sc_a, sc_k, pp_in, pp_al, ↓reduceIte, Nat.reduceEqDiff, Nat.reduceLT, Nat.reduceLeDiff, Nat.reduceAdd, Nat.reduceSub, Nat.reduceMul, List.length_cons, List.length_nil, true_and, and_true, and_self, true_implies, eq_self, not_true_eq_false, not_false_eq_true, false_implies, implies_true, false_and, and_false, Bool.false_eq_true, or_true, true_or, or_false, false_or, Classical.not_not, Nat.le_refl, Nat.lt_irrefl, Bool.true_eq_false, n_lit, n_a, n_c, n_s, n_b, n_m, n_g, n_w, n_n, rk_X5_admit, hC, m0]) | ((with_reducible refine pp_go (pc := 54) (seg := sg_X5_admit_54) hh_X5_admit sk_X5_admit_54 ?_); simp (disch := omega) only [sg_X5_admit_54, sw_c, sw_n, sx, sf_4, sv_i, sv_j, sv_r, sv_q1, sv_q0, sv_1i, sv_1r, sv_2, sl_i, sl_j, sl_a, sl_v, sp_p, sp_f1, sp_f2, sc_w, sc_c, sc_r, sc_f, sc_a, sc_k, pp_in, pp_al, ↓reduceIte, Nat.reduceEqDiff, Nat.reduceLT, Nat.reduceLeDiff, Nat.reduceAdd, Nat.reduceSub, Nat.reduceMul, List.length_cons, List.length_nil, true_and, and_true, and_self, true_implies, eq_self, not_true_eq_false, not_false_eq_true, false_implies, implies_true, false_and, and_false, Bool.false_eq_true, or_true, true_or, or_false, false_or, Classical.not_not, Nat.le_refl, Nat.lt_irrefl, Bool.true_eq_false, n_lit, n_a, n_c, n_s, n_b, n_m, n_g, n_w, n_n, rk_X5_admit, hC, m0]) | ((with_reducible refine pp_go (pc := 55) (seg := sg_X5_admit_55) hh_X5_admit sk_X5_admit_55 ?_); simp (disch := omega) only [sg_X5_admit_55, sw_c, sw_n, sx, sf_4, sv_i, sv_j, sv_r, sv_q1, sv_q0, sv_1i, sv_1r, sv_2, sl_i, sl_j, sl_a, sl_v, sp_p, sp_f1, sp_f2, sc_w, sc_c, sc_r, sc_f, sc_a, sc_k, pp_in, pp_al, ↓reduceIte, Nat.reduceEqDiff, Nat.reduceLT, Nat.reduceLeDiff, Nat.reduceAdd, Nat.reduceSub, Nat.reduceMul, List.length_cons, List.length_nil, true_and, and_true, and_self, true_implies, eq_self, not_true_eq_false, not_false_eq_true, false_implies, implies_true, false_and, and_false, Bool.false_eq_true, or_true, true_or, or_false, false_or, Classical.not_not, Nat.le_refl, Nat.lt_irrefl, Bool.true_eq_false, n_lit, n_a, n_c, n_s, n_b, n_m, n_g, n_w, n_n, rk_X5_admit, hC, m0]) | (refine ⟨fun _ => ?_, fun _ => ?_⟩ <;> try (exfalso; omega)) | fail)
      · rw [adm, if_pos rfl, if_neg (by omega)] at hP; exact hP
      · rw [adm, if_pos rfl, if_pos (by omega)] at hP; exact hP
    · rw [show i = 1 by omega] at hP
      repeat' (first | ((with_reducible refine pp_go (pc := 56) (seg := sg_X5_admit_56) hh_X5_admit sk_X5_admit_56 ?_); simp (disch := omega) only [sg_X5_admit_56, sw_c, sw_n, sx, sf_4, sv_i, sv_j, sv_r, sv_q1, sv_q0, sv_1i, sv_1r, sv_2, sl_i, sl_j, sl_a, sl_v, sp_p, sp_f1, sp_f2, sc_w, sc_c, sc_r, sc_f, sc_a, sc_k, pp_in, pp_al, ↓reduceIte, Nat.reduceEqDiff, Nat.reduceLT, Nat.reduceLeDiff, Nat.reduceAdd, Nat.reduceSub, Nat.reduceMul, List.length_cons, List.length_nil, true_and, and_true, and_self, true_implies, eq_self, not_true_eq_false, not_false_eq_true, false_implies, implies_true, false_and, and_false, Bool.false_eq_true, or_true, true_or, or_false, false_or, Classical.not_not, Nat.le_refl, Nat.lt_irrefl, Bool.true_eq_false, n_lit, n_a, n_c, n_s, n_b, n_m, n_g, n_w, n_n, rk_X5_admit, hC, m1]) | ((with_reducible refine pp_go (pc := 71) (seg := sg_X5_admit_71) hh_X5_admit sk_X5_admit_71 ?_); simp (disch := omega) only [sg_X5_admit_71, sw_c, sw_n, sx, sf_4, sv_i, sv_j, sv_r, sv_q1, sv_q0, sv_1i, sv_1r, sv_2, sl_i, sl_j, sl_a, sl_v, sp_p, sp_f1, sp_f2, sc_w, sc_c, sc_r, sc_f, sc_a, sc_k, pp_in, pp_al, ↓reduceIte, Nat.reduceEqDiff, Nat.reduceLT, Nat.reduceLeDiff, Nat.reduceAdd, Nat.reduceSub, Nat.reduceMul, List.length_cons, List.length_nil, true_and, and_true, and_self, true_implies, eq_self, not_true_eq_false, not_false_eq_true, false_implies, implies_true, false_and, and_false, Bool.false_eq_true, or_true, true_or, or_false, false_or, Classical.not_not, Nat.le_refl, Nat.lt_irrefl, Bool.true_eq_false, n_lit, n_a, n_c, n_s, n_b, n_m, n_g, n_w, n_n, rk_X5_admit, hC, m1]) | ((with_reducible refine pp_go (pc := 72) (seg := sg_X5_admit_72) hh_X5_admit sk_X5_admit_72 ?_); simp (disch := omega) only [sg_X5_admit_72, sw_c, sw_n, sx, sf_4, sv_i, sv_j, sv_r, sv_q1, sv_q0, sv_1i, sv_1r, sv_2, sl_i, sl_j, sl_a, sl_v, sp_p, sp_f1, sp_f2, sc_w, sc_c, sc_r, sc_f, sc_a, sc_k, pp_in, pp_al, ↓reduceIte, Nat.reduceEqDiff, Nat.reduceLT, Nat.reduceLeDiff, Nat.reduceAdd, Nat.reduceSub, Nat.reduceMul, List.length_cons, List.length_nil, true_and, and_true, and_self, true_implies, eq_self, not_true_eq_false, not_false_eq_true, false_implies, implies_true, false_and, and_false, Bool.false_eq_true, or_true, true_or, or_false, false_or, Classical.not_not, Nat.le_refl, Nat.lt_irrefl, Bool.true_eq_false, n_lit, n_a, n_c, n_s, n_b, n_m, n_g, n_w, n_n, rk_X5_admit, hC, m1]) | (refine ⟨fun _ => ?_, fun _ => ?_⟩ <;> try (exfalso; omega)) | fail)
      · rw [adm, if_neg (by omega), if_pos rfl, if_neg (by omega)] at hP; exact hP
      · rw [adm, if_neg (by omega), if_pos rfl, if_pos (by omega)] at hP; exact hP
    · rw [show i = 2 by omega] at hP
      repeat' (first | ((with_reducible refine pp_go (pc := 73) (seg := sg_X5_admit_73) hh_X5_admit sk_X5_admit_73 ?_); simp (disch := omega) only [sg_X5_admit_73, sw_c, sw_n, sx, sf_4, sv_i, sv_j, sv_r, sv_q1, sv_q0, sv_1i, sv_1r, sv_2, sl_i, sl_j, sl_a, sl_v, sp_p, sp_f1, sp_f2, sc_w, sc_c, sc_r, sc_f, sc_a, sc_k, pp_in, pp_al, ↓reduceIte, Nat.reduceEqDiff, Nat.reduceLT, Nat.reduceLeDiff, Nat.reduceAdd, Nat.reduceSub, Nat.reduceMul, List.length_cons, List.length_nil, true_and, and_true, and_self, true_implies, eq_self, not_true_eq_false, not_false_eq_true, false_implies, implies_true, false_and, and_false, Bool.false_eq_true, or_true, true_or, or_false, false_or, Classical.not_not, Nat.le_refl, Nat.lt_irrefl, Bool.true_eq_false, n_lit, n_a, n_c, n_s, n_b, n_m, n_g, n_w, n_n, rk_X5_admit, hC, m2]) | ((with_reducible refine pp_go (pc := 89) (seg := sg_X5_admit_89) hh_X5_admit sk_X5_admit_89 ?_); simp (disch := omega) only [sg_X5_admit_89, sw_c, sw_n, sx, sf_4, sv_i, sv_j, sv_r, sv_q1, sv_q0, sv_1i, sv_1r, sv_2, sl_i, sl_j, sl_a, sl_v, sp_p, sp_f1, sp_f2, sc_w, sc_c, sc_r, sc_f, sc_a, sc_k, pp_in, pp_al, ↓reduceIte, Nat.reduceEqDiff, Nat.reduceLT, Nat.reduceLeDiff, Nat.reduceAdd, Nat.reduceSub, Nat.reduceMul, List.length_cons, List.length_nil, true_and, and_true, and_self, true_implies, eq_self, not_true_eq_false, not_false_eq_true, false_implies, implies_true, false_and, and_false, Bool.false_eq_true, or_true, true_or, or_false, false_or, Classical.not_not, Nat.le_refl, Nat.lt_irrefl, Bool.true_eq_false, n_lit, n_a, n_c, n_s, n_b, n_m, n_g, n_w, n_n, rk_X5_admit, hC, m2]) | ((with_reducible refine pp_go (pc := 90) (seg := sg_X5_admit_90) hh_X5_admit sk_X5_admit_90 ?_); simp (disch := omega) only [sg_X5_admit_90, sw_c, sw_n, sx, sf_4, sv_i, sv_j, sv_r, sv_q1, sv_q0, sv_1i, sv_1r, sv_2, sl_i, sl_j, sl_a, sl_v, sp_p, sp_f1, sp_f2, sc_w, sc_c, sc_r, sc_f, sc_a, sc_k, pp_in, pp_al, ↓reduceIte, Nat.reduceEqDiff, Nat.reduceLT, Nat.reduceLeDiff, Nat.reduceAdd, Nat.reduceSub, Nat.reduceMul, List.length_cons, List.length_nil, true_and, and_true, and_self, true_implies, eq_self, not_true_eq_false, not_false_eq_true, false_implies, implies_true, false_and, and_false, Bool.false_eq_true, or_true, true_or, or_false, false_or, Classical.not_not, Nat.le_refl, Nat.lt_irrefl, Bool.true_eq_false, n_lit, n_a, n_c, n_s, n_b, n_m, n_g, n_w, n_n, rk_X5_admit, hC, m2]) | (refine ⟨fun _ => ?_, fun _ => ?_⟩ <;> try (exfalso; omega)) | fail)
      · rw [adm, if_neg (by omega), if_neg (by omega), if_pos rfl, if_neg (by omega)] at hP; exact hP
      · rw [adm, if_neg (by omega), if_neg (by omega), if_pos rfl, if_pos (by omega)] at hP; exact hP
    · rw [show i = 3 by omega] at hP
      repeat' (first | ((with_reducible refine pp_go (pc := 91) (seg := sg_X5_admit_91) hh_X5_admit sk_X5_admit_91 ?_); simp (disch := omega) only [sg_X5_admit_91, sw_c, sw_n, sx, sf_4, sv_i, sv_j, sv_r, sv_q1, sv_q0, sv_1i, sv_1r, sv_2, sl_i, sl_j, sl_a, sl_v, sp_p, sp_f1, sp_f2, sc_w, sc_c, sc_r, sc_f, sc_a, sc_k, pp_in, pp_al, ↓reduceIte, Nat.reduceEqDiff, Nat.reduceLT, Nat.reduceLeDiff, Nat.reduceAdd, Nat.reduceSub, Nat.reduceMul, List.length_cons, List.length_nil, true_and, and_true, and_self, true_implies, eq_self, not_true_eq_false, not_false_eq_true, false_implies, implies_true, false_and, and_false, Bool.false_eq_true, or_true, true_or, or_false, false_or, Classical.not_not, Nat.le_refl, Nat.lt_irrefl, Bool.true_eq_false, n_lit, n_a, n_c, n_s, n_b, n_m, n_g, n_w, n_n, rk_X5_admit, hC, m3]) | ((with_reducible refine pp_go (pc := 107) (seg := sg_X5_admit_107) hh_X5_admit sk_X5_admit_107 ?_); simp (disch := omega) only [sg_X5_admit_107, sw_c, sw_n, sx, sf_4, sv_i, sv_j, sv_r, sv_q1, sv_q0, sv_1i, sv_1r, sv_2, sl_i, sl_j, sl_a, sl_v, sp_p, sp_f1, sp_f2, sc_w, sc_c, sc_r, sc_f, sc_a, sc_k, pp_in, pp_al, ↓reduceIte, Nat.reduceEqDiff, Nat.reduceLT, Nat.reduceLeDiff, Nat.reduceAdd, Nat.reduceSub, Nat.reduceMul, List.length_cons, List.length_nil, true_and, and_true, and_self, true_implies, eq_self, not_true_eq_false, not_false_eq_true, false_implies, implies_true, false_and, and_false, Bool.false_eq_true, or_true, true_or, or_false, false_or, Classical.not_not, Nat.le_refl, Nat.lt_irrefl, Bool.true_eq_false, n_lit, n_a, n_c, n_s, n_b, n_m, n_g, n_w, n_n, rk_X5_admit, hC, m3]) | ((with_reducible refine pp_go (pc := 108) (seg := sg_X5_admit_108) hh_X5_admit sk_X5_admit_108 ?_); simp (disch := omega) only [sg_X5_admit_108, sw_c, sw_n, sx, sf_4, sv_i, sv_j, sv_r, sv_q1, sv_q0, sv_1i, sv_1r, sv_2, sl_i, sl_j, sl_a, sl_v, sp_p, sp_f1, sp_f2, sc_w, sc_c, sc_r, sc_f, sc_a, sc_k, pp_in, pp_al, ↓reduceIte, Nat.reduceEqDiff, Nat.reduceLT, Nat.reduceLeDiff, Nat.reduceAdd, Nat.reduceSub, Nat.reduceMul, List.length_cons, List.length_nil, true_and, and_true, and_self, true_implies, eq_self, not_true_eq_false, not_false_eq_true, false_implies, implies_true, false_and, and_false, Bool.false_eq_true, or_true, true_or, or_false, false_or, Classical.not_not, Nat.le_refl, Nat.lt_irrefl, Bool.true_eq_false, n_lit, n_a, n_c, n_s, n_b, n_m, n_g, n_w, n_n, rk_X5_admit, hC, m3]) | (refine ⟨fun _ => ?_, fun _ => ?_⟩ <;> try (exfalso; omega)) | fail)
      · rw [adm, if_neg (by omega), if_neg (by omega), if_neg (by omega), if_pos rfl, if_neg (by omega)] at hP; exact hP
      · rw [adm, if_neg (by omega), if_neg (by omega), if_neg (by omega), if_pos rfl, if_pos (by omega)] at hP; exact hP
    · obtain ⟨s, s1, s2, s3⟩ := hs
      have si := s3 (i - 4) (by omega)
      rw [show 4 + (i - 4) = i by omega] at si
      have e : s >>> i &&& 1 = s / 2 ^ i % 2 := by rw [Nat.shiftRight_eq_div_pow, Nat.and_one_is_mod]
      have bb : (bit s i = true) = (s / 2 ^ i % 2 = 1) := by simp [bit]
      have l2 : s / 2 ^ i % 2 < 2 := Nat.mod_lt _ (by omega)
      rw [adm, if_neg (by omega), if_neg (by omega), if_neg (by omega), if_neg (by omega), ← si] at hP
      repeat' (first | ((with_reducible refine pp_go (pc := 109) (seg := sg_X5_admit_109) hh_X5_admit sk_X5_admit_109 ?_); simp (disch := omega) only [sg_X5_admit_109, sw_c, sw_n, sx, sf_4, sv_i, sv_j, sv_r, sv_q1, sv_q0, sv_1i, sv_1r, sv_2, sl_i, sl_j, sl_a, sl_v, sp_p, sp_f1, sp_f2, sc_w, sc_c, sc_r, sc_f, sc_a, sc_k, pp_in, pp_al, ↓reduceIte, Nat.reduceEqDiff, Nat.reduceLT, Nat.reduceLeDiff, Nat.reduceAdd, Nat.reduceSub, Nat.reduceMul, List.length_cons, List.length_nil, true_and, and_true, and_self, true_implies, eq_self, not_true_eq_false, not_false_eq_true, false_implies, implies_true, false_and, and_false, Bool.false_eq_true, or_true, true_or, or_false, false_or, Classical.not_not, Nat.le_refl, Nat.lt_irrefl, Bool.true_eq_false, n_lit, n_a, n_c, n_s, n_b, n_m, n_g, n_w, n_n, rk_X5_admit, hC, s2, e]) | ((with_reducible refine pp_go (pc := 124) (seg := sg_X5_admit_124) hh_X5_admit sk_X5_admit_124 ?_); simp (disch := omega) only [sg_X5_admit_124, sw_c, sw_n, sx, sf_4, sv_i, sv_j, sv_r, sv_q1, sv_q0, sv_1i, sv_1r, sv_2, sl_i, sl_j, sl_a, sl_v, sp_p, sp_f1, sp_f2, sc_w, sc_c, sc_r, sc_f, sc_a, sc_k, pp_in, pp_al, ↓reduceIte, Nat.reduceEqDiff, Nat.reduceLT, Nat.reduceLeDiff, Nat.reduceAdd, Nat.reduceSub, Nat.reduceMul, List.length_cons, List.length_nil, true_and, and_true, and_self, true_implies, eq_self, not_true_eq_false, not_false_eq_true, false_implies, implies_true, false_and, and_false, Bool.false_eq_true, or_true, true_or, or_false, false_or, Classical.not_not, Nat.le_refl, Nat.lt_irrefl, Bool.true_eq_false, n_lit, n_a, n_c, n_s, n_b, n_m, n_g, n_w, n_n, rk_X5_admit, hC, s2, e]) | ((with_reducible refine pp_go (pc := 125) (seg := sg_X5_admit_125) hh_X5_admit sk_X5_admit_125 ?_); simp (disch := omega) only [sg_X5_admit_125, sw_c, sw_n, sx, sf_4, sv_i, sv_j, sv_r, sv_q1, sv_q0, sv_1i, sv_1r, sv_2, sl_i, sl_j, sl_a, sl_v, sp_p, sp_f1, sp_f2, sc_w, sc_c, sc_r, sc_f, sc_a, sc_k, pp_in, pp_al, ↓reduceIte, Nat.reduceEqDiff, Nat.reduceLT, Nat.reduceLeDiff, Nat.reduceAdd, Nat.reduceSub, Nat.reduceMul, List.length_cons, List.length_nil, true_and, and_true, and_self, true_implies, eq_self, not_true_eq_false, not_false_eq_true, false_implies, implies_true, false_and, and_false, Bool.false_eq_true, or_true, true_or, or_false, false_or, Classical.not_not, Nat.le_refl, Nat.lt_irrefl, Bool.true_eq_false, n_lit, n_a, n_c, n_s, n_b, n_m, n_g, n_w, n_n, rk_X5_admit, hC, s2, e]) | (refine ⟨fun _ => ?_, fun _ => ?_⟩ <;> try (exfalso; omega)) | fail)
      · rw [if_pos (by rw [bb]; omega)] at hP; exact hP
      · rw [if_neg (by rw [bb]; omega)] at hP; exact hP
theorem c_addVersion {m v u : Nat} (hC : sC sh R) (hm : I 67 0 = Int32.ofNat m) (h4 : m < 4) (hP : P (.inl none) (sh, pp_s (pp_s (pp_s I 68 (va_up (I 68) m (Int32.ofNat v))) 69 (va_up (I 69) m (Int32.ofNat u))) 67 (va_up (I 67) 0 (Int32.ofNat (m + 1))), J, R)) : pp_MW g (h + 1) mi_X6_addVersion [.ref 67, .int (Int32.ofNat v), .int (Int32.ofNat u)] (sh, I, J, R) P := by
  refine pp_st0 [(0, .ref 67), (1, .int (Int32.ofNat v)), (2, .int (Int32.ofNat u))] ok_X6_addVersion rfl (Nat.le_of_ble_eq_true rfl) rfl ?_
  have q : ¬ 4 ≤ m := by omega
  refine pp_go rfl sk_X6_addVersion_0 ?_
  simp (disch := omega) only [sg_X6_addVersion_0, sw_c, sw_n, sx, sf_4, sv_i, sv_j, sv_r, sv_q1, sv_q0, sv_1i, sv_1r, sv_2, sl_i, sl_j, sl_a, sl_v, sp_p, sp_f1, sp_f2, sc_w, sc_c, sc_r, sc_f, sc_a, sc_k, pp_in, pp_al, ↓reduceIte, Nat.reduceEqDiff, Nat.reduceLT, Nat.reduceLeDiff, Nat.reduceAdd, Nat.reduceSub, Nat.reduceMul, List.length_cons, List.length_nil, true_and, and_true, and_self, true_implies, eq_self, not_true_eq_false, not_false_eq_true, false_implies, implies_true, false_and, and_false, Bool.false_eq_true, or_true, true_or, or_false, false_or, Classical.not_not, Nat.le_refl, Nat.lt_irrefl, Bool.true_eq_false, n_lit, n_a, n_c, n_s, n_b, n_m, n_g, n_w, n_n, hC, hm, q]
  refine pp_go rfl sk_X6_addVersion_38 ?_
  simp (disch := omega) only [sg_X6_addVersion_38, sw_c, sw_n, sx, sf_4, sv_i, sv_j, sv_r, sv_q1, sv_q0, sv_1i, sv_1r, sv_2, sl_i, sl_j, sl_a, sl_v, sp_p, sp_f1, sp_f2, sc_w, sc_c, sc_r, sc_f, sc_a, sc_k, pp_in, pp_al, ↓reduceIte, Nat.reduceEqDiff, Nat.reduceLT, Nat.reduceLeDiff, Nat.reduceAdd, Nat.reduceSub, Nat.reduceMul, List.length_cons, List.length_nil, true_and, and_true, and_self, true_implies, eq_self, not_true_eq_false, not_false_eq_true, false_implies, implies_true, false_and, and_false, Bool.false_eq_true, or_true, true_or, or_false, false_or, Classical.not_not, Nat.le_refl, Nat.lt_irrefl, Bool.true_eq_false, n_lit, n_a, n_c, n_s, n_b, n_m, n_g, n_w, n_n]
  exact hP
theorem c_addLicensee {m v : Nat} (hC : sC sh R) (hm : I 67 3 = Int32.ofNat m) (h4 : m < 6) (hP : P (.inl none) (sh, pp_s (pp_s I 70 (va_up (I 70) m (Int32.ofNat v))) 67 (va_up (I 67) 3 (Int32.ofNat (m + 1))), J, R)) : pp_MW g (h + 1) mi_X6_addLicensee [.ref 67, .int (Int32.ofNat v)] (sh, I, J, R) P := by
  refine pp_st0 [(0, .ref 67), (1, .int (Int32.ofNat v))] ok_X6_addLicensee rfl (Nat.le_of_ble_eq_true rfl) rfl ?_
  have q : ¬ 6 ≤ m := by omega
  refine pp_go rfl sk_X6_addLicensee_0 ?_
  simp (disch := omega) only [sg_X6_addLicensee_0, sw_c, sw_n, sx, sf_4, sv_i, sv_j, sv_r, sv_q1, sv_q0, sv_1i, sv_1r, sv_2, sl_i, sl_j, sl_a, sl_v, sp_p, sp_f1, sp_f2, sc_w, sc_c, sc_r, sc_f, sc_a, sc_k, pp_in, pp_al, ↓reduceIte, Nat.reduceEqDiff, Nat.reduceLT, Nat.reduceLeDiff, Nat.reduceAdd, Nat.reduceSub, Nat.reduceMul, List.length_cons, List.length_nil, true_and, and_true, and_self, true_implies, eq_self, not_true_eq_false, not_false_eq_true, false_implies, implies_true, false_and, and_false, Bool.false_eq_true, or_true, true_or, or_false, false_or, Classical.not_not, Nat.le_refl, Nat.lt_irrefl, Bool.true_eq_false, n_lit, n_a, n_c, n_s, n_b, n_m, n_g, n_w, n_n, hC, hm, q]
  refine pp_go rfl sk_X6_addLicensee_29 ?_
  simp (disch := omega) only [sg_X6_addLicensee_29, sw_c, sw_n, sx, sf_4, sv_i, sv_j, sv_r, sv_q1, sv_q0, sv_1i, sv_1r, sv_2, sl_i, sl_j, sl_a, sl_v, sp_p, sp_f1, sp_f2, sc_w, sc_c, sc_r, sc_f, sc_a, sc_k, pp_in, pp_al, ↓reduceIte, Nat.reduceEqDiff, Nat.reduceLT, Nat.reduceLeDiff, Nat.reduceAdd, Nat.reduceSub, Nat.reduceMul, List.length_cons, List.length_nil, true_and, and_true, and_self, true_implies, eq_self, not_true_eq_false, not_false_eq_true, false_implies, implies_true, false_and, and_false, Bool.false_eq_true, or_true, true_or, or_false, false_or, Classical.not_not, Nat.le_refl, Nat.lt_irrefl, Bool.true_eq_false, n_lit, n_a, n_c, n_s, n_b, n_m, n_g, n_w, n_n]
  exact hP
/-- the told numbers from 4 on, replaced -/
theorem cV_r {d : Nat → Nat} (hV : cV I D) (I' : Nat → Nat → Int32) (hf : ∀ a, a ≠ 67 → I' a = I a) (h0 : I' 67 0 = I 67 0) (h3 : I' 67 3 = I 67 3) (hd : d 1 = D.1 1 ∧ d 3 = D.1 3) (hk : ∀ k, 4 ≤ k → k < 14 → I' 67 (k + 1) = Int32.ofNat (d k)) {S : Nat → Bool} : cV I' (d, D.2.1, D.2.2.1, D.2.2.2.1, D.2.2.2.2.1, D.2.2.2.2.2.1, S) := by
  obtain ⟨v0, v3, -, -, -, -, -, -, -, -, -, -, r1, r2, r3, r4, r5⟩ := hV
  refine ⟨h0.trans (v0.trans (by show _ = Int32.ofNat (d 1); rw [hd.1]; rfl)), h3.trans (v3.trans (by show _ = Int32.ofNat (d 3); rw [hd.2]; rfl)), hk 4 (by omega) (by omega), hk 5 (by omega) (by omega), hk 6 (by omega) (by omega), hk 7 (by omega) (by omega), hk 8 (by omega) (by omega), hk 9 (by omega) (by omega), hk 10 (by omega) (by omega), hk 11 (by omega) (by omega), hk 12 (by omega) (by omega), hk 13 (by omega) (by omega), ?_, ?_, ?_, ?_, ?_⟩
  · rw [hf 68 (by omega)]; intro v hv; exact r1 v (by show v < D.1 1; rw [← hd.1]; exact hv)
  · rw [hf 69 (by omega)]; intro v hv; exact r2 v (by show v < D.1 1; rw [← hd.1]; exact hv)
  · rw [hf 70 (by omega)]; intro v hv; exact r3 v (by show v < D.1 3; rw [← hd.2]; exact hv)
  · rw [hf 71 (by omega)]; exact r4
  · rw [hf 72 (by omega)]; exact r5
theorem c_keepRule {i v u : Nat} (hC : sC sh R) (hV : cV I D) (hi : 4 ≤ i ∧ i < 11) (h5 : I 66 5 = Int32.ofNat v) (h6 : tw i = true → I 66 6 = Int32.ofNat u) (hP : ∀ I', (∀ a, a ≠ 67 → I' a = I a) → cV I' (uDr D i v u) → P (.inl none) (sh, I', J, R)) : pp_MW g (h + 1) mi_X5_keepRule [.ref 66, .int (Int32.ofNat i)] (sh, I, J, R) P := by
  refine pp_st0 [(0, .ref 66), (1, .int (Int32.ofNat i))] ok_X5_keepRule rfl (Nat.le_of_ble_eq_true rfl) rfl ?_
  have al : ∀ k, 4 ≤ k → k < 14 → I 67 (k + 1) = Int32.ofNat (D.1 k) := by
    obtain ⟨-, -, e4, e5, e6, e7, e8, e9, e10, e11, e12, e13, -⟩ := hV
    intro k k1 k2
    have : k = 4 ∨ k = 5 ∨ k = 6 ∨ k = 7 ∨ k = 8 ∨ k = 9 ∨ k = 10 ∨ k = 11 ∨ k = 12 ∨ k = 13 := by omega
    rcases this with rfl | rfl | rfl | rfl | rfl | rfl | rfl | rfl | rfl | rfl
    · exact e4
    · exact e5
    · exact e6
    · exact e7
    · exact e8
    · exact e9
    · exact e10
    · exact e11
    · exact e12
    · exact e13
  refine pp_go rfl sk_X5_keepRule_0 ?_
  simp (disch := omega) only [sg_X5_keepRule_0, sw_c, sw_n, sx, sf_4, sv_i, sv_j, sv_r, sv_q1, sv_q0, sv_1i, sv_1r, sv_2, sl_i, sl_j, sl_a, sl_v, sp_p, sp_f1, sp_f2, sc_w, sc_c, sc_r, sc_f, sc_a, sc_k, pp_in, pp_al, ↓reduceIte, Nat.reduceEqDiff, Nat.reduceLT, Nat.reduceLeDiff, Nat.reduceAdd, Nat.reduceSub, Nat.reduceMul, List.length_cons, List.length_nil, true_and, and_true, and_self, true_implies, eq_self, not_true_eq_false, not_false_eq_true, false_implies, implies_true, false_and, and_false, Bool.false_eq_true, or_true, true_or, or_false, false_or, Classical.not_not, Nat.le_refl, Nat.lt_irrefl, Bool.true_eq_false, n_lit, n_a, n_c, n_s, n_b, n_m, n_g, n_w, n_n, sc_s, n_i]
  refine ⟨⟨fun q => ?_, fun q => ?_, fun q => ?_, fun q => ?_, fun q => ?_, fun q => ?_⟩, fun q => ?_⟩
  · have hi : i = 4 := by omega
    subst hi
    have h6 := h6 rfl
    refine pp_go rfl sk_X5_keepRule_40 ?_
    simp (disch := omega) only [sg_X5_keepRule_40, sw_c, sw_n, sx, sf_4, sv_i, sv_j, sv_r, sv_q1, sv_q0, sv_1i, sv_1r, sv_2, sl_i, sl_j, sl_a, sl_v, sp_p, sp_f1, sp_f2, sc_w, sc_c, sc_r, sc_f, sc_a, sc_k, pp_in, pp_al, ↓reduceIte, Nat.reduceEqDiff, Nat.reduceLT, Nat.reduceLeDiff, Nat.reduceAdd, Nat.reduceSub, Nat.reduceMul, List.length_cons, List.length_nil, true_and, and_true, and_self, true_implies, eq_self, not_true_eq_false, not_false_eq_true, false_implies, implies_true, false_and, and_false, Bool.false_eq_true, or_true, true_or, or_false, false_or, Classical.not_not, Nat.le_refl, Nat.lt_irrefl, Bool.true_eq_false, n_lit, n_a, n_c, n_s, n_b, n_m, n_g, n_w, n_n, hC, h5, h6]
    refine pp_go rfl sk_X5_keepRule_168 ?_
    simp (disch := omega) only [sg_X5_keepRule_168, sw_c, sw_n, sx, sf_4, sv_i, sv_j, sv_r, sv_q1, sv_q0, sv_1i, sv_1r, sv_2, sl_i, sl_j, sl_a, sl_v, sp_p, sp_f1, sp_f2, sc_w, sc_c, sc_r, sc_f, sc_a, sc_k, pp_in, pp_al, ↓reduceIte, Nat.reduceEqDiff, Nat.reduceLT, Nat.reduceLeDiff, Nat.reduceAdd, Nat.reduceSub, Nat.reduceMul, List.length_cons, List.length_nil, true_and, and_true, and_self, true_implies, eq_self, not_true_eq_false, not_false_eq_true, false_implies, implies_true, false_and, and_false, Bool.false_eq_true, or_true, true_or, or_false, false_or, Classical.not_not, Nat.le_refl, Nat.lt_irrefl, Bool.true_eq_false, n_lit, n_a, n_c, n_s, n_b, n_m, n_g, n_w, n_n]
    refine hP _ (fun a ha => pp_s_ne _ _ ha) (cV_r (d := va_up (va_up D.1 4 v) 5 u) hV _ (fun a ha => pp_s_ne _ _ ha) ?_ ?_ ⟨rfl, rfl⟩ (fun k k1 k2 => ?_))
    · simp only [n_m, ↓reduceIte, Nat.reduceEqDiff]
    · simp only [n_m, ↓reduceIte, Nat.reduceEqDiff]
    · simp only [n_m, ↓reduceIte]
      by_cases c : k = 5
      · rw [if_pos (by omega), if_pos c]
      · rw [if_neg (by omega), if_neg c]
        by_cases d : k = 4
        · rw [if_pos (by omega), if_pos d]
        · rw [if_neg (by omega), if_neg d]; exact al k k1 k2
  · have hi : i = 5 := by omega
    subst hi
    refine pp_go rfl sk_X5_keepRule_65 ?_
    simp (disch := omega) only [sg_X5_keepRule_65, sw_c, sw_n, sx, sf_4, sv_i, sv_j, sv_r, sv_q1, sv_q0, sv_1i, sv_1r, sv_2, sl_i, sl_j, sl_a, sl_v, sp_p, sp_f1, sp_f2, sc_w, sc_c, sc_r, sc_f, sc_a, sc_k, pp_in, pp_al, ↓reduceIte, Nat.reduceEqDiff, Nat.reduceLT, Nat.reduceLeDiff, Nat.reduceAdd, Nat.reduceSub, Nat.reduceMul, List.length_cons, List.length_nil, true_and, and_true, and_self, true_implies, eq_self, not_true_eq_false, not_false_eq_true, false_implies, implies_true, false_and, and_false, Bool.false_eq_true, or_true, true_or, or_false, false_or, Classical.not_not, Nat.le_refl, Nat.lt_irrefl, Bool.true_eq_false, n_lit, n_a, n_c, n_s, n_b, n_m, n_g, n_w, n_n, hC, h5]
    refine pp_go rfl sk_X5_keepRule_168 ?_
    simp (disch := omega) only [sg_X5_keepRule_168, sw_c, sw_n, sx, sf_4, sv_i, sv_j, sv_r, sv_q1, sv_q0, sv_1i, sv_1r, sv_2, sl_i, sl_j, sl_a, sl_v, sp_p, sp_f1, sp_f2, sc_w, sc_c, sc_r, sc_f, sc_a, sc_k, pp_in, pp_al, ↓reduceIte, Nat.reduceEqDiff, Nat.reduceLT, Nat.reduceLeDiff, Nat.reduceAdd, Nat.reduceSub, Nat.reduceMul, List.length_cons, List.length_nil, true_and, and_true, and_self, true_implies, eq_self, not_true_eq_false, not_false_eq_true, false_implies, implies_true, false_and, and_false, Bool.false_eq_true, or_true, true_or, or_false, false_or, Classical.not_not, Nat.le_refl, Nat.lt_irrefl, Bool.true_eq_false, n_lit, n_a, n_c, n_s, n_b, n_m, n_g, n_w, n_n]
    refine hP _ (fun a ha => pp_s_ne _ _ ha) (cV_r (d := va_up D.1 6 v) hV _ (fun a ha => pp_s_ne _ _ ha) ?_ ?_ ⟨rfl, rfl⟩ (fun k k1 k2 => ?_))
    · simp only [n_m, ↓reduceIte, Nat.reduceEqDiff]
    · simp only [n_m, ↓reduceIte, Nat.reduceEqDiff]
    · simp only [n_m, ↓reduceIte]
      by_cases d : k = 6
      · rw [if_pos (by omega), if_pos d]
      · rw [if_neg (by omega), if_neg d]; exact al k k1 k2
  · have hi : i = 6 := by omega
    subst hi
    refine pp_go rfl sk_X5_keepRule_79 ?_
    simp (disch := omega) only [sg_X5_keepRule_79, sw_c, sw_n, sx, sf_4, sv_i, sv_j, sv_r, sv_q1, sv_q0, sv_1i, sv_1r, sv_2, sl_i, sl_j, sl_a, sl_v, sp_p, sp_f1, sp_f2, sc_w, sc_c, sc_r, sc_f, sc_a, sc_k, pp_in, pp_al, ↓reduceIte, Nat.reduceEqDiff, Nat.reduceLT, Nat.reduceLeDiff, Nat.reduceAdd, Nat.reduceSub, Nat.reduceMul, List.length_cons, List.length_nil, true_and, and_true, and_self, true_implies, eq_self, not_true_eq_false, not_false_eq_true, false_implies, implies_true, false_and, and_false, Bool.false_eq_true, or_true, true_or, or_false, false_or, Classical.not_not, Nat.le_refl, Nat.lt_irrefl, Bool.true_eq_false, n_lit, n_a, n_c, n_s, n_b, n_m, n_g, n_w, n_n, hC, h5]
    refine pp_go rfl sk_X5_keepRule_168 ?_
    simp (disch := omega) only [sg_X5_keepRule_168, sw_c, sw_n, sx, sf_4, sv_i, sv_j, sv_r, sv_q1, sv_q0, sv_1i, sv_1r, sv_2, sl_i, sl_j, sl_a, sl_v, sp_p, sp_f1, sp_f2, sc_w, sc_c, sc_r, sc_f, sc_a, sc_k, pp_in, pp_al, ↓reduceIte, Nat.reduceEqDiff, Nat.reduceLT, Nat.reduceLeDiff, Nat.reduceAdd, Nat.reduceSub, Nat.reduceMul, List.length_cons, List.length_nil, true_and, and_true, and_self, true_implies, eq_self, not_true_eq_false, not_false_eq_true, false_implies, implies_true, false_and, and_false, Bool.false_eq_true, or_true, true_or, or_false, false_or, Classical.not_not, Nat.le_refl, Nat.lt_irrefl, Bool.true_eq_false, n_lit, n_a, n_c, n_s, n_b, n_m, n_g, n_w, n_n]
    refine hP _ (fun a ha => pp_s_ne _ _ ha) (cV_r (d := va_up D.1 7 v) hV _ (fun a ha => pp_s_ne _ _ ha) ?_ ?_ ⟨rfl, rfl⟩ (fun k k1 k2 => ?_))
    · simp only [n_m, ↓reduceIte, Nat.reduceEqDiff]
    · simp only [n_m, ↓reduceIte, Nat.reduceEqDiff]
    · simp only [n_m, ↓reduceIte]
      by_cases d : k = 7
      · rw [if_pos (by omega), if_pos d]
      · rw [if_neg (by omega), if_neg d]; exact al k k1 k2
  · have hi : i = 7 := by omega
    subst hi
    refine pp_go rfl sk_X5_keepRule_93 ?_
    simp (disch := omega) only [sg_X5_keepRule_93, sw_c, sw_n, sx, sf_4, sv_i, sv_j, sv_r, sv_q1, sv_q0, sv_1i, sv_1r, sv_2, sl_i, sl_j, sl_a, sl_v, sp_p, sp_f1, sp_f2, sc_w, sc_c, sc_r, sc_f, sc_a, sc_k, pp_in, pp_al, ↓reduceIte, Nat.reduceEqDiff, Nat.reduceLT, Nat.reduceLeDiff, Nat.reduceAdd, Nat.reduceSub, Nat.reduceMul, List.length_cons, List.length_nil, true_and, and_true, and_self, true_implies, eq_self, not_true_eq_false, not_false_eq_true, false_implies, implies_true, false_and, and_false, Bool.false_eq_true, or_true, true_or, or_false, false_or, Classical.not_not, Nat.le_refl, Nat.lt_irrefl, Bool.true_eq_false, n_lit, n_a, n_c, n_s, n_b, n_m, n_g, n_w, n_n, hC, h5]
    refine pp_go rfl sk_X5_keepRule_168 ?_
    simp (disch := omega) only [sg_X5_keepRule_168, sw_c, sw_n, sx, sf_4, sv_i, sv_j, sv_r, sv_q1, sv_q0, sv_1i, sv_1r, sv_2, sl_i, sl_j, sl_a, sl_v, sp_p, sp_f1, sp_f2, sc_w, sc_c, sc_r, sc_f, sc_a, sc_k, pp_in, pp_al, ↓reduceIte, Nat.reduceEqDiff, Nat.reduceLT, Nat.reduceLeDiff, Nat.reduceAdd, Nat.reduceSub, Nat.reduceMul, List.length_cons, List.length_nil, true_and, and_true, and_self, true_implies, eq_self, not_true_eq_false, not_false_eq_true, false_implies, implies_true, false_and, and_false, Bool.false_eq_true, or_true, true_or, or_false, false_or, Classical.not_not, Nat.le_refl, Nat.lt_irrefl, Bool.true_eq_false, n_lit, n_a, n_c, n_s, n_b, n_m, n_g, n_w, n_n]
    refine hP _ (fun a ha => pp_s_ne _ _ ha) (cV_r (d := va_up D.1 8 v) hV _ (fun a ha => pp_s_ne _ _ ha) ?_ ?_ ⟨rfl, rfl⟩ (fun k k1 k2 => ?_))
    · simp only [n_m, ↓reduceIte, Nat.reduceEqDiff]
    · simp only [n_m, ↓reduceIte, Nat.reduceEqDiff]
    · simp only [n_m, ↓reduceIte]
      by_cases d : k = 8
      · rw [if_pos (by omega), if_pos d]
      · rw [if_neg (by omega), if_neg d]; exact al k k1 k2
  · have hi : i = 8 := by omega
    subst hi
    have h6 := h6 rfl
    refine pp_go rfl sk_X5_keepRule_107 ?_
    simp (disch := omega) only [sg_X5_keepRule_107, sw_c, sw_n, sx, sf_4, sv_i, sv_j, sv_r, sv_q1, sv_q0, sv_1i, sv_1r, sv_2, sl_i, sl_j, sl_a, sl_v, sp_p, sp_f1, sp_f2, sc_w, sc_c, sc_r, sc_f, sc_a, sc_k, pp_in, pp_al, ↓reduceIte, Nat.reduceEqDiff, Nat.reduceLT, Nat.reduceLeDiff, Nat.reduceAdd, Nat.reduceSub, Nat.reduceMul, List.length_cons, List.length_nil, true_and, and_true, and_self, true_implies, eq_self, not_true_eq_false, not_false_eq_true, false_implies, implies_true, false_and, and_false, Bool.false_eq_true, or_true, true_or, or_false, false_or, Classical.not_not, Nat.le_refl, Nat.lt_irrefl, Bool.true_eq_false, n_lit, n_a, n_c, n_s, n_b, n_m, n_g, n_w, n_n, hC, h5, h6]
    refine pp_go rfl sk_X5_keepRule_168 ?_
    simp (disch := omega) only [sg_X5_keepRule_168, sw_c, sw_n, sx, sf_4, sv_i, sv_j, sv_r, sv_q1, sv_q0, sv_1i, sv_1r, sv_2, sl_i, sl_j, sl_a, sl_v, sp_p, sp_f1, sp_f2, sc_w, sc_c, sc_r, sc_f, sc_a, sc_k, pp_in, pp_al, ↓reduceIte, Nat.reduceEqDiff, Nat.reduceLT, Nat.reduceLeDiff, Nat.reduceAdd, Nat.reduceSub, Nat.reduceMul, List.length_cons, List.length_nil, true_and, and_true, and_self, true_implies, eq_self, not_true_eq_false, not_false_eq_true, false_implies, implies_true, false_and, and_false, Bool.false_eq_true, or_true, true_or, or_false, false_or, Classical.not_not, Nat.le_refl, Nat.lt_irrefl, Bool.true_eq_false, n_lit, n_a, n_c, n_s, n_b, n_m, n_g, n_w, n_n]
    refine hP _ (fun a ha => pp_s_ne _ _ ha) (cV_r (d := va_up (va_up D.1 9 v) 10 u) hV _ (fun a ha => pp_s_ne _ _ ha) ?_ ?_ ⟨rfl, rfl⟩ (fun k k1 k2 => ?_))
    · simp only [n_m, ↓reduceIte, Nat.reduceEqDiff]
    · simp only [n_m, ↓reduceIte, Nat.reduceEqDiff]
    · simp only [n_m, ↓reduceIte]
      by_cases c : k = 10
      · rw [if_pos (by omega), if_pos c]
      · rw [if_neg (by omega), if_neg c]
        by_cases d : k = 9
        · rw [if_pos (by omega), if_pos d]
        · rw [if_neg (by omega), if_neg d]; exact al k k1 k2
  · have hi : i = 9 := by omega
    subst hi
    have h6 := h6 rfl
    refine pp_go rfl sk_X5_keepRule_132 ?_
    simp (disch := omega) only [sg_X5_keepRule_132, sw_c, sw_n, sx, sf_4, sv_i, sv_j, sv_r, sv_q1, sv_q0, sv_1i, sv_1r, sv_2, sl_i, sl_j, sl_a, sl_v, sp_p, sp_f1, sp_f2, sc_w, sc_c, sc_r, sc_f, sc_a, sc_k, pp_in, pp_al, ↓reduceIte, Nat.reduceEqDiff, Nat.reduceLT, Nat.reduceLeDiff, Nat.reduceAdd, Nat.reduceSub, Nat.reduceMul, List.length_cons, List.length_nil, true_and, and_true, and_self, true_implies, eq_self, not_true_eq_false, not_false_eq_true, false_implies, implies_true, false_and, and_false, Bool.false_eq_true, or_true, true_or, or_false, false_or, Classical.not_not, Nat.le_refl, Nat.lt_irrefl, Bool.true_eq_false, n_lit, n_a, n_c, n_s, n_b, n_m, n_g, n_w, n_n, hC, h5, h6]
    refine pp_go rfl sk_X5_keepRule_168 ?_
    simp (disch := omega) only [sg_X5_keepRule_168, sw_c, sw_n, sx, sf_4, sv_i, sv_j, sv_r, sv_q1, sv_q0, sv_1i, sv_1r, sv_2, sl_i, sl_j, sl_a, sl_v, sp_p, sp_f1, sp_f2, sc_w, sc_c, sc_r, sc_f, sc_a, sc_k, pp_in, pp_al, ↓reduceIte, Nat.reduceEqDiff, Nat.reduceLT, Nat.reduceLeDiff, Nat.reduceAdd, Nat.reduceSub, Nat.reduceMul, List.length_cons, List.length_nil, true_and, and_true, and_self, true_implies, eq_self, not_true_eq_false, not_false_eq_true, false_implies, implies_true, false_and, and_false, Bool.false_eq_true, or_true, true_or, or_false, false_or, Classical.not_not, Nat.le_refl, Nat.lt_irrefl, Bool.true_eq_false, n_lit, n_a, n_c, n_s, n_b, n_m, n_g, n_w, n_n]
    refine hP _ (fun a ha => pp_s_ne _ _ ha) (cV_r (d := va_up (va_up D.1 11 v) 12 u) hV _ (fun a ha => pp_s_ne _ _ ha) ?_ ?_ ⟨rfl, rfl⟩ (fun k k1 k2 => ?_))
    · simp only [n_m, ↓reduceIte, Nat.reduceEqDiff]
    · simp only [n_m, ↓reduceIte, Nat.reduceEqDiff]
    · simp only [n_m, ↓reduceIte]
      by_cases c : k = 12
      · rw [if_pos (by omega), if_pos c]
      · rw [if_neg (by omega), if_neg c]
        by_cases d : k = 11
        · rw [if_pos (by omega), if_pos d]
        · rw [if_neg (by omega), if_neg d]; exact al k k1 k2
  · have hi : i = 10 := by omega
    subst hi
    refine pp_go rfl sk_X5_keepRule_157 ?_
    simp (disch := omega) only [sg_X5_keepRule_157, sw_c, sw_n, sx, sf_4, sv_i, sv_j, sv_r, sv_q1, sv_q0, sv_1i, sv_1r, sv_2, sl_i, sl_j, sl_a, sl_v, sp_p, sp_f1, sp_f2, sc_w, sc_c, sc_r, sc_f, sc_a, sc_k, pp_in, pp_al, ↓reduceIte, Nat.reduceEqDiff, Nat.reduceLT, Nat.reduceLeDiff, Nat.reduceAdd, Nat.reduceSub, Nat.reduceMul, List.length_cons, List.length_nil, true_and, and_true, and_self, true_implies, eq_self, not_true_eq_false, not_false_eq_true, false_implies, implies_true, false_and, and_false, Bool.false_eq_true, or_true, true_or, or_false, false_or, Classical.not_not, Nat.le_refl, Nat.lt_irrefl, Bool.true_eq_false, n_lit, n_a, n_c, n_s, n_b, n_m, n_g, n_w, n_n, hC, h5]
    refine pp_go rfl sk_X5_keepRule_168 ?_
    simp (disch := omega) only [sg_X5_keepRule_168, sw_c, sw_n, sx, sf_4, sv_i, sv_j, sv_r, sv_q1, sv_q0, sv_1i, sv_1r, sv_2, sl_i, sl_j, sl_a, sl_v, sp_p, sp_f1, sp_f2, sc_w, sc_c, sc_r, sc_f, sc_a, sc_k, pp_in, pp_al, ↓reduceIte, Nat.reduceEqDiff, Nat.reduceLT, Nat.reduceLeDiff, Nat.reduceAdd, Nat.reduceSub, Nat.reduceMul, List.length_cons, List.length_nil, true_and, and_true, and_self, true_implies, eq_self, not_true_eq_false, not_false_eq_true, false_implies, implies_true, false_and, and_false, Bool.false_eq_true, or_true, true_or, or_false, false_or, Classical.not_not, Nat.le_refl, Nat.lt_irrefl, Bool.true_eq_false, n_lit, n_a, n_c, n_s, n_b, n_m, n_g, n_w, n_n]
    refine hP _ (fun a ha => pp_s_ne _ _ ha) (cV_r (d := va_up D.1 13 v) hV _ (fun a ha => pp_s_ne _ _ ha) ?_ ?_ ⟨rfl, rfl⟩ (fun k k1 k2 => ?_))
    · simp only [n_m, ↓reduceIte, Nat.reduceEqDiff]
    · simp only [n_m, ↓reduceIte, Nat.reduceEqDiff]
    · simp only [n_m, ↓reduceIte]
      by_cases d : k = 13
      · rw [if_pos (by omega), if_pos d]
      · rw [if_neg (by omega), if_neg d]; exact al k k1 k2
end
