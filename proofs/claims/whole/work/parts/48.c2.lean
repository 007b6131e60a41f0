/-! THE CLASS, 2: weights, what is only read -/
set_option maxHeartbeats 1000000
set_option maxRecDepth 100000
theorem n_sub (a b : Nat) : Int32.ofNat a - Int32.ofNat b = Int32.ofInt ((a : Int) - b) := by rw [Int32.ofInt_sub, Int32.ofInt_eq_ofNat, Int32.ofInt_eq_ofNat]
theorem encC_op {c : Nat} (h : c < 100) : encC c = Int32.ofInt (-(c : Int)) := if_pos h
theorem encC_no {c : Nat} (h : ¬ c < 100) : encC c = Int32.ofNat (c - 100) := if_neg h
theorem clV (v : Int32) : (if Int32.ofNat 0 < (if Int32.ofNat 1000000 < v then Int32.ofNat 1000000 else v) then (if Int32.ofNat 1000000 < v then Int32.ofNat 1000000 else v) else Int32.ofNat 0) = Int32.ofNat (clamp v) := by
  unfold clamp
  have e : (1000000 : Int32) = Int32.ofNat 1000000 := rfl
  have e0 : (0 : Int32) = Int32.ofNat 0 := rfl
  by_cases x0 : v < 0
  · rw [if_pos x0, if_neg (show ¬ Int32.ofNat 1000000 < v from fun z => ?_), if_neg (show ¬ Int32.ofNat 0 < v from fun z => ?_)]
    · exact Int32.lt_asymm x0 z
    · rw [Int32.lt_iff_toInt_lt] at z x0
      have a : (Int32.ofNat 1000000).toInt = 1000000 := rfl
      have b : (0 : Int32).toInt = 0 := rfl
      omega
  · rw [if_neg x0]
    by_cases x1 : 1000000 < v
    · rw [if_pos x1, if_pos (show Int32.ofNat 1000000 < v from x1), if_pos (by decide)]
    · rw [if_neg x1, if_neg (show ¬ Int32.ofNat 1000000 < v from x1), Int32.ofNat_toNatClampNeg v (Int32.not_lt.mp x0)]
      by_cases x2 : Int32.ofNat 0 < v
      · rw [if_pos x2]
      · rw [if_neg x2]
        exact Int32.le_antisymm (Int32.not_lt.mp x0) (Int32.not_lt.mp x2)
section
variable {g : pp_G} {h : Nat} {sh : List (Nat × Nat)} {I : Nat → Nat → Int32} {J : Nat → Nat → Int64} {R : Nat → Nat → Option Nat} {w : pp_W} {P : pp_R → pp_W → Prop} {G : LG} {T : TM} {n : Nat} {A : AS}
theorem c_voters {p v y : Int32} (hC : sC sh R) (hG : cG I J G) (hT : cT I T) (wG : wfL n G) (wT : wfT T) (hE : (o_voters T G p v y).1 = 1 → xB sh I J R P eB) (hP : (o_voters T G p v y).1 = 0 → P (.inl (some (.int (o_voters T G p v y).2))) (sh, I, J, R)) : pp_MW g (h + 3) mi_X8_voters [.ref 64, .int p, .int v, .int y] (sh, I, J, R) P := by
  refine pp_st0 [(0, .ref 64), (1, .int p), (2, .int v), (3, .int y)] ok_X8_voters rfl (Nat.le_of_ble_eq_true rfl) rfl ?_
  refine pp_go rfl sk_X8_voters_0 ?_
  simp (disch := omega) only [sg_X8_voters_0, sw_c, sw_n, sx, sf_4, sv_i, sv_j, sv_r, sv_q1, sv_q0, sv_1i, sv_1r, sv_2, sl_i, sl_j, sl_a, sl_v, sp_p, sp_f1, sp_f2, sc_w, sc_c, sc_r, sc_f, sc_a, sc_k, pp_in, pp_al, ↓reduceIte, Nat.reduceEqDiff, Nat.reduceLT, Nat.reduceLeDiff, Nat.reduceAdd, Nat.reduceSub, Nat.reduceMul, List.length_cons, List.length_nil, true_and, and_true, and_self, true_implies, eq_self, not_true_eq_false, not_false_eq_true, false_implies, implies_true, false_and, and_false, Bool.false_eq_true, or_true, true_or, or_false, false_or, Classical.not_not, Nat.le_refl, Nat.lt_irrefl, Bool.true_eq_false, n_lit, n_a, n_c, n_s, n_b, n_m, n_g, n_w, n_n, rk_X8_voters, hC]
  rcases idx_cases p (G.1 8) (by omega) with ⟨k, k1, rfl, e1⟩ | ⟨ho, e1⟩
  · refine c_ckP0 hC hG wG k1 ?_
    simp (disch := omega) only [sw_c, sw_n, sx, sf_4, sv_i, sv_j, sv_r, sv_q1, sv_q0, sv_1i, sv_1r, sv_2, sl_i, sl_j, sl_a, sl_v, sp_p, sp_f1, sp_f2, sc_w, sc_c, sc_r, sc_f, sc_a, sc_k, pp_in, pp_al, ↓reduceIte, Nat.reduceEqDiff, Nat.reduceLT, Nat.reduceLeDiff, Nat.reduceAdd, Nat.reduceSub, Nat.reduceMul, List.length_cons, List.length_nil, true_and, and_true, and_self, true_implies, eq_self, not_true_eq_false, not_false_eq_true, false_implies, implies_true, false_and, and_false, Bool.false_eq_true, or_true, true_or, or_false, false_or, Classical.not_not, Nat.le_refl, Nat.lt_irrefl, Bool.true_eq_false, n_lit, n_a, n_c, n_s, n_b, n_m, n_g, n_w, n_n, rk_X8_voters, hC]
    rcases idx_cases v (T.1 1) (by omega) with ⟨j, j1, rfl, e2⟩ | ⟨ho, e2⟩
    · simp only [o_voters, wP, e1, e2] at hP
      refine c_ckV0 hC hT wT j1 ?_
      simp (disch := omega) only [sw_c, sw_n, sx, sf_4, sv_i, sv_j, sv_r, sv_q1, sv_q0, sv_1i, sv_1r, sv_2, sl_i, sl_j, sl_a, sl_v, sp_p, sp_f1, sp_f2, sc_w, sc_c, sc_r, sc_f, sc_a, sc_k, pp_in, pp_al, ↓reduceIte, Nat.reduceEqDiff, Nat.reduceLT, Nat.reduceLeDiff, Nat.reduceAdd, Nat.reduceSub, Nat.reduceMul, List.length_cons, List.length_nil, true_and, and_true, and_self, true_implies, eq_self, not_true_eq_false, not_false_eq_true, false_implies, implies_true, false_and, and_false, Bool.false_eq_true, or_true, true_or, or_false, false_or, Classical.not_not, Nat.le_refl, Nat.lt_irrefl, Bool.true_eq_false, n_lit, n_a, n_c, n_s, n_b, n_m, n_g, n_w, n_n, rk_X8_voters, hC]
      refine c_pairOf ?_
      simp (disch := omega) only [sw_c, sw_n, sx, sf_4, sv_i, sv_j, sv_r, sv_q1, sv_q0, sv_1i, sv_1r, sv_2, sl_i, sl_j, sl_a, sl_v, sp_p, sp_f1, sp_f2, sc_w, sc_c, sc_r, sc_f, sc_a, sc_k, pp_in, pp_al, ↓reduceIte, Nat.reduceEqDiff, Nat.reduceLT, Nat.reduceLeDiff, Nat.reduceAdd, Nat.reduceSub, Nat.reduceMul, List.length_cons, List.length_nil, true_and, and_true, and_self, true_implies, eq_self, not_true_eq_false, not_false_eq_true, false_implies, implies_true, false_and, and_false, Bool.false_eq_true, or_true, true_or, or_false, false_or, Classical.not_not, Nat.le_refl, Nat.lt_irrefl, Bool.true_eq_false, n_lit, n_a, n_c, n_s, n_b, n_m, n_g, n_w, n_n, rk_X8_voters, hC, hG]
      refine ⟨fun q => ?_, fun q => ?_⟩
      · rw [if_pos (show y = 0 from q)] at hP
        repeat' (first | ((with_reducible refine pp_go (pc := 34) (seg := sg_X8_voters_34) hh_X8_voters sk_X8_voters_34 ?_); simp (disch := omega) only [sg_X8_voters_34, sw_c, sw_n, sx, sf_4, sv_i, sv_j, sv_r, sv_q1, sv_q0, sv_1i, sv_1r, sv_2, sl_i, sl_j, sl_a, sl_v, sp_p, sp_f1, sp_f2, sc_w, sc_c, sc_r, sc_f, sc_a, sc_k, pp_in, pp_al, ↓reduceIte, Nat.reduceEqDiff, Nat.reduceLT, Nat.reduceLeDiff, Nat.reduceAdd, Nat.reduceSub, Nat.reduceMul, List.length_cons, List.length_nil, true_and, and_true, and_self, true_implies, eq_self, not_true_eq_false, not_false_eq_true, false_implies, implies_true, false_and, and_false, Bool.false_eq_true, or_true, true_or, or_false, false_or, Classical.not_not, Nat.le_refl, Nat.lt_irrefl, Bool.true_eq_false, n_lit, n_a, n_c, n_s, n_b, n_m, n_g, n_w, n_n, rk_X8_voters, hC, hG]) | ((with_reducible refine pp_go (pc := 44) (seg := sg_X8_voters_44) hh_X8_voters sk_X8_voters_44 ?_); simp (disch := omega) only [sg_X8_voters_44, sw_c, sw_n, sx, sf_4, sv_i, sv_j, sv_r, sv_q1, sv_q0, sv_1i, sv_1r, sv_2, sl_i, sl_j, sl_a, sl_v, sp_p, sp_f1, sp_f2, sc_w, sc_c, sc_r, sc_f, sc_a, sc_k, pp_in, pp_al, ↓reduceIte, Nat.reduceEqDiff, Nat.reduceLT, Nat.reduceLeDiff, Nat.reduceAdd, Nat.reduceSub, Nat.reduceMul, List.length_cons, List.length_nil, true_and, and_true, and_self, true_implies, eq_self, not_true_eq_false, not_false_eq_true, false_implies, implies_true, false_and, and_false, Bool.false_eq_true, or_true, true_or, or_false, false_or, Classical.not_not, Nat.le_refl, Nat.lt_irrefl, Bool.true_eq_false, n_lit, n_a, n_c, n_s, n_b, n_m, n_g, n_w, n_n, rk_X8_voters, hC, hG]) | (refine ⟨fun _ => ?_, fun _ => ?_⟩ <;> try (exfalso; omega)) | fail)
        exact hP trivial
      · rw [if_neg (show ¬ y = 0 from q)] at hP
        repeat' (first | ((with_reducible refine pp_go (pc := 44) (seg := sg_X8_voters_44) hh_X8_voters sk_X8_voters_44 ?_); simp (disch := omega) only [sg_X8_voters_44, sw_c, sw_n, sx, sf_4, sv_i, sv_j, sv_r, sv_q1, sv_q0, sv_1i, sv_1r, sv_2, sl_i, sl_j, sl_a, sl_v, sp_p, sp_f1, sp_f2, sc_w, sc_c, sc_r, sc_f, sc_a, sc_k, pp_in, pp_al, ↓reduceIte, Nat.reduceEqDiff, Nat.reduceLT, Nat.reduceLeDiff, Nat.reduceAdd, Nat.reduceSub, Nat.reduceMul, List.length_cons, List.length_nil, true_and, and_true, and_self, true_implies, eq_self, not_true_eq_false, not_false_eq_true, false_implies, implies_true, false_and, and_false, Bool.false_eq_true, or_true, true_or, or_false, false_or, Classical.not_not, Nat.le_refl, Nat.lt_irrefl, Bool.true_eq_false, n_lit, n_a, n_c, n_s, n_b, n_m, n_g, n_w, n_n, rk_X8_voters, hC, hG]) | (refine ⟨fun _ => ?_, fun _ => ?_⟩ <;> try (exfalso; omega)) | fail)
        exact hP trivial
    · simp only [o_voters, wP, e1, e2] at hE
      exact c_ckV1 hC hT wT ho (hE trivial)
  · simp only [o_voters, wP, e1] at hE
    exact c_ckP1 hC hG wG ho (hE trivial)
theorem c_votesNeeded {p v : Int32} (hC : sC sh R) (hG : cG I J G) (hT : cT I T) (wG : wfL n G) (wT : wfT T) (hE : (o_votesNeeded T G p v).1 = 1 → xB sh I J R P eB) (hP : (o_votesNeeded T G p v).1 = 0 → P (.inl (some (.int (o_votesNeeded T G p v).2))) (sh, I, J, R)) : pp_MW g (h + 3) mi_X8_votesNeeded [.ref 64, .int p, .int v] (sh, I, J, R) P := by
  refine pp_st0 [(0, .ref 64), (1, .int p), (2, .int v)] ok_X8_votesNeeded rfl (Nat.le_of_ble_eq_true rfl) rfl ?_
  refine pp_go rfl sk_X8_votesNeeded_0 ?_
  simp (disch := omega) only [sg_X8_votesNeeded_0, sw_c, sw_n, sx, sf_4, sv_i, sv_j, sv_r, sv_q1, sv_q0, sv_1i, sv_1r, sv_2, sl_i, sl_j, sl_a, sl_v, sp_p, sp_f1, sp_f2, sc_w, sc_c, sc_r, sc_f, sc_a, sc_k, pp_in, pp_al, ↓reduceIte, Nat.reduceEqDiff, Nat.reduceLT, Nat.reduceLeDiff, Nat.reduceAdd, Nat.reduceSub, Nat.reduceMul, List.length_cons, List.length_nil, true_and, and_true, and_self, true_implies, eq_self, not_true_eq_false, not_false_eq_true, false_implies, implies_true, false_and, and_false, Bool.false_eq_true, or_true, true_or, or_false, false_or, Classical.not_not, Nat.le_refl, Nat.lt_irrefl, Bool.true_eq_false, n_lit, n_a, n_c, n_s, n_b, n_m, n_g, n_w, n_n, rk_X8_votesNeeded, hC]
  rcases idx_cases p (G.1 8) (by omega) with ⟨k, k1, rfl, e1⟩ | ⟨ho, e1⟩
  · refine c_ckP0 hC hG wG k1 ?_
    simp (disch := omega) only [sw_c, sw_n, sx, sf_4, sv_i, sv_j, sv_r, sv_q1, sv_q0, sv_1i, sv_1r, sv_2, sl_i, sl_j, sl_a, sl_v, sp_p, sp_f1, sp_f2, sc_w, sc_c, sc_r, sc_f, sc_a, sc_k, pp_in, pp_al, ↓reduceIte, Nat.reduceEqDiff, Nat.reduceLT, Nat.reduceLeDiff, Nat.reduceAdd, Nat.reduceSub, Nat.reduceMul, List.length_cons, List.length_nil, true_and, and_true, and_self, true_implies, eq_self, not_true_eq_false, not_false_eq_true, false_implies, implies_true, false_and, and_false, Bool.false_eq_true, or_true, true_or, or_false, false_or, Classical.not_not, Nat.le_refl, Nat.lt_irrefl, Bool.true_eq_false, n_lit, n_a, n_c, n_s, n_b, n_m, n_g, n_w, n_n, rk_X8_votesNeeded, hC]
    rcases idx_cases v (T.1 1) (by omega) with ⟨j, j1, rfl, e2⟩ | ⟨ho, e2⟩
    · simp only [o_votesNeeded, wP, e1, e2] at hP
      refine c_ckV0 hC hT wT j1 ?_
      simp (disch := omega) only [sw_c, sw_n, sx, sf_4, sv_i, sv_j, sv_r, sv_q1, sv_q0, sv_1i, sv_1r, sv_2, sl_i, sl_j, sl_a, sl_v, sp_p, sp_f1, sp_f2, sc_w, sc_c, sc_r, sc_f, sc_a, sc_k, pp_in, pp_al, ↓reduceIte, Nat.reduceEqDiff, Nat.reduceLT, Nat.reduceLeDiff, Nat.reduceAdd, Nat.reduceSub, Nat.reduceMul, List.length_cons, List.length_nil, true_and, and_true, and_self, true_implies, eq_self, not_true_eq_false, not_false_eq_true, false_implies, implies_true, false_and, and_false, Bool.false_eq_true, or_true, true_or, or_false, false_or, Classical.not_not, Nat.le_refl, Nat.lt_irrefl, Bool.true_eq_false, n_lit, n_a, n_c, n_s, n_b, n_m, n_g, n_w, n_n, rk_X8_votesNeeded, hC]
      refine c_missingVotes hC hG hT wG wT (by omega) (by omega) ?_
      simp (disch := omega) only [sw_c, sw_n, sx, sf_4, sv_i, sv_j, sv_r, sv_q1, sv_q0, sv_1i, sv_1r, sv_2, sl_i, sl_j, sl_a, sl_v, sp_p, sp_f1, sp_f2, sc_w, sc_c, sc_r, sc_f, sc_a, sc_k, pp_in, pp_al, ↓reduceIte, Nat.reduceEqDiff, Nat.reduceLT, Nat.reduceLeDiff, Nat.reduceAdd, Nat.reduceSub, Nat.reduceMul, List.length_cons, List.length_nil, true_and, and_true, and_self, true_implies, eq_self, not_true_eq_false, not_false_eq_true, false_implies, implies_true, false_and, and_false, Bool.false_eq_true, or_true, true_or, or_false, false_or, Classical.not_not, Nat.le_refl, Nat.lt_irrefl, Bool.true_eq_false, n_lit, n_a, n_c, n_s, n_b, n_m, n_g, n_w, n_n, rk_X8_votesNeeded]
      exact hP trivial
    · simp only [o_votesNeeded, wP, e1, e2] at hE
      exact c_ckV1 hC hT wT ho (hE trivial)
  · simp only [o_votesNeeded, wP, e1] at hE
    exact c_ckP1 hC hG wG ho (hE trivial)
theorem c_counts {p v : Int32} (hC : sC sh R) (hG : cG I J G) (hT : cT I T) (wG : wfL n G) (wT : wfT T) (hE : (o_counts T G p v).1 = 1 → xB sh I J R P eB) (hP : (o_counts T G p v).1 = 0 → P (.inl (some (.int (o_counts T G p v).2))) (sh, I, J, R)) : pp_MW g (h + 4) mi_X8_counts [.ref 64, .int p, .int v] (sh, I, J, R) P := by
  refine pp_st0 [(0, .ref 64), (1, .int p), (2, .int v)] ok_X8_counts rfl (Nat.le_of_ble_eq_true rfl) rfl ?_
  refine pp_go rfl sk_X8_counts_0 ?_
  simp (disch := omega) only [sg_X8_counts_0, sw_c, sw_n, sx, sf_4, sv_i, sv_j, sv_r, sv_q1, sv_q0, sv_1i, sv_1r, sv_2, sl_i, sl_j, sl_a, sl_v, sp_p, sp_f1, sp_f2, sc_w, sc_c, sc_r, sc_f, sc_a, sc_k, pp_in, pp_al, ↓reduceIte, Nat.reduceEqDiff, Nat.reduceLT, Nat.reduceLeDiff, Nat.reduceAdd, Nat.reduceSub, Nat.reduceMul, List.length_cons, List.length_nil, true_and, and_true, and_self, true_implies, eq_self, not_true_eq_false, not_false_eq_true, false_implies, implies_true, false_and, and_false, Bool.false_eq_true, or_true, true_or, or_false, false_or, Classical.not_not, Nat.le_refl, Nat.lt_irrefl, Bool.true_eq_false, n_lit, n_a, n_c, n_s, n_b, n_m, n_g, n_w, n_n, rk_X8_counts, hC]
  rcases idx_cases p (G.1 8) (by omega) with ⟨k, k1, rfl, e1⟩ | ⟨ho, e1⟩
  · refine c_ckP0 hC hG wG k1 ?_
    simp (disch := omega) only [sw_c, sw_n, sx, sf_4, sv_i, sv_j, sv_r, sv_q1, sv_q0, sv_1i, sv_1r, sv_2, sl_i, sl_j, sl_a, sl_v, sp_p, sp_f1, sp_f2, sc_w, sc_c, sc_r, sc_f, sc_a, sc_k, pp_in, pp_al, ↓reduceIte, Nat.reduceEqDiff, Nat.reduceLT, Nat.reduceLeDiff, Nat.reduceAdd, Nat.reduceSub, Nat.reduceMul, List.length_cons, List.length_nil, true_and, and_true, and_self, true_implies, eq_self, not_true_eq_false, not_false_eq_true, false_implies, implies_true, false_and, and_false, Bool.false_eq_true, or_true, true_or, or_false, false_or, Classical.not_not, Nat.le_refl, Nat.lt_irrefl, Bool.true_eq_false, n_lit, n_a, n_c, n_s, n_b, n_m, n_g, n_w, n_n, rk_X8_counts, hC]
    rcases idx_cases v (T.1 1) (by omega) with ⟨j, j1, rfl, e2⟩ | ⟨ho, e2⟩
    · simp only [o_counts, wP, e1, e2] at hP
      refine c_ckV0 hC hT wT j1 ?_
      simp (disch := omega) only [sw_c, sw_n, sx, sf_4, sv_i, sv_j, sv_r, sv_q1, sv_q0, sv_1i, sv_1r, sv_2, sl_i, sl_j, sl_a, sl_v, sp_p, sp_f1, sp_f2, sc_w, sc_c, sc_r, sc_f, sc_a, sc_k, pp_in, pp_al, ↓reduceIte, Nat.reduceEqDiff, Nat.reduceLT, Nat.reduceLeDiff, Nat.reduceAdd, Nat.reduceSub, Nat.reduceMul, List.length_cons, List.length_nil, true_and, and_true, and_self, true_implies, eq_self, not_true_eq_false, not_false_eq_true, false_implies, implies_true, false_and, and_false, Bool.false_eq_true, or_true, true_or, or_false, false_or, Classical.not_not, Nat.le_refl, Nat.lt_irrefl, Bool.true_eq_false, n_lit, n_a, n_c, n_s, n_b, n_m, n_g, n_w, n_n, rk_X8_counts, hC, hG]
      refine c_countsOn hC hG hT wG wT (by omega) j1 (by omega) ?_
      simp (disch := omega) only [sw_c, sw_n, sx, sf_4, sv_i, sv_j, sv_r, sv_q1, sv_q0, sv_1i, sv_1r, sv_2, sl_i, sl_j, sl_a, sl_v, sp_p, sp_f1, sp_f2, sc_w, sc_c, sc_r, sc_f, sc_a, sc_k, pp_in, pp_al, ↓reduceIte, Nat.reduceEqDiff, Nat.reduceLT, Nat.reduceLeDiff, Nat.reduceAdd, Nat.reduceSub, Nat.reduceMul, List.length_cons, List.length_nil, true_and, and_true, and_self, true_implies, eq_self, not_true_eq_false, not_false_eq_true, false_implies, implies_true, false_and, and_false, Bool.false_eq_true, or_true, true_or, or_false, false_or, Classical.not_not, Nat.le_refl, Nat.lt_irrefl, Bool.true_eq_false, n_lit, n_a, n_c, n_s, n_b, n_m, n_g, n_w, n_n, rk_X8_counts]
      exact ⟨(Classical.em _).symm, hP trivial⟩
    · simp only [o_counts, wP, e1, e2] at hE
      exact c_ckV1 hC hT wT ho (hE trivial)
  · simp only [o_counts, wP, e1] at hE
    exact c_ckP1 hC hG wG ho (hE trivial)
theorem c_fte_l {m : Nat} (hC : sC sh R) (hG : cG I J G) (wG : wfL n G) (hm : m < 8) : ∀ f p, f + p = G.1 8 → P (.inl (some (.int (oi (fte G m (G.1 8)))))) (sh, I, J, R) → pp_N g (h + 1) mi_X8_firstToExpire P 9 [(0, .ref 64), (1, .int (Int32.ofNat m)), (2, .int (oi (fte G m p))), (3, .int (Int32.ofNat p))] [] (sh, I, J, R) := by
  intro f
  induction f with
  | zero =>
    intro p hp hP
    have hp : p = G.1 8 := by omega
    subst hp
    repeat' (first | ((with_reducible refine pp_go (pc := 9) (seg := sg_X8_firstToExpire_9) hh_X8_firstToExpire sk_X8_firstToExpire_9 ?_); simp (disch := omega) only [sg_X8_firstToExpire_9, sw_c, sw_n, sx, sf_4, sv_i, sv_j, sv_r, sv_q1, sv_q0, sv_1i, sv_1r, sv_2, sl_i, sl_j, sl_a, sl_v, sp_p, sp_f1, sp_f2, sc_w, sc_c, sc_r, sc_f, sc_a, sc_k, pp_in, pp_al, ↓reduceIte, Nat.reduceEqDiff, Nat.reduceLT, Nat.reduceLeDiff, Nat.reduceAdd, Nat.reduceSub, Nat.reduceMul, List.length_cons, List.length_nil, true_and, and_true, and_self, true_implies, eq_self, not_true_eq_false, not_false_eq_true, false_implies, implies_true, false_and, and_false, Bool.false_eq_true, or_true, true_or, or_false, false_or, Classical.not_not, Nat.le_refl, Nat.lt_irrefl, Bool.true_eq_false, n_lit, n_a, n_c, n_s, n_b, n_m, n_g, n_w, n_n, rk_X8_firstToExpire, hC, hG]) | ((with_reducible refine pp_go (pc := 85) (seg := sg_X8_firstToExpire_85) hh_X8_firstToExpire sk_X8_firstToExpire_85 ?_); simp (disch := omega) only [sg_X8_firstToExpire_85, sw_c, sw_n, sx, sf_4, sv_i, sv_j, sv_r, sv_q1, sv_q0, sv_1i, sv_1r, sv_2, sl_i, sl_j, sl_a, sl_v, sp_p, sp_f1, sp_f2, sc_w, sc_c, sc_r, sc_f, sc_a, sc_k, pp_in, pp_al, ↓reduceIte, Nat.reduceEqDiff, Nat.reduceLT, Nat.reduceLeDiff, Nat.reduceAdd, Nat.reduceSub, Nat.reduceMul, List.length_cons, List.length_nil, true_and, and_true, and_self, true_implies, eq_self, not_true_eq_false, not_false_eq_true, false_implies, implies_true, false_and, and_false, Bool.false_eq_true, or_true, true_or, or_false, false_or, Classical.not_not, Nat.le_refl, Nat.lt_irrefl, Bool.true_eq_false, n_lit, n_a, n_c, n_s, n_b, n_m, n_g, n_w, n_n, rk_X8_firstToExpire, hC, hG]) | (refine ⟨fun _ => ?_, fun _ => ?_⟩ <;> try (exfalso; omega)) | fail)
    exact hP
  | succ f ih =>
    intro p hp hP
    have h1 : G.1 (17 + p) < 8 := wG.2.2.2.2.2.1 _ (by omega)
    have h2 : G.1 (33 + p) ≤ 9999 := wG.2.2.2.2.2.2.1 _ (by omega)
    have nx := ih (p + 1) (by omega) hP
    rw [fte] at nx
    have q1 : ¬ G.1 8 ≤ p := by omega
    have hlt := fte_lt (G := G) (m := m) p
    generalize fte G m p = ob at nx hlt ⊢
    refine pp_go rfl sk_X8_firstToExpire_9 ?_
    simp (disch := omega) only [sg_X8_firstToExpire_9, sw_c, sw_n, sx, sf_4, sv_i, sv_j, sv_r, sv_q1, sv_q0, sv_1i, sv_1r, sv_2, sl_i, sl_j, sl_a, sl_v, sp_p, sp_f1, sp_f2, sc_w, sc_c, sc_r, sc_f, sc_a, sc_k, pp_in, pp_al, ↓reduceIte, Nat.reduceEqDiff, Nat.reduceLT, Nat.reduceLeDiff, Nat.reduceAdd, Nat.reduceSub, Nat.reduceMul, List.length_cons, List.length_nil, true_and, and_true, and_self, true_implies, eq_self, not_true_eq_false, not_false_eq_true, false_implies, implies_true, false_and, and_false, Bool.false_eq_true, or_true, true_or, or_false, false_or, Classical.not_not, Nat.le_refl, Nat.lt_irrefl, Bool.true_eq_false, n_lit, n_a, n_c, n_s, n_b, n_m, n_g, n_w, n_n, rk_X8_firstToExpire, hC, hG, q1]
    refine ⟨fun q => ?_, fun q => ?_⟩
    · rw [if_neg (by omega)] at nx
      repeat' (first | ((with_reducible refine pp_go (pc := 77) (seg := sg_X8_firstToExpire_77) hh_X8_firstToExpire sk_X8_firstToExpire_77 ?_); simp (disch := omega) only [sg_X8_firstToExpire_77, sw_c, sw_n, sx, sf_4, sv_i, sv_j, sv_r, sv_q1, sv_q0, sv_1i, sv_1r, sv_2, sl_i, sl_j, sl_a, sl_v, sp_p, sp_f1, sp_f2, sc_w, sc_c, sc_r, sc_f, sc_a, sc_k, pp_in, pp_al, ↓reduceIte, Nat.reduceEqDiff, Nat.reduceLT, Nat.reduceLeDiff, Nat.reduceAdd, Nat.reduceSub, Nat.reduceMul, List.length_cons, List.length_nil, true_and, and_true, and_self, true_implies, eq_self, not_true_eq_false, not_false_eq_true, false_implies, implies_true, false_and, and_false, Bool.false_eq_true, or_true, true_or, or_false, false_or, Classical.not_not, Nat.le_refl, Nat.lt_irrefl, Bool.true_eq_false, n_lit, n_a, n_c, n_s, n_b, n_m, n_g, n_w, n_n, rk_X8_firstToExpire]) | ((with_reducible refine pp_go (pc := 79) (seg := sg_X8_firstToExpire_79) hh_X8_firstToExpire sk_X8_firstToExpire_79 ?_); simp (disch := omega) only [sg_X8_firstToExpire_79, sw_c, sw_n, sx, sf_4, sv_i, sv_j, sv_r, sv_q1, sv_q0, sv_1i, sv_1r, sv_2, sl_i, sl_j, sl_a, sl_v, sp_p, sp_f1, sp_f2, sc_w, sc_c, sc_r, sc_f, sc_a, sc_k, pp_in, pp_al, ↓reduceIte, Nat.reduceEqDiff, Nat.reduceLT, Nat.reduceLeDiff, Nat.reduceAdd, Nat.reduceSub, Nat.reduceMul, List.length_cons, List.length_nil, true_and, and_true, and_self, true_implies, eq_self, not_true_eq_false, not_false_eq_true, false_implies, implies_true, false_and, and_false, Bool.false_eq_true, or_true, true_or, or_false, false_or, Classical.not_not, Nat.le_refl, Nat.lt_irrefl, Bool.true_eq_false, n_lit, n_a, n_c, n_s, n_b, n_m, n_g, n_w, n_n, rk_X8_firstToExpire]) | (refine ⟨fun _ => ?_, fun _ => ?_⟩ <;> try (exfalso; omega)) | fail)
      first | (rw [if_pos (by omega)] at nx; exact pp_N.sub nx (by simp [oi])) | (rw [if_neg (by omega)] at nx; exact pp_N.sub nx (by simp [oi])) | exact pp_N.sub nx (by simp [oi])
    · refine c_inForceOn hC hG wG (by omega) (by omega) ?_
      simp (disch := omega) only [sw_c, sw_n, sx, sf_4, sv_i, sv_j, sv_r, sv_q1, sv_q0, sv_1i, sv_1r, sv_2, sl_i, sl_j, sl_a, sl_v, sp_p, sp_f1, sp_f2, sc_w, sc_c, sc_r, sc_f, sc_a, sc_k, pp_in, pp_al, ↓reduceIte, Nat.reduceEqDiff, Nat.reduceLT, Nat.reduceLeDiff, Nat.reduceAdd, Nat.reduceSub, Nat.reduceMul, List.length_cons, List.length_nil, true_and, and_true, and_self, true_implies, eq_self, not_true_eq_false, not_false_eq_true, false_implies, implies_true, false_and, and_false, Bool.false_eq_true, or_true, true_or, or_false, false_or, Classical.not_not, Nat.le_refl, Nat.lt_irrefl, Bool.true_eq_false, n_lit, n_a, n_c, n_s, n_b, n_m, n_g, n_w, n_n, rk_X8_firstToExpire, hC, hG]
      refine ⟨fun q2 => ?_, fun q2 => ?_⟩
      · rw [if_neg (by omega)] at nx
        repeat' (first | ((with_reducible refine pp_go (pc := 77) (seg := sg_X8_firstToExpire_77) hh_X8_firstToExpire sk_X8_firstToExpire_77 ?_); simp (disch := omega) only [sg_X8_firstToExpire_77, sw_c, sw_n, sx, sf_4, sv_i, sv_j, sv_r, sv_q1, sv_q0, sv_1i, sv_1r, sv_2, sl_i, sl_j, sl_a, sl_v, sp_p, sp_f1, sp_f2, sc_w, sc_c, sc_r, sc_f, sc_a, sc_k, pp_in, pp_al, ↓reduceIte, Nat.reduceEqDiff, Nat.reduceLT, Nat.reduceLeDiff, Nat.reduceAdd, Nat.reduceSub, Nat.reduceMul, List.length_cons, List.length_nil, true_and, and_true, and_self, true_implies, eq_self, not_true_eq_false, not_false_eq_true, false_implies, implies_true, false_and, and_false, Bool.false_eq_true, or_true, true_or, or_false, false_or, Classical.not_not, Nat.le_refl, Nat.lt_irrefl, Bool.true_eq_false, n_lit, n_a, n_c, n_s, n_b, n_m, n_g, n_w, n_n, rk_X8_firstToExpire]) | ((with_reducible refine pp_go (pc := 79) (seg := sg_X8_firstToExpire_79) hh_X8_firstToExpire sk_X8_firstToExpire_79 ?_); simp (disch := omega) only [sg_X8_firstToExpire_79, sw_c, sw_n, sx, sf_4, sv_i, sv_j, sv_r, sv_q1, sv_q0, sv_1i, sv_1r, sv_2, sl_i, sl_j, sl_a, sl_v, sp_p, sp_f1, sp_f2, sc_w, sc_c, sc_r, sc_f, sc_a, sc_k, pp_in, pp_al, ↓reduceIte, Nat.reduceEqDiff, Nat.reduceLT, Nat.reduceLeDiff, Nat.reduceAdd, Nat.reduceSub, Nat.reduceMul, List.length_cons, List.length_nil, true_and, and_true, and_self, true_implies, eq_self, not_true_eq_false, not_false_eq_true, false_implies, implies_true, false_and, and_false, Bool.false_eq_true, or_true, true_or, or_false, false_or, Classical.not_not, Nat.le_refl, Nat.lt_irrefl, Bool.true_eq_false, n_lit, n_a, n_c, n_s, n_b, n_m, n_g, n_w, n_n, rk_X8_firstToExpire]) | (refine ⟨fun _ => ?_, fun _ => ?_⟩ <;> try (exfalso; omega)) | fail)
        first | (rw [if_pos (by omega)] at nx; exact pp_N.sub nx (by simp [oi])) | (rw [if_neg (by omega)] at nx; exact pp_N.sub nx (by simp [oi])) | exact pp_N.sub nx (by simp [oi])
      · rw [if_pos (by omega)] at nx
        cases ob with
        | none =>
          simp only [] at nx
          simp (disch := omega) only [sw_c, sw_n, sx, sf_4, sv_i, sv_j, sv_r, sv_q1, sv_q0, sv_1i, sv_1r, sv_2, sl_i, sl_j, sl_a, sl_v, sp_p, sp_f1, sp_f2, sc_w, sc_c, sc_r, sc_f, sc_a, sc_k, pp_in, pp_al, ↓reduceIte, Nat.reduceEqDiff, Nat.reduceLT, Nat.reduceLeDiff, Nat.reduceAdd, Nat.reduceSub, Nat.reduceMul, List.length_cons, List.length_nil, true_and, and_true, and_self, true_implies, eq_self, not_true_eq_false, not_false_eq_true, false_implies, implies_true, false_and, and_false, Bool.false_eq_true, or_true, true_or, or_false, false_or, Classical.not_not, Nat.le_refl, Nat.lt_irrefl, Bool.true_eq_false, n_lit, n_a, n_c, n_s, n_b, n_m, n_g, n_w, n_n, rk_X8_firstToExpire, hC, hG, oi]
          repeat' (first | ((with_reducible refine pp_go (pc := 77) (seg := sg_X8_firstToExpire_77) hh_X8_firstToExpire sk_X8_firstToExpire_77 ?_); simp (disch := omega) only [sg_X8_firstToExpire_77, sw_c, sw_n, sx, sf_4, sv_i, sv_j, sv_r, sv_q1, sv_q0, sv_1i, sv_1r, sv_2, sl_i, sl_j, sl_a, sl_v, sp_p, sp_f1, sp_f2, sc_w, sc_c, sc_r, sc_f, sc_a, sc_k, pp_in, pp_al, ↓reduceIte, Nat.reduceEqDiff, Nat.reduceLT, Nat.reduceLeDiff, Nat.reduceAdd, Nat.reduceSub, Nat.reduceMul, List.length_cons, List.length_nil, true_and, and_true, and_self, true_implies, eq_self, not_true_eq_false, not_false_eq_true, false_implies, implies_true, false_and, and_false, Bool.false_eq_true, or_true, true_or, or_false, false_or, Classical.not_not, Nat.le_refl, Nat.lt_irrefl, Bool.true_eq_false, n_lit, n_a, n_c, n_s, n_b, n_m, n_g, n_w, n_n, rk_X8_firstToExpire, hC, hG, oi]) | ((with_reducible refine pp_go (pc := 79) (seg := sg_X8_firstToExpire_79) hh_X8_firstToExpire sk_X8_firstToExpire_79 ?_); simp (disch := omega) only [sg_X8_firstToExpire_79, sw_c, sw_n, sx, sf_4, sv_i, sv_j, sv_r, sv_q1, sv_q0, sv_1i, sv_1r, sv_2, sl_i, sl_j, sl_a, sl_v, sp_p, sp_f1, sp_f2, sc_w, sc_c, sc_r, sc_f, sc_a, sc_k, pp_in, pp_al, ↓reduceIte, Nat.reduceEqDiff, Nat.reduceLT, Nat.reduceLeDiff, Nat.reduceAdd, Nat.reduceSub, Nat.reduceMul, List.length_cons, List.length_nil, true_and, and_true, and_self, true_implies, eq_self, not_true_eq_false, not_false_eq_true, false_implies, implies_true, false_and, and_false, Bool.false_eq_true, or_true, true_or, or_false, false_or, Classical.not_not, Nat.le_refl, Nat.lt_irrefl, Bool.true_eq_false, n_lit, n_a, n_c, n_s, n_b, n_m, n_g, n_w, n_n, rk_X8_firstToExpire, hC, hG, oi]) | (refine ⟨fun _ => ?_, fun _ => ?_⟩ <;> try (exfalso; omega)) | fail)
          first | (rw [if_pos (by omega)] at nx; exact pp_N.sub nx (by simp [oi])) | (rw [if_neg (by omega)] at nx; exact pp_N.sub nx (by simp [oi])) | exact pp_N.sub nx (by simp [oi])
        | some b =>
          simp only [] at nx
          have := hlt b rfl
          have h3 : G.1 (33 + b) ≤ 9999 := wG.2.2.2.2.2.2.1 _ (by omega)
          simp (disch := omega) only [sw_c, sw_n, sx, sf_4, sv_i, sv_j, sv_r, sv_q1, sv_q0, sv_1i, sv_1r, sv_2, sl_i, sl_j, sl_a, sl_v, sp_p, sp_f1, sp_f2, sc_w, sc_c, sc_r, sc_f, sc_a, sc_k, pp_in, pp_al, ↓reduceIte, Nat.reduceEqDiff, Nat.reduceLT, Nat.reduceLeDiff, Nat.reduceAdd, Nat.reduceSub, Nat.reduceMul, List.length_cons, List.length_nil, true_and, and_true, and_self, true_implies, eq_self, not_true_eq_false, not_false_eq_true, false_implies, implies_true, false_and, and_false, Bool.false_eq_true, or_true, true_or, or_false, false_or, Classical.not_not, Nat.le_refl, Nat.lt_irrefl, Bool.true_eq_false, n_lit, n_a, n_c, n_s, n_b, n_m, n_g, n_w, n_n, rk_X8_firstToExpire, hC, hG, oi]
          repeat' (first | ((with_reducible refine pp_go (pc := 77) (seg := sg_X8_firstToExpire_77) hh_X8_firstToExpire sk_X8_firstToExpire_77 ?_); simp (disch := omega) only [sg_X8_firstToExpire_77, sw_c, sw_n, sx, sf_4, sv_i, sv_j, sv_r, sv_q1, sv_q0, sv_1i, sv_1r, sv_2, sl_i, sl_j, sl_a, sl_v, sp_p, sp_f1, sp_f2, sc_w, sc_c, sc_r, sc_f, sc_a, sc_k, pp_in, pp_al, ↓reduceIte, Nat.reduceEqDiff, Nat.reduceLT, Nat.reduceLeDiff, Nat.reduceAdd, Nat.reduceSub, Nat.reduceMul, List.length_cons, List.length_nil, true_and, and_true, and_self, true_implies, eq_self, not_true_eq_false, not_false_eq_true, false_implies, implies_true, false_and, and_false, Bool.false_eq_true, or_true, true_or, or_false, false_or, Classical.not_not, Nat.le_refl, Nat.lt_irrefl, Bool.true_eq_false, n_lit, n_a, n_c, n_s, n_b, n_m, n_g, n_w, n_n, rk_X8_firstToExpire, hC, hG, oi]) | ((with_reducible refine pp_go (pc := 79) (seg := sg_X8_firstToExpire_79) hh_X8_firstToExpire sk_X8_firstToExpire_79 ?_); simp (disch := omega) only [sg_X8_firstToExpire_79, sw_c, sw_n, sx, sf_4, sv_i, sv_j, sv_r, sv_q1, sv_q0, sv_1i, sv_1r, sv_2, sl_i, sl_j, sl_a, sl_v, sp_p, sp_f1, sp_f2, sc_w, sc_c, sc_r, sc_f, sc_a, sc_k, pp_in, pp_al, ↓reduceIte, Nat.reduceEqDiff, Nat.reduceLT, Nat.reduceLeDiff, Nat.reduceAdd, Nat.reduceSub, Nat.reduceMul, List.length_cons, List.length_nil, true_and, and_true, and_self, true_implies, eq_self, not_true_eq_false, not_false_eq_true, false_implies, implies_true, false_and, and_false, Bool.false_eq_true, or_true, true_or, or_false, false_or, Classical.not_not, Nat.le_refl, Nat.lt_irrefl, Bool.true_eq_false, n_lit, n_a, n_c, n_s, n_b, n_m, n_g, n_w, n_n, rk_X8_firstToExpire, hC, hG, oi]) | (refine ⟨fun _ => ?_, fun _ => ?_⟩ <;> try (exfalso; omega)) | fail)
          all_goals (first | (rw [if_pos (by omega)] at nx; exact pp_N.sub nx (by simp [oi])) | (rw [if_neg (by omega)] at nx; exact pp_N.sub nx (by simp [oi])) | exact pp_N.sub nx (by simp [oi]))
theorem c_firstToExpire {m : Int32} (hC : sC sh R) (hG : cG I J G) (wG : wfL n G) (hE : (o_firstToExpire G m).1 = 1 → xB sh I J R P eB) (hP : (o_firstToExpire G m).1 = 0 → P (.inl (some (.int (o_firstToExpire G m).2))) (sh, I, J, R)) : pp_MW g (h + 2) mi_X8_firstToExpire [.ref 64, .int m] (sh, I, J, R) P := by
  refine pp_st0 [(0, .ref 64), (1, .int m)] ok_X8_firstToExpire rfl (Nat.le_of_ble_eq_true rfl) rfl ?_
  refine pp_go rfl sk_X8_firstToExpire_0 ?_
  simp (disch := omega) only [sg_X8_firstToExpire_0, sw_c, sw_n, sx, sf_4, sv_i, sv_j, sv_r, sv_q1, sv_q0, sv_1i, sv_1r, sv_2, sl_i, sl_j, sl_a, sl_v, sp_p, sp_f1, sp_f2, sc_w, sc_c, sc_r, sc_f, sc_a, sc_k, pp_in, pp_al, ↓reduceIte, Nat.reduceEqDiff, Nat.reduceLT, Nat.reduceLeDiff, Nat.reduceAdd, Nat.reduceSub, Nat.reduceMul, List.length_cons, List.length_nil, true_and, and_true, and_self, true_implies, eq_self, not_true_eq_false, not_false_eq_true, false_implies, implies_true, false_and, and_false, Bool.false_eq_true, or_true, true_or, or_false, false_or, Classical.not_not, Nat.le_refl, Nat.lt_irrefl, Bool.true_eq_false, n_lit, n_a, n_c, n_s, n_b, n_m, n_g, n_w, n_n, rk_X8_firstToExpire, hC]
  rcases idx_cases m (G.1 7) (by omega) with ⟨k, k1, rfl, e1⟩ | ⟨ho, e1⟩
  · simp only [o_firstToExpire, wM, e1] at hP
    refine c_ckM0 hC hG wG k1 ?_
    simp (disch := omega) only [sw_c, sw_n, sx, sf_4, sv_i, sv_j, sv_r, sv_q1, sv_q0, sv_1i, sv_1r, sv_2, sl_i, sl_j, sl_a, sl_v, sp_p, sp_f1, sp_f2, sc_w, sc_c, sc_r, sc_f, sc_a, sc_k, pp_in, pp_al, ↓reduceIte, Nat.reduceEqDiff, Nat.reduceLT, Nat.reduceLeDiff, Nat.reduceAdd, Nat.reduceSub, Nat.reduceMul, List.length_cons, List.length_nil, true_and, and_true, and_self, true_implies, eq_self, not_true_eq_false, not_false_eq_true, false_implies, implies_true, false_and, and_false, Bool.false_eq_true, or_true, true_or, or_false, false_or, Classical.not_not, Nat.le_refl, Nat.lt_irrefl, Bool.true_eq_false, n_lit, n_a, n_c, n_s, n_b, n_m, n_g, n_w, n_n, rk_X8_firstToExpire, hC]
    exact c_fte_l hC hG wG (by omega) (G.1 8) 0 rfl (hP trivial)
  · simp only [o_firstToExpire, wM, e1] at hE
    exact c_ckM1 hC hG wG ho (hE trivial)
theorem c_versionsOn {p d : Nat} (hC : sC sh R) (hG : cG I J G) (hT : cT I T) (wG : wfL n G) (wT : wfT T) (hp : p < 16) (hd : d < 100000) (hP : P (.inl (some (.int (Int32.ofNat (vn T G p d))))) (sh, I, J, R)) : pp_MW g (h + 4) mi_X0_versionsOn [.ref 112, .int (Int32.ofNat p), .int (Int32.ofNat d)] (sh, I, J, R) P := by
  refine pp_st0 [(0, .ref 112), (1, .int (Int32.ofNat p)), (2, .int (Int32.ofNat d))] ok_X0_versionsOn rfl (Nat.le_of_ble_eq_true rfl) rfl ?_
  refine pp_go rfl sk_X0_versionsOn_0 ?_
  simp (disch := omega) only [sg_X0_versionsOn_0, sw_c, sw_n, sx, sf_4, sv_i, sv_j, sv_r, sv_q1, sv_q0, sv_1i, sv_1r, sv_2, sl_i, sl_j, sl_a, sl_v, sp_p, sp_f1, sp_f2, sc_w, sc_c, sc_r, sc_f, sc_a, sc_k, pp_in, pp_al, ↓reduceIte, Nat.reduceEqDiff, Nat.reduceLT, Nat.reduceLeDiff, Nat.reduceAdd, Nat.reduceSub, Nat.reduceMul, List.length_cons, List.length_nil, true_and, and_true, and_self, true_implies, eq_self, not_true_eq_false, not_false_eq_true, false_implies, implies_true, false_and, and_false, Bool.false_eq_true, or_true, true_or, or_false, false_or, Classical.not_not, Nat.le_refl, Nat.lt_irrefl, Bool.true_eq_false, n_lit, n_a, n_c, n_s, n_b, n_m, n_g, n_w, n_n, rk_X0_versionsOn]
  have L : ∀ f v, f + v = T.1 1 → pp_N g (h + 3) mi_X0_versionsOn P 5 [(0, .ref 112), (1, .int (Int32.ofNat p)), (2, .int (Int32.ofNat d)), (3, .int (Int32.ofNat (sm (fun v => if ctd T G p v d then 1 else 0) v))), (4, .int (Int32.ofNat v))] [] (sh, I, J, R) := by
    intro f
    induction f with
    | zero =>
      intro v hv
      have hv : v = T.1 1 := by omega
      subst hv
      repeat' (first | ((with_reducible refine pp_go (pc := 5) (seg := sg_X0_versionsOn_5) hh_X0_versionsOn sk_X0_versionsOn_5 ?_); simp (disch := omega) only [sg_X0_versionsOn_5, sw_c, sw_n, sx, sf_4, sv_i, sv_j, sv_r, sv_q1, sv_q0, sv_1i, sv_1r, sv_2, sl_i, sl_j, sl_a, sl_v, sp_p, sp_f1, sp_f2, sc_w, sc_c, sc_r, sc_f, sc_a, sc_k, pp_in, pp_al, ↓reduceIte, Nat.reduceEqDiff, Nat.reduceLT, Nat.reduceLeDiff, Nat.reduceAdd, Nat.reduceSub, Nat.reduceMul, List.length_cons, List.length_nil, true_and, and_true, and_self, true_implies, eq_self, not_true_eq_false, not_false_eq_true, false_implies, implies_true, false_and, and_false, Bool.false_eq_true, or_true, true_or, or_false, false_or, Classical.not_not, Nat.le_refl, Nat.lt_irrefl, Bool.true_eq_false, n_lit, n_a, n_c, n_s, n_b, n_m, n_g, n_w, n_n, rk_X0_versionsOn, hC, hT]) | ((with_reducible refine pp_go (pc := 42) (seg := sg_X0_versionsOn_42) hh_X0_versionsOn sk_X0_versionsOn_42 ?_); simp (disch := omega) only [sg_X0_versionsOn_42, sw_c, sw_n, sx, sf_4, sv_i, sv_j, sv_r, sv_q1, sv_q0, sv_1i, sv_1r, sv_2, sl_i, sl_j, sl_a, sl_v, sp_p, sp_f1, sp_f2, sc_w, sc_c, sc_r, sc_f, sc_a, sc_k, pp_in, pp_al, ↓reduceIte, Nat.reduceEqDiff, Nat.reduceLT, Nat.reduceLeDiff, Nat.reduceAdd, Nat.reduceSub, Nat.reduceMul, List.length_cons, List.length_nil, true_and, and_true, and_self, true_implies, eq_self, not_true_eq_false, not_false_eq_true, false_implies, implies_true, false_and, and_false, Bool.false_eq_true, or_true, true_or, or_false, false_or, Classical.not_not, Nat.le_refl, Nat.lt_irrefl, Bool.true_eq_false, n_lit, n_a, n_c, n_s, n_b, n_m, n_g, n_w, n_n, rk_X0_versionsOn, hC, hT]) | (refine ⟨fun _ => ?_, fun _ => ?_⟩ <;> try (exfalso; omega)) | fail)
      exact hP
    | succ f ih =>
      intro v hv
      have nx := ih (v + 1) (by omega)
      rw [sm] at nx
      have q1 : ¬ T.1 1 ≤ v := by omega
      refine pp_go rfl sk_X0_versionsOn_5 ?_
      simp (disch := omega) only [sg_X0_versionsOn_5, sw_c, sw_n, sx, sf_4, sv_i, sv_j, sv_r, sv_q1, sv_q0, sv_1i, sv_1r, sv_2, sl_i, sl_j, sl_a, sl_v, sp_p, sp_f1, sp_f2, sc_w, sc_c, sc_r, sc_f, sc_a, sc_k, pp_in, pp_al, ↓reduceIte, Nat.reduceEqDiff, Nat.reduceLT, Nat.reduceLeDiff, Nat.reduceAdd, Nat.reduceSub, Nat.reduceMul, List.length_cons, List.length_nil, true_and, and_true, and_self, true_implies, eq_self, not_true_eq_false, not_false_eq_true, false_implies, implies_true, false_and, and_false, Bool.false_eq_true, or_true, true_or, or_false, false_or, Classical.not_not, Nat.le_refl, Nat.lt_irrefl, Bool.true_eq_false, n_lit, n_a, n_c, n_s, n_b, n_m, n_g, n_w, n_n, rk_X0_versionsOn, hC, hT, q1]
      refine c_countsOn hC hG hT wG wT hp (by omega) hd ?_
      simp (disch := omega) only [sw_c, sw_n, sx, sf_4, sv_i, sv_j, sv_r, sv_q1, sv_q0, sv_1i, sv_1r, sv_2, sl_i, sl_j, sl_a, sl_v, sp_p, sp_f1, sp_f2, sc_w, sc_c, sc_r, sc_f, sc_a, sc_k, pp_in, pp_al, ↓reduceIte, Nat.reduceEqDiff, Nat.reduceLT, Nat.reduceLeDiff, Nat.reduceAdd, Nat.reduceSub, Nat.reduceMul, List.length_cons, List.length_nil, true_and, and_true, and_self, true_implies, eq_self, not_true_eq_false, not_false_eq_true, false_implies, implies_true, false_and, and_false, Bool.false_eq_true, or_true, true_or, or_false, false_or, Classical.not_not, Nat.le_refl, Nat.lt_irrefl, Bool.true_eq_false, n_lit, n_a, n_c, n_s, n_b, n_m, n_g, n_w, n_n, rk_X0_versionsOn]
      refine ⟨fun q => ?_, fun q => ?_⟩
      · rw [if_neg q] at nx
        repeat' (first | ((with_reducible refine pp_go (pc := 33) (seg := sg_X0_versionsOn_33) hh_X0_versionsOn sk_X0_versionsOn_33 ?_); simp (disch := omega) only [sg_X0_versionsOn_33, sw_c, sw_n, sx, sf_4, sv_i, sv_j, sv_r, sv_q1, sv_q0, sv_1i, sv_1r, sv_2, sl_i, sl_j, sl_a, sl_v, sp_p, sp_f1, sp_f2, sc_w, sc_c, sc_r, sc_f, sc_a, sc_k, pp_in, pp_al, ↓reduceIte, Nat.reduceEqDiff, Nat.reduceLT, Nat.reduceLeDiff, Nat.reduceAdd, Nat.reduceSub, Nat.reduceMul, List.length_cons, List.length_nil, true_and, and_true, and_self, true_implies, eq_self, not_true_eq_false, not_false_eq_true, false_implies, implies_true, false_and, and_false, Bool.false_eq_true, or_true, true_or, or_false, false_or, Classical.not_not, Nat.le_refl, Nat.lt_irrefl, Bool.true_eq_false, n_lit, n_a, n_c, n_s, n_b, n_m, n_g, n_w, n_n, rk_X0_versionsOn]) | ((with_reducible refine pp_go (pc := 34) (seg := sg_X0_versionsOn_34) hh_X0_versionsOn sk_X0_versionsOn_34 ?_); simp (disch := omega) only [sg_X0_versionsOn_34, sw_c, sw_n, sx, sf_4, sv_i, sv_j, sv_r, sv_q1, sv_q0, sv_1i, sv_1r, sv_2, sl_i, sl_j, sl_a, sl_v, sp_p, sp_f1, sp_f2, sc_w, sc_c, sc_r, sc_f, sc_a, sc_k, pp_in, pp_al, ↓reduceIte, Nat.reduceEqDiff, Nat.reduceLT, Nat.reduceLeDiff, Nat.reduceAdd, Nat.reduceSub, Nat.reduceMul, List.length_cons, List.length_nil, true_and, and_true, and_self, true_implies, eq_self, not_true_eq_false, not_false_eq_true, false_implies, implies_true, false_and, and_false, Bool.false_eq_true, or_true, true_or, or_false, false_or, Classical.not_not, Nat.le_refl, Nat.lt_irrefl, Bool.true_eq_false, n_lit, n_a, n_c, n_s, n_b, n_m, n_g, n_w, n_n, rk_X0_versionsOn]) | (refine ⟨fun _ => ?_, fun _ => ?_⟩ <;> try (exfalso; omega)) | fail)
        exact nx
      · rw [if_pos q] at nx
        repeat' (first | ((with_reducible refine pp_go (pc := 34) (seg := sg_X0_versionsOn_34) hh_X0_versionsOn sk_X0_versionsOn_34 ?_); simp (disch := omega) only [sg_X0_versionsOn_34, sw_c, sw_n, sx, sf_4, sv_i, sv_j, sv_r, sv_q1, sv_q0, sv_1i, sv_1r, sv_2, sl_i, sl_j, sl_a, sl_v, sp_p, sp_f1, sp_f2, sc_w, sc_c, sc_r, sc_f, sc_a, sc_k, pp_in, pp_al, ↓reduceIte, Nat.reduceEqDiff, Nat.reduceLT, Nat.reduceLeDiff, Nat.reduceAdd, Nat.reduceSub, Nat.reduceMul, List.length_cons, List.length_nil, true_and, and_true, and_self, true_implies, eq_self, not_true_eq_false, not_false_eq_true, false_implies, implies_true, false_and, and_false, Bool.false_eq_true, or_true, true_or, or_false, false_or, Classical.not_not, Nat.le_refl, Nat.lt_irrefl, Bool.true_eq_false, n_lit, n_a, n_c, n_s, n_b, n_m, n_g, n_w, n_n, rk_X0_versionsOn]) | (refine ⟨fun _ => ?_, fun _ => ?_⟩ <;> try (exfalso; omega)) | fail)
        exact nx
  exact L (T.1 1) 0 (by omega)
theorem c_combined {c : Nat} {a b : Int32} (hc : 4 ≤ c ∧ c ≤ 7) (hP : P (.inl (some (.int (jn c a b)))) w) : pp_MW g (h + 1) mi_X2_combined [.int (encC c), .int a, .int b] w P := by
  rw [encC_op (by omega)]
  refine pp_st0 [(0, .int (Int32.ofInt (-(c : Int)))), (1, .int a), (2, .int b)] ok_X2_combined rfl (Nat.le_of_ble_eq_true rfl) rfl ?_
  refine pp_go rfl sk_X2_combined_0 ?_
  simp (disch := omega) only [sg_X2_combined_0, sw_c, sw_n, sx, sf_4, sv_i, sv_j, sv_r, sv_q1, sv_q0, sv_1i, sv_1r, sv_2, sl_i, sl_j, sl_a, sl_v, sp_p, sp_f1, sp_f2, sc_w, sc_c, sc_r, sc_f, sc_a, sc_k, pp_in, pp_al, ↓reduceIte, Nat.reduceEqDiff, Nat.reduceLT, Nat.reduceLeDiff, Nat.reduceAdd, Nat.reduceSub, Nat.reduceMul, List.length_cons, List.length_nil, true_and, and_true, and_self, true_implies, eq_self, not_true_eq_false, not_false_eq_true, false_implies, implies_true, false_and, and_false, Bool.false_eq_true, or_true, true_or, or_false, false_or, Classical.not_not, Nat.le_refl, Nat.lt_irrefl, Bool.true_eq_false, n_lit, n_a, n_c, n_s, n_b, n_m, n_g, n_w, n_n, rk_X2_combined, sc_s, n_i]
  refine ⟨⟨fun q => ?_, fun q => ?_, fun q => ?_⟩, fun q => ?_⟩
  · rw [show c = 6 by omega] at hP
    repeat' (first | ((with_reducible refine pp_go (pc := 36) (seg := sg_X2_combined_36) hh_X2_combined sk_X2_combined_36 ?_); simp (disch := omega) only [sg_X2_combined_36, sw_c, sw_n, sx, sf_4, sv_i, sv_j, sv_r, sv_q1, sv_q0, sv_1i, sv_1r, sv_2, sl_i, sl_j, sl_a, sl_v, sp_p, sp_f1, sp_f2, sc_w, sc_c, sc_r, sc_f, sc_a, sc_k, pp_in, pp_al, ↓reduceIte, Nat.reduceEqDiff, Nat.reduceLT, Nat.reduceLeDiff, Nat.reduceAdd, Nat.reduceSub, Nat.reduceMul, List.length_cons, List.length_nil, true_and, and_true, and_self, true_implies, eq_self, not_true_eq_false, not_false_eq_true, false_implies, implies_true, false_and, and_false, Bool.false_eq_true, or_true, true_or, or_false, false_or, Classical.not_not, Nat.le_refl, Nat.lt_irrefl, Bool.true_eq_false, n_lit, n_a, n_c, n_s, n_b, n_m, n_g, n_w, n_n, rk_X2_combined]) | (refine ⟨fun _ => ?_, fun _ => ?_⟩ <;> try (exfalso; omega)) | fail)
    exact hP
  · rw [show c = 5 by omega] at hP
    repeat' (first | ((with_reducible refine pp_go (pc := 32) (seg := sg_X2_combined_32) hh_X2_combined sk_X2_combined_32 ?_); simp (disch := omega) only [sg_X2_combined_32, sw_c, sw_n, sx, sf_4, sv_i, sv_j, sv_r, sv_q1, sv_q0, sv_1i, sv_1r, sv_2, sl_i, sl_j, sl_a, sl_v, sp_p, sp_f1, sp_f2, sc_w, sc_c, sc_r, sc_f, sc_a, sc_k, pp_in, pp_al, ↓reduceIte, Nat.reduceEqDiff, Nat.reduceLT, Nat.reduceLeDiff, Nat.reduceAdd, Nat.reduceSub, Nat.reduceMul, List.length_cons, List.length_nil, true_and, and_true, and_self, true_implies, eq_self, not_true_eq_false, not_false_eq_true, false_implies, implies_true, false_and, and_false, Bool.false_eq_true, or_true, true_or, or_false, false_or, Classical.not_not, Nat.le_refl, Nat.lt_irrefl, Bool.true_eq_false, n_lit, n_a, n_c, n_s, n_b, n_m, n_g, n_w, n_n, rk_X2_combined]) | (refine ⟨fun _ => ?_, fun _ => ?_⟩ <;> try (exfalso; omega)) | fail)
    exact hP
  · rw [show c = 4 by omega] at hP
    repeat' (first | ((with_reducible refine pp_go (pc := 28) (seg := sg_X2_combined_28) hh_X2_combined sk_X2_combined_28 ?_); simp (disch := omega) only [sg_X2_combined_28, sw_c, sw_n, sx, sf_4, sv_i, sv_j, sv_r, sv_q1, sv_q0, sv_1i, sv_1r, sv_2, sl_i, sl_j, sl_a, sl_v, sp_p, sp_f1, sp_f2, sc_w, sc_c, sc_r, sc_f, sc_a, sc_k, pp_in, pp_al, ↓reduceIte, Nat.reduceEqDiff, Nat.reduceLT, Nat.reduceLeDiff, Nat.reduceAdd, Nat.reduceSub, Nat.reduceMul, List.length_cons, List.length_nil, true_and, and_true, and_self, true_implies, eq_self, not_true_eq_false, not_false_eq_true, false_implies, implies_true, false_and, and_false, Bool.false_eq_true, or_true, true_or, or_false, false_or, Classical.not_not, Nat.le_refl, Nat.lt_irrefl, Bool.true_eq_false, n_lit, n_a, n_c, n_s, n_b, n_m, n_g, n_w, n_n, rk_X2_combined]) | (refine ⟨fun _ => ?_, fun _ => ?_⟩ <;> try (exfalso; omega)) | fail)
    exact hP
  · rw [show c = 7 by omega] at hP
    by_cases z : b = 0
    · subst z
      repeat' (first | ((with_reducible refine pp_go (pc := 40) (seg := sg_X2_combined_40) hh_X2_combined sk_X2_combined_40 ?_); simp (disch := omega) only [sg_X2_combined_40, sw_c, sw_n, sx, sf_4, sv_i, sv_j, sv_r, sv_q1, sv_q0, sv_1i, sv_1r, sv_2, sl_i, sl_j, sl_a, sl_v, sp_p, sp_f1, sp_f2, sc_w, sc_c, sc_r, sc_f, sc_a, sc_k, pp_in, pp_al, ↓reduceIte, Nat.reduceEqDiff, Nat.reduceLT, Nat.reduceLeDiff, Nat.reduceAdd, Nat.reduceSub, Nat.reduceMul, List.length_cons, List.length_nil, true_and, and_true, and_self, true_implies, eq_self, not_true_eq_false, not_false_eq_true, false_implies, implies_true, false_and, and_false, Bool.false_eq_true, or_true, true_or, or_false, false_or, Classical.not_not, Nat.le_refl, Nat.lt_irrefl, Bool.true_eq_false, n_lit, n_a, n_c, n_s, n_b, n_m, n_g, n_w, n_n, rk_X2_combined]) | ((with_reducible refine pp_go (pc := 48) (seg := sg_X2_combined_48) hh_X2_combined sk_X2_combined_48 ?_); simp (disch := omega) only [sg_X2_combined_48, sw_c, sw_n, sx, sf_4, sv_i, sv_j, sv_r, sv_q1, sv_q0, sv_1i, sv_1r, sv_2, sl_i, sl_j, sl_a, sl_v, sp_p, sp_f1, sp_f2, sc_w, sc_c, sc_r, sc_f, sc_a, sc_k, pp_in, pp_al, ↓reduceIte, Nat.reduceEqDiff, Nat.reduceLT, Nat.reduceLeDiff, Nat.reduceAdd, Nat.reduceSub, Nat.reduceMul, List.length_cons, List.length_nil, true_and, and_true, and_self, true_implies, eq_self, not_true_eq_false, not_false_eq_true, false_implies, implies_true, false_and, and_false, Bool.false_eq_true, or_true, true_or, or_false, false_or, Classical.not_not, Nat.le_refl, Nat.lt_irrefl, Bool.true_eq_false, n_lit, n_a, n_c, n_s, n_b, n_m, n_g, n_w, n_n, rk_X2_combined]) | ((with_reducible refine pp_go (pc := 51) (seg := sg_X2_combined_51) hh_X2_combined sk_X2_combined_51 ?_); simp (disch := omega) only [sg_X2_combined_51, sw_c, sw_n, sx, sf_4, sv_i, sv_j, sv_r, sv_q1, sv_q0, sv_1i, sv_1r, sv_2, sl_i, sl_j, sl_a, sl_v, sp_p, sp_f1, sp_f2, sc_w, sc_c, sc_r, sc_f, sc_a, sc_k, pp_in, pp_al, ↓reduceIte, Nat.reduceEqDiff, Nat.reduceLT, Nat.reduceLeDiff, Nat.reduceAdd, Nat.reduceSub, Nat.reduceMul, List.length_cons, List.length_nil, true_and, and_true, and_self, true_implies, eq_self, not_true_eq_false, not_false_eq_true, false_implies, implies_true, false_and, and_false, Bool.false_eq_true, or_true, true_or, or_false, false_or, Classical.not_not, Nat.le_refl, Nat.lt_irrefl, Bool.true_eq_false, n_lit, n_a, n_c, n_s, n_b, n_m, n_g, n_w, n_n, rk_X2_combined]) | (refine ⟨fun _ => ?_, fun _ => ?_⟩ <;> try (exfalso; omega)) | fail)
      exact hP
    · have z' : ¬ b = Int32.ofNat 0 := z
      repeat' (first | ((with_reducible refine pp_go (pc := 40) (seg := sg_X2_combined_40) hh_X2_combined sk_X2_combined_40 ?_); simp (disch := omega) only [sg_X2_combined_40, sw_c, sw_n, sx, sf_4, sv_i, sv_j, sv_r, sv_q1, sv_q0, sv_1i, sv_1r, sv_2, sl_i, sl_j, sl_a, sl_v, sp_p, sp_f1, sp_f2, sc_w, sc_c, sc_r, sc_f, sc_a, sc_k, pp_in, pp_al, ↓reduceIte, Nat.reduceEqDiff, Nat.reduceLT, Nat.reduceLeDiff, Nat.reduceAdd, Nat.reduceSub, Nat.reduceMul, List.length_cons, List.length_nil, true_and, and_true, and_self, true_implies, eq_self, not_true_eq_false, not_false_eq_true, false_implies, implies_true, false_and, and_false, Bool.false_eq_true, or_true, true_or, or_false, false_or, Classical.not_not, Nat.le_refl, Nat.lt_irrefl, Bool.true_eq_false, n_lit, n_a, n_c, n_s, n_b, n_m, n_g, n_w, n_n, rk_X2_combined, z']) | ((with_reducible refine pp_go (pc := 48) (seg := sg_X2_combined_48) hh_X2_combined sk_X2_combined_48 ?_); simp (disch := omega) only [sg_X2_combined_48, sw_c, sw_n, sx, sf_4, sv_i, sv_j, sv_r, sv_q1, sv_q0, sv_1i, sv_1r, sv_2, sl_i, sl_j, sl_a, sl_v, sp_p, sp_f1, sp_f2, sc_w, sc_c, sc_r, sc_f, sc_a, sc_k, pp_in, pp_al, ↓reduceIte, Nat.reduceEqDiff, Nat.reduceLT, Nat.reduceLeDiff, Nat.reduceAdd, Nat.reduceSub, Nat.reduceMul, List.length_cons, List.length_nil, true_and, and_true, and_self, true_implies, eq_self, not_true_eq_false, not_false_eq_true, false_implies, implies_true, false_and, and_false, Bool.false_eq_true, or_true, true_or, or_false, false_or, Classical.not_not, Nat.le_refl, Nat.lt_irrefl, Bool.true_eq_false, n_lit, n_a, n_c, n_s, n_b, n_m, n_g, n_w, n_n, rk_X2_combined, z']) | ((with_reducible refine pp_go (pc := 51) (seg := sg_X2_combined_51) hh_X2_combined sk_X2_combined_51 ?_); simp (disch := omega) only [sg_X2_combined_51, sw_c, sw_n, sx, sf_4, sv_i, sv_j, sv_r, sv_q1, sv_q0, sv_1i, sv_1r, sv_2, sl_i, sl_j, sl_a, sl_v, sp_p, sp_f1, sp_f2, sc_w, sc_c, sc_r, sc_f, sc_a, sc_k, pp_in, pp_al, ↓reduceIte, Nat.reduceEqDiff, Nat.reduceLT, Nat.reduceLeDiff, Nat.reduceAdd, Nat.reduceSub, Nat.reduceMul, List.length_cons, List.length_nil, true_and, and_true, and_self, true_implies, eq_self, not_true_eq_false, not_false_eq_true, false_implies, implies_true, false_and, and_false, Bool.false_eq_true, or_true, true_or, or_false, false_or, Classical.not_not, Nat.le_refl, Nat.lt_irrefl, Bool.true_eq_false, n_lit, n_a, n_c, n_s, n_b, n_m, n_g, n_w, n_n, rk_X2_combined, z']) | (refine ⟨fun _ => ?_, fun _ => ?_⟩ <;> try (exfalso; omega)) | fail)
      simp only [jn] at hP
      rw [if_neg z] at hP
      exact hP
theorem c_operand {c x y z : Nat} (hc : c = 1 ∨ c = 2 ∨ c = 3 ∨ (100 ≤ c ∧ c < 10100)) (hP : P (.inl (some (.int (if 100 ≤ c then Int32.ofNat (c - 100) else fcts x y z c)))) w) : pp_MW g (h + 1) mi_X2_operand [.int (encC c), .int (Int32.ofNat x), .int (Int32.ofNat y), .int (Int32.ofNat z)] w P := by
  by_cases c1 : c < 100
  · rw [if_neg (by omega)] at hP
    rw [encC_op c1]
    refine pp_st0 [(0, .int (Int32.ofInt (-(c : Int)))), (1, .int (Int32.ofNat x)), (2, .int (Int32.ofNat y)), (3, .int (Int32.ofNat z))] ok_X2_operand rfl (Nat.le_of_ble_eq_true rfl) rfl ?_
    refine pp_go rfl sk_X2_operand_0 ?_
    simp (disch := omega) only [sg_X2_operand_0, sw_c, sw_n, sx, sf_4, sv_i, sv_j, sv_r, sv_q1, sv_q0, sv_1i, sv_1r, sv_2, sl_i, sl_j, sl_a, sl_v, sp_p, sp_f1, sp_f2, sc_w, sc_c, sc_r, sc_f, sc_a, sc_k, pp_in, pp_al, ↓reduceIte, Nat.reduceEqDiff, Nat.reduceLT, Nat.reduceLeDiff, Nat.reduceAdd, Nat.reduceSub, Nat.reduceMul, List.length_cons, List.length_nil, true_and, and_true, and_self, true_implies, eq_self, not_true_eq_false, not_false_eq_true, false_implies, implies_true, false_and, and_false, Bool.false_eq_true, or_true, true_or, or_false, false_or, Classical.not_not, Nat.le_refl, Nat.lt_irrefl, Bool.true_eq_false, n_lit, n_a, n_c, n_s, n_b, n_m, n_g, n_w, n_n, rk_X2_operand, sc_s, n_i]
    refine ⟨⟨fun q => ?_, fun q => ?_, fun q => ?_⟩, fun q => ?_⟩
    · rw [show c = 3 by omega] at hP
      refine pp_go rfl sk_X2_operand_32 ?_
      simp (disch := omega) only [sg_X2_operand_32, sw_c, sw_n, sx, sf_4, sv_i, sv_j, sv_r, sv_q1, sv_q0, sv_1i, sv_1r, sv_2, sl_i, sl_j, sl_a, sl_v, sp_p, sp_f1, sp_f2, sc_w, sc_c, sc_r, sc_f, sc_a, sc_k, pp_in, pp_al, ↓reduceIte, Nat.reduceEqDiff, Nat.reduceLT, Nat.reduceLeDiff, Nat.reduceAdd, Nat.reduceSub, Nat.reduceMul, List.length_cons, List.length_nil, true_and, and_true, and_self, true_implies, eq_self, not_true_eq_false, not_false_eq_true, false_implies, implies_true, false_and, and_false, Bool.false_eq_true, or_true, true_or, or_false, false_or, Classical.not_not, Nat.le_refl, Nat.lt_irrefl, Bool.true_eq_false, n_lit, n_a, n_c, n_s, n_b, n_m, n_g, n_w, n_n, rk_X2_operand]
      exact hP
    · rw [show c = 2 by omega] at hP
      refine pp_go rfl sk_X2_operand_30 ?_
      simp (disch := omega) only [sg_X2_operand_30, sw_c, sw_n, sx, sf_4, sv_i, sv_j, sv_r, sv_q1, sv_q0, sv_1i, sv_1r, sv_2, sl_i, sl_j, sl_a, sl_v, sp_p, sp_f1, sp_f2, sc_w, sc_c, sc_r, sc_f, sc_a, sc_k, pp_in, pp_al, ↓reduceIte, Nat.reduceEqDiff, Nat.reduceLT, Nat.reduceLeDiff, Nat.reduceAdd, Nat.reduceSub, Nat.reduceMul, List.length_cons, List.length_nil, true_and, and_true, and_self, true_implies, eq_self, not_true_eq_false, not_false_eq_true, false_implies, implies_true, false_and, and_false, Bool.false_eq_true, or_true, true_or, or_false, false_or, Classical.not_not, Nat.le_refl, Nat.lt_irrefl, Bool.true_eq_false, n_lit, n_a, n_c, n_s, n_b, n_m, n_g, n_w, n_n, rk_X2_operand]
      exact hP
    · rw [show c = 1 by omega] at hP
      refine pp_go rfl sk_X2_operand_28 ?_
      simp (disch := omega) only [sg_X2_operand_28, sw_c, sw_n, sx, sf_4, sv_i, sv_j, sv_r, sv_q1, sv_q0, sv_1i, sv_1r, sv_2, sl_i, sl_j, sl_a, sl_v, sp_p, sp_f1, sp_f2, sc_w, sc_c, sc_r, sc_f, sc_a, sc_k, pp_in, pp_al, ↓reduceIte, Nat.reduceEqDiff, Nat.reduceLT, Nat.reduceLeDiff, Nat.reduceAdd, Nat.reduceSub, Nat.reduceMul, List.length_cons, List.length_nil, true_and, and_true, and_self, true_implies, eq_self, not_true_eq_false, not_false_eq_true, false_implies, implies_true, false_and, and_false, Bool.false_eq_true, or_true, true_or, or_false, false_or, Classical.not_not, Nat.le_refl, Nat.lt_irrefl, Bool.true_eq_false, n_lit, n_a, n_c, n_s, n_b, n_m, n_g, n_w, n_n, rk_X2_operand]
      exact hP
    · omega
  · rw [if_pos (by omega)] at hP
    rw [encC_no c1]
    refine pp_st0 [(0, .int (Int32.ofNat (c - 100))), (1, .int (Int32.ofNat x)), (2, .int (Int32.ofNat y)), (3, .int (Int32.ofNat z))] ok_X2_operand rfl (Nat.le_of_ble_eq_true rfl) rfl ?_
    refine pp_go rfl sk_X2_operand_0 ?_
    simp (disch := omega) only [sg_X2_operand_0, sw_c, sw_n, sx, sf_4, sv_i, sv_j, sv_r, sv_q1, sv_q0, sv_1i, sv_1r, sv_2, sl_i, sl_j, sl_a, sl_v, sp_p, sp_f1, sp_f2, sc_w, sc_c, sc_r, sc_f, sc_a, sc_k, pp_in, pp_al, ↓reduceIte, Nat.reduceEqDiff, Nat.reduceLT, Nat.reduceLeDiff, Nat.reduceAdd, Nat.reduceSub, Nat.reduceMul, List.length_cons, List.length_nil, true_and, and_true, and_self, true_implies, eq_self, not_true_eq_false, not_false_eq_true, false_implies, implies_true, false_and, and_false, Bool.false_eq_true, or_true, true_or, or_false, false_or, Classical.not_not, Nat.le_refl, Nat.lt_irrefl, Bool.true_eq_false, n_lit, n_a, n_c, n_s, n_b, n_m, n_g, n_w, n_n, rk_X2_operand, sc_s, n_i]
    refine ⟨⟨fun q => ?_, fun q => ?_, fun q => ?_⟩, fun q => ?_⟩
    · omega
    · omega
    · omega
    · refine pp_go rfl sk_X2_operand_34 ?_
      simp (disch := omega) only [sg_X2_operand_34, sw_c, sw_n, sx, sf_4, sv_i, sv_j, sv_r, sv_q1, sv_q0, sv_1i, sv_1r, sv_2, sl_i, sl_j, sl_a, sl_v, sp_p, sp_f1, sp_f2, sc_w, sc_c, sc_r, sc_f, sc_a, sc_k, pp_in, pp_al, ↓reduceIte, Nat.reduceEqDiff, Nat.reduceLT, Nat.reduceLeDiff, Nat.reduceAdd, Nat.reduceSub, Nat.reduceMul, List.length_cons, List.length_nil, true_and, and_true, and_self, true_implies, eq_self, not_true_eq_false, not_false_eq_true, false_implies, implies_true, false_and, and_false, Bool.false_eq_true, or_true, true_or, or_false, false_or, Classical.not_not, Nat.le_refl, Nat.lt_irrefl, Bool.true_eq_false, n_lit, n_a, n_c, n_s, n_b, n_m, n_g, n_w, n_n, rk_X2_operand]
      exact hP
theorem n_m4 : (-Int32.ofNat 4).toInt = -4 := by decide
theorem c_ev_l {x y z N : Nat} (hN : N ≤ 700) (hC : sC sh R) : ∀ (l : List Nat) (k : Nat) (s : List Int32) (I : Nat → Nat → Int32) (L : List (Nat × Value)), (∀ q ∈ [(0, Value.ref 99), (1, .int (Int32.ofNat x)), (2, .int (Int32.ofNat y)), (3, .int (Int32.ofNat z)), (4, .int (Int32.ofNat s.length)), (5, .int (Int32.ofNat k))], q ∈ L) → k + l.length = N → (∀ i, i < l.length → I 100 (k + i) = encC (l.getD i 0)) → I 99 1 = Int32.ofNat N → pS (I 101) s → okc l s.length → s.length ≤ 16 →
    (∀ I', (∀ a, a ≠ 101 → I' a = I a) → P (.inl (some (.int ((ev (fcts x y z) l s).headD 0)))) (sh, I', J, R)) → pp_N g (h + 1) mi_X2_evaluate P 6 L [] (sh, I, J, R) := by
  intro l
  induction l with
  | nil =>
    intro k s I L hL hk hd hl hs ho hn hP
    refine pp_N.sub ?_ hL
    have hP := hP I (fun _ _ => rfl)
    rw [okc] at ho
    rw [List.length_nil] at hk
    obtain ⟨v, rfl⟩ : ∃ v, s = [v] := by
      match s, ho with
      | [v], _ => exact ⟨v, rfl⟩
    simp only [pS, List.length_nil] at hs
    have hx : I 101 0 = v := hs.1
    simp only [ev, List.headD_cons] at hP
    have q1 : N ≤ k := by omega
    refine pp_go rfl sk_X2_evaluate_6 ?_
    simp (disch := omega) only [sg_X2_evaluate_6, sw_c, sw_n, sx, sf_4, sv_i, sv_j, sv_r, sv_q1, sv_q0, sv_1i, sv_1r, sv_2, sl_i, sl_j, sl_a, sl_v, sp_p, sp_f1, sp_f2, sc_w, sc_c, sc_r, sc_f, sc_a, sc_k, pp_in, pp_al, ↓reduceIte, Nat.reduceEqDiff, Nat.reduceLT, Nat.reduceLeDiff, Nat.reduceAdd, Nat.reduceSub, Nat.reduceMul, List.length_cons, List.length_nil, true_and, and_true, and_self, true_implies, eq_self, not_true_eq_false, not_false_eq_true, false_implies, implies_true, false_and, and_false, Bool.false_eq_true, or_true, true_or, or_false, false_or, Classical.not_not, Nat.le_refl, Nat.lt_irrefl, Bool.true_eq_false, n_lit, n_a, n_c, n_s, n_b, n_m, n_g, n_w, n_n, rk_X2_evaluate, hC, hl, q1]
    refine pp_go rfl sk_X2_evaluate_124 ?_
    simp (disch := omega) only [sg_X2_evaluate_124, sw_c, sw_n, sx, sf_4, sv_i, sv_j, sv_r, sv_q1, sv_q0, sv_1i, sv_1r, sv_2, sl_i, sl_j, sl_a, sl_v, sp_p, sp_f1, sp_f2, sc_w, sc_c, sc_r, sc_f, sc_a, sc_k, pp_in, pp_al, ↓reduceIte, Nat.reduceEqDiff, Nat.reduceLT, Nat.reduceLeDiff, Nat.reduceAdd, Nat.reduceSub, Nat.reduceMul, List.length_cons, List.length_nil, true_and, and_true, and_self, true_implies, eq_self, not_true_eq_false, not_false_eq_true, false_implies, implies_true, false_and, and_false, Bool.false_eq_true, or_true, true_or, or_false, false_or, Classical.not_not, Nat.le_refl, Nat.lt_irrefl, Bool.true_eq_false, n_lit, n_a, n_c, n_s, n_b, n_m, n_g, n_w, n_n, rk_X2_evaluate, hC, hx]
    exact hP
  | cons c l ih =>
    intro k s I L hL hk hd hl hs ho hn hP
    refine pp_N.sub ?_ hL
    rw [List.length_cons] at hk
    have hc : I 100 k = encC c := hd 0 (by simp)
    have hd' : ∀ i, i < l.length → I 100 (k + 1 + i) = encC (l.getD i 0) := fun i hi => by
      have := hd (i + 1) (by rw [List.length_cons]; omega)
      rw [show k + 1 + i = k + (i + 1) by omega, this]
      rfl
    have q1 : ¬ N ≤ k := by omega
    have q0 : ¬ 700 ≤ k := by omega
    rw [okc] at ho
    by_cases op : 4 ≤ c ∧ c ≤ 7
    · rw [if_pos op] at ho
      have hen : ¬ -Int32.ofNat 4 < encC c := by
        rw [encC_op (by omega), Int32.lt_iff_toInt_lt, n_i.2.2.1 _ (by omega) (by omega), n_m4]
        omega
      match s, hs, ho, hn, hP with
      | b :: a :: s, hs, ho, hn, hP =>
        simp only [pS, List.length_cons] at hs ho hn
        obtain ⟨hb, ha, hs⟩ := hs
        simp only [ev, if_pos op] at hP
        have q2 : ¬ s.length + 1 + 1 < 2 := by omega
        have ha' : I 101 (s.length + 1 - 1) = a := by rw [Nat.add_sub_cancel]; exact ha
        have hb' : I 101 (s.length + 1 + 1 - 1) = b := by rw [Nat.add_sub_cancel]; exact hb
        refine pp_go rfl sk_X2_evaluate_6 ?_
        simp (disch := omega) only [sg_X2_evaluate_6, sw_c, sw_n, sx, sf_4, sv_i, sv_j, sv_r, sv_q1, sv_q0, sv_1i, sv_1r, sv_2, sl_i, sl_j, sl_a, sl_v, sp_p, sp_f1, sp_f2, sc_w, sc_c, sc_r, sc_f, sc_a, sc_k, pp_in, pp_al, ↓reduceIte, Nat.reduceEqDiff, Nat.reduceLT, Nat.reduceLeDiff, Nat.reduceAdd, Nat.reduceSub, Nat.reduceMul, List.length_cons, List.length_nil, true_and, and_true, and_self, true_implies, eq_self, not_true_eq_false, not_false_eq_true, false_implies, implies_true, false_and, and_false, Bool.false_eq_true, or_true, true_or, or_false, false_or, Classical.not_not, Nat.le_refl, Nat.lt_irrefl, Bool.true_eq_false, n_lit, n_a, n_c, n_s, n_b, n_m, n_g, n_w, n_n, rk_X2_evaluate, hC, hl, hc, q1, q0, hen, q2, List.length_cons, Nat.add_sub_cancel, ha, hb]
        refine c_combined op ?_
        simp (disch := omega) only [sw_c, sw_n, sx, sf_4, sv_i, sv_j, sv_r, sv_q1, sv_q0, sv_1i, sv_1r, sv_2, sl_i, sl_j, sl_a, sl_v, sp_p, sp_f1, sp_f2, sc_w, sc_c, sc_r, sc_f, sc_a, sc_k, pp_in, pp_al, ↓reduceIte, Nat.reduceEqDiff, Nat.reduceLT, Nat.reduceLeDiff, Nat.reduceAdd, Nat.reduceSub, Nat.reduceMul, List.length_cons, List.length_nil, true_and, and_true, and_self, true_implies, eq_self, not_true_eq_false, not_false_eq_true, false_implies, implies_true, false_and, and_false, Bool.false_eq_true, or_true, true_or, or_false, false_or, Classical.not_not, Nat.le_refl, Nat.lt_irrefl, Bool.true_eq_false, n_lit, n_a, n_c, n_s, n_b, n_m, n_g, n_w, n_n, rk_X2_evaluate, hC]
        refine pp_go rfl sk_X2_evaluate_118 ?_
        simp (disch := omega) only [sg_X2_evaluate_118, sw_c, sw_n, sx, sf_4, sv_i, sv_j, sv_r, sv_q1, sv_q0, sv_1i, sv_1r, sv_2, sl_i, sl_j, sl_a, sl_v, sp_p, sp_f1, sp_f2, sc_w, sc_c, sc_r, sc_f, sc_a, sc_k, pp_in, pp_al, ↓reduceIte, Nat.reduceEqDiff, Nat.reduceLT, Nat.reduceLeDiff, Nat.reduceAdd, Nat.reduceSub, Nat.reduceMul, List.length_cons, List.length_nil, true_and, and_true, and_self, true_implies, eq_self, not_true_eq_false, not_false_eq_true, false_implies, implies_true, false_and, and_false, Bool.false_eq_true, or_true, true_or, or_false, false_or, Classical.not_not, Nat.le_refl, Nat.lt_irrefl, Bool.true_eq_false, n_lit, n_a, n_c, n_s, n_b, n_m, n_g, n_w, n_n, rk_X2_evaluate]
        refine ih (k + 1) (jn c a b :: s) _ _ (by simp) (by omega) hd' hl ⟨?_, pS_up (Nat.le_refl _) hs⟩ ho.2 (by simp only [List.length_cons]; omega) (fun I' hI' => hP I' (fun a ha => (hI' a ha).trans (pp_s_ne _ _ ha)))
        simp only [n_m, if_true]
    · rw [if_neg op] at ho
      have hen : -Int32.ofNat 4 < encC c := by
        by_cases c1 : c < 100
        · rw [encC_op c1, Int32.lt_iff_toInt_lt, n_i.2.2.1 _ (by omega) (by omega), n_m4]
          omega
        · rw [encC_no c1, Int32.lt_iff_toInt_lt, n_i.2.2.2 _ (by omega), n_m4]
          omega
      have hen' : ¬ encC c ≤ -Int32.ofNat 4 := Int32.not_le.mpr hen
      have q2 : ¬ 16 ≤ s.length := by omega
      simp only [ev, if_neg op] at hP
      refine pp_go rfl sk_X2_evaluate_6 ?_
      simp (disch := omega) only [sg_X2_evaluate_6, sw_c, sw_n, sx, sf_4, sv_i, sv_j, sv_r, sv_q1, sv_q0, sv_1i, sv_1r, sv_2, sl_i, sl_j, sl_a, sl_v, sp_p, sp_f1, sp_f2, sc_w, sc_c, sc_r, sc_f, sc_a, sc_k, pp_in, pp_al, ↓reduceIte, Nat.reduceEqDiff, Nat.reduceLT, Nat.reduceLeDiff, Nat.reduceAdd, Nat.reduceSub, Nat.reduceMul, List.length_cons, List.length_nil, true_and, and_true, and_self, true_implies, eq_self, not_true_eq_false, not_false_eq_true, false_implies, implies_true, false_and, and_false, Bool.false_eq_true, or_true, true_or, or_false, false_or, Classical.not_not, Nat.le_refl, Nat.lt_irrefl, Bool.true_eq_false, n_lit, n_a, n_c, n_s, n_b, n_m, n_g, n_w, n_n, rk_X2_evaluate, hC, hl, hc, q1, q0, hen]
      refine pp_go rfl sk_X2_evaluate_83 ?_
      simp (disch := omega) only [sg_X2_evaluate_83, sw_c, sw_n, sx, sf_4, sv_i, sv_j, sv_r, sv_q1, sv_q0, sv_1i, sv_1r, sv_2, sl_i, sl_j, sl_a, sl_v, sp_p, sp_f1, sp_f2, sc_w, sc_c, sc_r, sc_f, sc_a, sc_k, pp_in, pp_al, ↓reduceIte, Nat.reduceEqDiff, Nat.reduceLT, Nat.reduceLeDiff, Nat.reduceAdd, Nat.reduceSub, Nat.reduceMul, List.length_cons, List.length_nil, true_and, and_true, and_self, true_implies, eq_self, not_true_eq_false, not_false_eq_true, false_implies, implies_true, false_and, and_false, Bool.false_eq_true, or_true, true_or, or_false, false_or, Classical.not_not, Nat.le_refl, Nat.lt_irrefl, Bool.true_eq_false, n_lit, n_a, n_c, n_s, n_b, n_m, n_g, n_w, n_n, rk_X2_evaluate, hC, hen', q2]
      refine c_operand (x := x) (y := y) (z := z) ho.1 ?_
      simp (disch := omega) only [sw_c, sw_n, sx, sf_4, sv_i, sv_j, sv_r, sv_q1, sv_q0, sv_1i, sv_1r, sv_2, sl_i, sl_j, sl_a, sl_v, sp_p, sp_f1, sp_f2, sc_w, sc_c, sc_r, sc_f, sc_a, sc_k, pp_in, pp_al, ↓reduceIte, Nat.reduceEqDiff, Nat.reduceLT, Nat.reduceLeDiff, Nat.reduceAdd, Nat.reduceSub, Nat.reduceMul, List.length_cons, List.length_nil, true_and, and_true, and_self, true_implies, eq_self, not_true_eq_false, not_false_eq_true, false_implies, implies_true, false_and, and_false, Bool.false_eq_true, or_true, true_or, or_false, false_or, Classical.not_not, Nat.le_refl, Nat.lt_irrefl, Bool.true_eq_false, n_lit, n_a, n_c, n_s, n_b, n_m, n_g, n_w, n_n, rk_X2_evaluate, hC]
      refine pp_go rfl sk_X2_evaluate_118 ?_
      simp (disch := omega) only [sg_X2_evaluate_118, sw_c, sw_n, sx, sf_4, sv_i, sv_j, sv_r, sv_q1, sv_q0, sv_1i, sv_1r, sv_2, sl_i, sl_j, sl_a, sl_v, sp_p, sp_f1, sp_f2, sc_w, sc_c, sc_r, sc_f, sc_a, sc_k, pp_in, pp_al, ↓reduceIte, Nat.reduceEqDiff, Nat.reduceLT, Nat.reduceLeDiff, Nat.reduceAdd, Nat.reduceSub, Nat.reduceMul, List.length_cons, List.length_nil, true_and, and_true, and_self, true_implies, eq_self, not_true_eq_false, not_false_eq_true, false_implies, implies_true, false_and, and_false, Bool.false_eq_true, or_true, true_or, or_false, false_or, Classical.not_not, Nat.le_refl, Nat.lt_irrefl, Bool.true_eq_false, n_lit, n_a, n_c, n_s, n_b, n_m, n_g, n_w, n_n, rk_X2_evaluate]
      refine ih (k + 1) ((if 100 ≤ c then Int32.ofNat (c - 100) else fcts x y z c) :: s) _ _ (by simp) (by omega) hd' hl ⟨?_, pS_up (Nat.le_refl _) hs⟩ ho.2.2 (by simp only [List.length_cons]; omega) (fun I' hI' => hP I' (fun a ha => (hI' a ha).trans (pp_s_ne _ _ ha)))
      simp only [n_m, if_true]
theorem c_evaluate {x y z : Nat} (hC : sC sh R) (hT : cT I T) (wT : wfT T) (hP : ∀ I', (∀ a, a ≠ 101 → I' a = I a) → P (.inl (some (.int ((ev (fcts x y z) T.2.2.2 []).headD 0)))) (sh, I', J, R)) : pp_MW g (h + 2) mi_X2_evaluate [.ref 99, .int (Int32.ofNat x), .int (Int32.ofNat y), .int (Int32.ofNat z)] (sh, I, J, R) P := by
  refine pp_st0 [(0, .ref 99), (1, .int (Int32.ofNat x)), (2, .int (Int32.ofNat y)), (3, .int (Int32.ofNat z))] ok_X2_evaluate rfl (Nat.le_of_ble_eq_true rfl) rfl ?_
  refine pp_go rfl sk_X2_evaluate_0 ?_
  simp (disch := omega) only [sg_X2_evaluate_0, sw_c, sw_n, sx, sf_4, sv_i, sv_j, sv_r, sv_q1, sv_q0, sv_1i, sv_1r, sv_2, sl_i, sl_j, sl_a, sl_v, sp_p, sp_f1, sp_f2, sc_w, sc_c, sc_r, sc_f, sc_a, sc_k, pp_in, pp_al, ↓reduceIte, Nat.reduceEqDiff, Nat.reduceLT, Nat.reduceLeDiff, Nat.reduceAdd, Nat.reduceSub, Nat.reduceMul, List.length_cons, List.length_nil, true_and, and_true, and_self, true_implies, eq_self, not_true_eq_false, not_false_eq_true, false_implies, implies_true, false_and, and_false, Bool.false_eq_true, or_true, true_or, or_false, false_or, Classical.not_not, Nat.le_refl, Nat.lt_irrefl, Bool.true_eq_false, n_lit, n_a, n_c, n_s, n_b, n_m, n_g, n_w, n_n, rk_X2_evaluate]
  refine c_ev_l (N := T.2.2.2.length) wT.2.2.2.2.2.2.2.2.2.2.2.2.2.2.1 hC T.2.2.2 0 [] I _ (by simp) (by simp) (fun i hi => ?_) hT.2.2.2.2.2.2.2.2.2.2.2.2.2.2.2.1 trivial wT.2.2.2.2.2.2.2.2.2.2.2.2.2.2.2 (by simp) hP
  rw [Nat.zero_add]
  exact hT.2.2.2.2.2.2.2.2.2.2.2.2.2.2.2.2 i hi
theorem c_wO_l {m d e : Nat} (hC : sC sh R) (hG : cG I J G) (hT : cT I T) (wG : wfL n G) (wT : wfT T) (hm : m < 8) (hd : d < 100000)
    (K : pp_N g (h + 4) mi_X0_weightOn P 94 [(0, .ref 112), (1, .int (Int32.ofNat m)), (2, .int (Int32.ofNat d)), (3, .int (Int32.ofNat e)), (4, .int (Int32.ofNat (pts T G m d (G.1 8)))), (5, .int (Int32.ofNat (prs T G m d (G.1 8))))] [] (sh, I, J, R)) :
    ∀ f p (L : List (Nat × Value)), (∀ q ∈ [(0, Value.ref 112), (1, .int (Int32.ofNat m)), (2, .int (Int32.ofNat d)), (3, .int (Int32.ofNat e)), (4, .int (Int32.ofNat (pts T G m d p))), (5, .int (Int32.ofNat (prs T G m d p))), (6, .int (Int32.ofNat p))], q ∈ L) → f + p = G.1 8 → pp_N g (h + 4) mi_X0_weightOn P 27 L [] (sh, I, J, R) := by
  intro f
  induction f with
  | zero =>
    intro p L hL hp
    have hp : p = G.1 8 := by omega
    subst hp
    refine pp_N.sub ?_ hL
    refine pp_go rfl sk_X0_weightOn_27 ?_
    simp (disch := omega) only [sg_X0_weightOn_27, sw_c, sw_n, sx, sf_4, sv_i, sv_j, sv_r, sv_q1, sv_q0, sv_1i, sv_1r, sv_2, sl_i, sl_j, sl_a, sl_v, sp_p, sp_f1, sp_f2, sc_w, sc_c, sc_r, sc_f, sc_a, sc_k, pp_in, pp_al, ↓reduceIte, Nat.reduceEqDiff, Nat.reduceLT, Nat.reduceLeDiff, Nat.reduceAdd, Nat.reduceSub, Nat.reduceMul, List.length_cons, List.length_nil, true_and, and_true, and_self, true_implies, eq_self, not_true_eq_false, not_false_eq_true, false_implies, implies_true, false_and, and_false, Bool.false_eq_true, or_true, true_or, or_false, false_or, Classical.not_not, Nat.le_refl, Nat.lt_irrefl, Bool.true_eq_false, n_lit, n_a, n_c, n_s, n_b, n_m, n_g, n_w, n_n, rk_X0_weightOn, hC, hG]
    exact pp_N.sub K (by simp)
  | succ f ih =>
    intro p L hL hp
    refine pp_N.sub ?_ hL
    have h1 : G.1 (17 + p) < 8 := wG.2.2.2.2.2.1 _ (by omega)
    have hv := vn_le T G p d wT
    have q1 : ¬ G.1 8 ≤ p := by omega
    refine pp_go rfl sk_X0_weightOn_27 ?_
    simp (disch := omega) only [sg_X0_weightOn_27, sw_c, sw_n, sx, sf_4, sv_i, sv_j, sv_r, sv_q1, sv_q0, sv_1i, sv_1r, sv_2, sl_i, sl_j, sl_a, sl_v, sp_p, sp_f1, sp_f2, sc_w, sc_c, sc_r, sc_f, sc_a, sc_k, pp_in, pp_al, ↓reduceIte, Nat.reduceEqDiff, Nat.reduceLT, Nat.reduceLeDiff, Nat.reduceAdd, Nat.reduceSub, Nat.reduceMul, List.length_cons, List.length_nil, true_and, and_true, and_self, true_implies, eq_self, not_true_eq_false, not_false_eq_true, false_implies, implies_true, false_and, and_false, Bool.false_eq_true, or_true, true_or, or_false, false_or, Classical.not_not, Nat.le_refl, Nat.lt_irrefl, Bool.true_eq_false, n_lit, n_a, n_c, n_s, n_b, n_m, n_g, n_w, n_n, rk_X0_weightOn, hC, hG, q1]
    refine ⟨fun q => ?_, fun q => ?_⟩
    · refine pp_go rfl sk_X0_weightOn_63 ?_
      simp (disch := omega) only [sg_X0_weightOn_63, sw_c, sw_n, sx, sf_4, sv_i, sv_j, sv_r, sv_q1, sv_q0, sv_1i, sv_1r, sv_2, sl_i, sl_j, sl_a, sl_v, sp_p, sp_f1, sp_f2, sc_w, sc_c, sc_r, sc_f, sc_a, sc_k, pp_in, pp_al, ↓reduceIte, Nat.reduceEqDiff, Nat.reduceLT, Nat.reduceLeDiff, Nat.reduceAdd, Nat.reduceSub, Nat.reduceMul, List.length_cons, List.length_nil, true_and, and_true, and_self, true_implies, eq_self, not_true_eq_false, not_false_eq_true, false_implies, implies_true, false_and, and_false, Bool.false_eq_true, or_true, true_or, or_false, false_or, Classical.not_not, Nat.le_refl, Nat.lt_irrefl, Bool.true_eq_false, n_lit, n_a, n_c, n_s, n_b, n_m, n_g, n_w, n_n, rk_X0_weightOn]
      refine pp_go rfl sk_X0_weightOn_64 ?_
      simp (disch := omega) only [sg_X0_weightOn_64, sw_c, sw_n, sx, sf_4, sv_i, sv_j, sv_r, sv_q1, sv_q0, sv_1i, sv_1r, sv_2, sl_i, sl_j, sl_a, sl_v, sp_p, sp_f1, sp_f2, sc_w, sc_c, sc_r, sc_f, sc_a, sc_k, pp_in, pp_al, ↓reduceIte, Nat.reduceEqDiff, Nat.reduceLT, Nat.reduceLeDiff, Nat.reduceAdd, Nat.reduceSub, Nat.reduceMul, List.length_cons, List.length_nil, true_and, and_true, and_self, true_implies, eq_self, not_true_eq_false, not_false_eq_true, false_implies, implies_true, false_and, and_false, Bool.false_eq_true, or_true, true_or, or_false, false_or, Classical.not_not, Nat.le_refl, Nat.lt_irrefl, Bool.true_eq_false, n_lit, n_a, n_c, n_s, n_b, n_m, n_g, n_w, n_n, rk_X0_weightOn]
      refine pp_go rfl sk_X0_weightOn_84 ?_
      simp (disch := omega) only [sg_X0_weightOn_84, sw_c, sw_n, sx, sf_4, sv_i, sv_j, sv_r, sv_q1, sv_q0, sv_1i, sv_1r, sv_2, sl_i, sl_j, sl_a, sl_v, sp_p, sp_f1, sp_f2, sc_w, sc_c, sc_r, sc_f, sc_a, sc_k, pp_in, pp_al, ↓reduceIte, Nat.reduceEqDiff, Nat.reduceLT, Nat.reduceLeDiff, Nat.reduceAdd, Nat.reduceSub, Nat.reduceMul, List.length_cons, List.length_nil, true_and, and_true, and_self, true_implies, eq_self, not_true_eq_false, not_false_eq_true, false_implies, implies_true, false_and, and_false, Bool.false_eq_true, or_true, true_or, or_false, false_or, Classical.not_not, Nat.le_refl, Nat.lt_irrefl, Bool.true_eq_false, n_lit, n_a, n_c, n_s, n_b, n_m, n_g, n_w, n_n, rk_X0_weightOn]
      refine pp_go rfl sk_X0_weightOn_85 ?_
      simp (disch := omega) only [sg_X0_weightOn_85, sw_c, sw_n, sx, sf_4, sv_i, sv_j, sv_r, sv_q1, sv_q0, sv_1i, sv_1r, sv_2, sl_i, sl_j, sl_a, sl_v, sp_p, sp_f1, sp_f2, sc_w, sc_c, sc_r, sc_f, sc_a, sc_k, pp_in, pp_al, ↓reduceIte, Nat.reduceEqDiff, Nat.reduceLT, Nat.reduceLeDiff, Nat.reduceAdd, Nat.reduceSub, Nat.reduceMul, List.length_cons, List.length_nil, true_and, and_true, and_self, true_implies, eq_self, not_true_eq_false, not_false_eq_true, false_implies, implies_true, false_and, and_false, Bool.false_eq_true, or_true, true_or, or_false, false_or, Classical.not_not, Nat.le_refl, Nat.lt_irrefl, Bool.true_eq_false, n_lit, n_a, n_c, n_s, n_b, n_m, n_g, n_w, n_n, rk_X0_weightOn]
      refine ih (p + 1) _ ?_ (by omega)
      rw [pts_s, prs_s, if_neg (by omega), if_neg q]
      simp
    · refine c_versionsOn hC hG hT wG wT (by omega) hd ?_
      simp (disch := omega) only [sw_c, sw_n, sx, sf_4, sv_i, sv_j, sv_r, sv_q1, sv_q0, sv_1i, sv_1r, sv_2, sl_i, sl_j, sl_a, sl_v, sp_p, sp_f1, sp_f2, sc_w, sc_c, sc_r, sc_f, sc_a, sc_k, pp_in, pp_al, ↓reduceIte, Nat.reduceEqDiff, Nat.reduceLT, Nat.reduceLeDiff, Nat.reduceAdd, Nat.reduceSub, Nat.reduceMul, List.length_cons, List.length_nil, true_and, and_true, and_self, true_implies, eq_self, not_true_eq_false, not_false_eq_true, false_implies, implies_true, false_and, and_false, Bool.false_eq_true, or_true, true_or, or_false, false_or, Classical.not_not, Nat.le_refl, Nat.lt_irrefl, Bool.true_eq_false, n_lit, n_a, n_c, n_s, n_b, n_m, n_g, n_w, n_n, rk_X0_weightOn]
      refine pp_go rfl sk_X0_weightOn_64 ?_
      simp (disch := omega) only [sg_X0_weightOn_64, sw_c, sw_n, sx, sf_4, sv_i, sv_j, sv_r, sv_q1, sv_q0, sv_1i, sv_1r, sv_2, sl_i, sl_j, sl_a, sl_v, sp_p, sp_f1, sp_f2, sc_w, sc_c, sc_r, sc_f, sc_a, sc_k, pp_in, pp_al, ↓reduceIte, Nat.reduceEqDiff, Nat.reduceLT, Nat.reduceLeDiff, Nat.reduceAdd, Nat.reduceSub, Nat.reduceMul, List.length_cons, List.length_nil, true_and, and_true, and_self, true_implies, eq_self, not_true_eq_false, not_false_eq_true, false_implies, implies_true, false_and, and_false, Bool.false_eq_true, or_true, true_or, or_false, false_or, Classical.not_not, Nat.le_refl, Nat.lt_irrefl, Bool.true_eq_false, n_lit, n_a, n_c, n_s, n_b, n_m, n_g, n_w, n_n, rk_X0_weightOn]
      refine ⟨fun q2 => ?_, fun q2 => ?_⟩
      · refine pp_go rfl sk_X0_weightOn_84 ?_
        simp (disch := omega) only [sg_X0_weightOn_84, sw_c, sw_n, sx, sf_4, sv_i, sv_j, sv_r, sv_q1, sv_q0, sv_1i, sv_1r, sv_2, sl_i, sl_j, sl_a, sl_v, sp_p, sp_f1, sp_f2, sc_w, sc_c, sc_r, sc_f, sc_a, sc_k, pp_in, pp_al, ↓reduceIte, Nat.reduceEqDiff, Nat.reduceLT, Nat.reduceLeDiff, Nat.reduceAdd, Nat.reduceSub, Nat.reduceMul, List.length_cons, List.length_nil, true_and, and_true, and_self, true_implies, eq_self, not_true_eq_false, not_false_eq_true, false_implies, implies_true, false_and, and_false, Bool.false_eq_true, or_true, true_or, or_false, false_or, Classical.not_not, Nat.le_refl, Nat.lt_irrefl, Bool.true_eq_false, n_lit, n_a, n_c, n_s, n_b, n_m, n_g, n_w, n_n, rk_X0_weightOn]
        refine pp_go rfl sk_X0_weightOn_85 ?_
        simp (disch := omega) only [sg_X0_weightOn_85, sw_c, sw_n, sx, sf_4, sv_i, sv_j, sv_r, sv_q1, sv_q0, sv_1i, sv_1r, sv_2, sl_i, sl_j, sl_a, sl_v, sp_p, sp_f1, sp_f2, sc_w, sc_c, sc_r, sc_f, sc_a, sc_k, pp_in, pp_al, ↓reduceIte, Nat.reduceEqDiff, Nat.reduceLT, Nat.reduceLeDiff, Nat.reduceAdd, Nat.reduceSub, Nat.reduceMul, List.length_cons, List.length_nil, true_and, and_true, and_self, true_implies, eq_self, not_true_eq_false, not_false_eq_true, false_implies, implies_true, false_and, and_false, Bool.false_eq_true, or_true, true_or, or_false, false_or, Classical.not_not, Nat.le_refl, Nat.lt_irrefl, Bool.true_eq_false, n_lit, n_a, n_c, n_s, n_b, n_m, n_g, n_w, n_n, rk_X0_weightOn]
        refine ih (p + 1) _ ?_ (by omega)
        rw [pts_s, prs_s, if_neg (by omega), if_pos q]
        simp
      · refine pp_go rfl sk_X0_weightOn_85 ?_
        simp (disch := omega) only [sg_X0_weightOn_85, sw_c, sw_n, sx, sf_4, sv_i, sv_j, sv_r, sv_q1, sv_q0, sv_1i, sv_1r, sv_2, sl_i, sl_j, sl_a, sl_v, sp_p, sp_f1, sp_f2, sc_w, sc_c, sc_r, sc_f, sc_a, sc_k, pp_in, pp_al, ↓reduceIte, Nat.reduceEqDiff, Nat.reduceLT, Nat.reduceLeDiff, Nat.reduceAdd, Nat.reduceSub, Nat.reduceMul, List.length_cons, List.length_nil, true_and, and_true, and_self, true_implies, eq_self, not_true_eq_false, not_false_eq_true, false_implies, implies_true, false_and, and_false, Bool.false_eq_true, or_true, true_or, or_false, false_or, Classical.not_not, Nat.le_refl, Nat.lt_irrefl, Bool.true_eq_false, n_lit, n_a, n_c, n_s, n_b, n_m, n_g, n_w, n_n, rk_X0_weightOn]
        refine ih (p + 1) _ ?_ (by omega)
        rw [pts_s, prs_s, if_pos (by omega), if_pos q]
        simp
theorem c_weightOn {m d : Nat} (hC : sC sh R) (hG : cG I J G) (hT : cT I T) (wG : wfL n G) (wT : wfT T) (hm : m < 8) (hd : d < 100000) (hP : ∀ I', (∀ a, a ≠ 101 → I' a = I a) → P (.inl (some (.int (Int32.ofNat (wt T G m d))))) (sh, I', J, R)) : pp_MW g (h + 5) mi_X0_weightOn [.ref 112, .int (Int32.ofNat m), .int (Int32.ofNat d)] (sh, I, J, R) P := by
  refine pp_st0 [(0, .ref 112), (1, .int (Int32.ofNat m)), (2, .int (Int32.ofNat d))] ok_X0_weightOn rfl (Nat.le_of_ble_eq_true rfl) rfl ?_
  have hj : G.1 (9 + m) ≤ 9999 := wG.2.2.2.2.1 _ hm
  unfold wt at hP
  by_cases c : d < G.1 (9 + m)
  · rw [if_pos c] at hP
    have q : ¬ Int32.ofNat 0 ≤ Int32.ofNat d - Int32.ofNat (G.1 (9 + m)) := by
      rw [n_sub, Int32.le_iff_toInt_le, n_i.2.2.1 _ (by omega) (by omega)]
      show ¬ (0 : Int) ≤ _
      omega
    refine pp_go rfl sk_X0_weightOn_0 ?_
    simp (disch := omega) only [sg_X0_weightOn_0, sw_c, sw_n, sx, sf_4, sv_i, sv_j, sv_r, sv_q1, sv_q0, sv_1i, sv_1r, sv_2, sl_i, sl_j, sl_a, sl_v, sp_p, sp_f1, sp_f2, sc_w, sc_c, sc_r, sc_f, sc_a, sc_k, pp_in, pp_al, ↓reduceIte, Nat.reduceEqDiff, Nat.reduceLT, Nat.reduceLeDiff, Nat.reduceAdd, Nat.reduceSub, Nat.reduceMul, List.length_cons, List.length_nil, true_and, and_true, and_self, true_implies, eq_self, not_true_eq_false, not_false_eq_true, false_implies, implies_true, false_and, and_false, Bool.false_eq_true, or_true, true_or, or_false, false_or, Classical.not_not, Nat.le_refl, Nat.lt_irrefl, Bool.true_eq_false, n_lit, n_a, n_c, n_s, n_b, n_m, n_g, n_w, n_n, rk_X0_weightOn, hC, hG, q]
    exact hP I (fun _ _ => rfl)
  · rw [if_neg c] at hP
    have q0 : 0 ≤ d - G.1 (9 + m) := Nat.zero_le _
    refine pp_go rfl sk_X0_weightOn_0 ?_
    simp (disch := omega) only [sg_X0_weightOn_0, sw_c, sw_n, sx, sf_4, sv_i, sv_j, sv_r, sv_q1, sv_q0, sv_1i, sv_1r, sv_2, sl_i, sl_j, sl_a, sl_v, sp_p, sp_f1, sp_f2, sc_w, sc_c, sc_r, sc_f, sc_a, sc_k, pp_in, pp_al, ↓reduceIte, Nat.reduceEqDiff, Nat.reduceLT, Nat.reduceLeDiff, Nat.reduceAdd, Nat.reduceSub, Nat.reduceMul, List.length_cons, List.length_nil, true_and, and_true, and_self, true_implies, eq_self, not_true_eq_false, not_false_eq_true, false_implies, implies_true, false_and, and_false, Bool.false_eq_true, or_true, true_or, or_false, false_or, Classical.not_not, Nat.le_refl, Nat.lt_irrefl, Bool.true_eq_false, n_lit, n_a, n_c, n_s, n_b, n_m, n_g, n_w, n_n, rk_X0_weightOn, hC, hG, q0]
    refine pp_go rfl sk_X0_weightOn_18 ?_
    simp (disch := omega) only [sg_X0_weightOn_18, sw_c, sw_n, sx, sf_4, sv_i, sv_j, sv_r, sv_q1, sv_q0, sv_1i, sv_1r, sv_2, sl_i, sl_j, sl_a, sl_v, sp_p, sp_f1, sp_f2, sc_w, sc_c, sc_r, sc_f, sc_a, sc_k, pp_in, pp_al, ↓reduceIte, Nat.reduceEqDiff, Nat.reduceLT, Nat.reduceLeDiff, Nat.reduceAdd, Nat.reduceSub, Nat.reduceMul, List.length_cons, List.length_nil, true_and, and_true, and_self, true_implies, eq_self, not_true_eq_false, not_false_eq_true, false_implies, implies_true, false_and, and_false, Bool.false_eq_true, or_true, true_or, or_false, false_or, Classical.not_not, Nat.le_refl, Nat.lt_irrefl, Bool.true_eq_false, n_lit, n_a, n_c, n_s, n_b, n_m, n_g, n_w, n_n, rk_X0_weightOn]
    refine c_wO_l (e := d - G.1 (9 + m)) hC hG hT wG wT hm hd ?_ (G.1 8) 0 _ (by simp [pts, prs, sm]) (by omega)
    have a1 : pts T G m d (G.1 8) ≤ 1 * G.1 8 := sm_le (fun i => by split <;> omega) _
    have a2 : prs T G m d (G.1 8) ≤ 4 * G.1 8 := sm_le (fun i => by have := vn_le T G i d wT; split <;> omega) _
    refine pp_go rfl sk_X0_weightOn_94 ?_
    simp (disch := omega) only [sg_X0_weightOn_94, sw_c, sw_n, sx, sf_4, sv_i, sv_j, sv_r, sv_q1, sv_q0, sv_1i, sv_1r, sv_2, sl_i, sl_j, sl_a, sl_v, sp_p, sp_f1, sp_f2, sc_w, sc_c, sc_r, sc_f, sc_a, sc_k, pp_in, pp_al, ↓reduceIte, Nat.reduceEqDiff, Nat.reduceLT, Nat.reduceLeDiff, Nat.reduceAdd, Nat.reduceSub, Nat.reduceMul, List.length_cons, List.length_nil, true_and, and_true, and_self, true_implies, eq_self, not_true_eq_false, not_false_eq_true, false_implies, implies_true, false_and, and_false, Bool.false_eq_true, or_true, true_or, or_false, false_or, Classical.not_not, Nat.le_refl, Nat.lt_irrefl, Bool.true_eq_false, n_lit, n_a, n_c, n_s, n_b, n_m, n_g, n_w, n_n, rk_X0_weightOn, hC, hT]
    refine c_evaluate hC hT wT (fun I' hI' => ?_)
    have hT' : cT I' T := cT_cg hT (fun a x y => hI' a (by omega))
    generalize hv : (ev (fcts (pts T G m d (G.1 8)) (prs T G m d (G.1 8)) (d - G.1 (9 + m))) T.2.2.2 []).headD 0 = v
    have ew : wth T (pts T G m d (G.1 8)) (prs T G m d (G.1 8)) (d - G.1 (9 + m)) = clamp v := by rw [wth, hv]
    rw [ew] at hP
    have hw := clamp_le v
    have hm2 : clamp v * T.1 10 ≤ 1000000 * 100 := Nat.mul_le_mul hw (by omega)
    simp (disch := omega) only [sw_c, sw_n, sx, sf_4, sv_i, sv_j, sv_r, sv_q1, sv_q0, sv_1i, sv_1r, sv_2, sl_i, sl_j, sl_a, sl_v, sp_p, sp_f1, sp_f2, sc_w, sc_c, sc_r, sc_f, sc_a, sc_k, pp_in, pp_al, ↓reduceIte, Nat.reduceEqDiff, Nat.reduceLT, Nat.reduceLeDiff, Nat.reduceAdd, Nat.reduceSub, Nat.reduceMul, List.length_cons, List.length_nil, true_and, and_true, and_self, true_implies, eq_self, not_true_eq_false, not_false_eq_true, false_implies, implies_true, false_and, and_false, Bool.false_eq_true, or_true, true_or, or_false, false_or, Classical.not_not, Nat.le_refl, Nat.lt_irrefl, Bool.true_eq_false, n_lit, n_a, n_c, n_s, n_b, n_m, n_g, n_w, n_n, rk_X0_weightOn, hC, hT', clV]
    refine ⟨fun q => ?_, fun q => ?_⟩
    · rw [if_neg (by omega)] at hP
      refine pp_go rfl sk_X0_weightOn_151 ?_
      simp (disch := omega) only [sg_X0_weightOn_151, sw_c, sw_n, sx, sf_4, sv_i, sv_j, sv_r, sv_q1, sv_q0, sv_1i, sv_1r, sv_2, sl_i, sl_j, sl_a, sl_v, sp_p, sp_f1, sp_f2, sc_w, sc_c, sc_r, sc_f, sc_a, sc_k, pp_in, pp_al, ↓reduceIte, Nat.reduceEqDiff, Nat.reduceLT, Nat.reduceLeDiff, Nat.reduceAdd, Nat.reduceSub, Nat.reduceMul, List.length_cons, List.length_nil, true_and, and_true, and_self, true_implies, eq_self, not_true_eq_false, not_false_eq_true, false_implies, implies_true, false_and, and_false, Bool.false_eq_true, or_true, true_or, or_false, false_or, Classical.not_not, Nat.le_refl, Nat.lt_irrefl, Bool.true_eq_false, n_lit, n_a, n_c, n_s, n_b, n_m, n_g, n_w, n_n, rk_X0_weightOn]
      refine pp_go rfl sk_X0_weightOn_153 ?_
      simp (disch := omega) only [sg_X0_weightOn_153, sw_c, sw_n, sx, sf_4, sv_i, sv_j, sv_r, sv_q1, sv_q0, sv_1i, sv_1r, sv_2, sl_i, sl_j, sl_a, sl_v, sp_p, sp_f1, sp_f2, sc_w, sc_c, sc_r, sc_f, sc_a, sc_k, pp_in, pp_al, ↓reduceIte, Nat.reduceEqDiff, Nat.reduceLT, Nat.reduceLeDiff, Nat.reduceAdd, Nat.reduceSub, Nat.reduceMul, List.length_cons, List.length_nil, true_and, and_true, and_self, true_implies, eq_self, not_true_eq_false, not_false_eq_true, false_implies, implies_true, false_and, and_false, Bool.false_eq_true, or_true, true_or, or_false, false_or, Classical.not_not, Nat.le_refl, Nat.lt_irrefl, Bool.true_eq_false, n_lit, n_a, n_c, n_s, n_b, n_m, n_g, n_w, n_n, rk_X0_weightOn]
      exact hP I' hI'
    · rw [if_pos (by omega)] at hP
      refine pp_go rfl sk_X0_weightOn_153 ?_
      simp (disch := omega) only [sg_X0_weightOn_153, sw_c, sw_n, sx, sf_4, sv_i, sv_j, sv_r, sv_q1, sv_q0, sv_1i, sv_1r, sv_2, sl_i, sl_j, sl_a, sl_v, sp_p, sp_f1, sp_f2, sc_w, sc_c, sc_r, sc_f, sc_a, sc_k, pp_in, pp_al, ↓reduceIte, Nat.reduceEqDiff, Nat.reduceLT, Nat.reduceLeDiff, Nat.reduceAdd, Nat.reduceSub, Nat.reduceMul, List.length_cons, List.length_nil, true_and, and_true, and_self, true_implies, eq_self, not_true_eq_false, not_false_eq_true, false_implies, implies_true, false_and, and_false, Bool.false_eq_true, or_true, true_or, or_false, false_or, Classical.not_not, Nat.le_refl, Nat.lt_irrefl, Bool.true_eq_false, n_lit, n_a, n_c, n_s, n_b, n_m, n_g, n_w, n_n, rk_X0_weightOn]
      exact hP I' hI'
theorem c_weight {m : Int32} (hC : sC sh R) (hG : cG I J G) (hT : cT I T) (wG : wfL n G) (wT : wfT T) (hE : (o_weight T G m).1 = 1 → xB sh I J R P eB) (hP : (o_weight T G m).1 = 0 → ∀ I', fX I I' → P (.inl (some (.int (o_weight T G m).2))) (sh, I', J, R)) : pp_MW g (h + 6) mi_X8_weight [.ref 64, .int m] (sh, I, J, R) P := by
  refine pp_st0 [(0, .ref 64), (1, .int m)] ok_X8_weight rfl (Nat.le_of_ble_eq_true rfl) rfl ?_
  refine pp_go rfl sk_X8_weight_0 ?_
  simp (disch := omega) only [sg_X8_weight_0, sw_c, sw_n, sx, sf_4, sv_i, sv_j, sv_r, sv_q1, sv_q0, sv_1i, sv_1r, sv_2, sl_i, sl_j, sl_a, sl_v, sp_p, sp_f1, sp_f2, sc_w, sc_c, sc_r, sc_f, sc_a, sc_k, pp_in, pp_al, ↓reduceIte, Nat.reduceEqDiff, Nat.reduceLT, Nat.reduceLeDiff, Nat.reduceAdd, Nat.reduceSub, Nat.reduceMul, List.length_cons, List.length_nil, true_and, and_true, and_self, true_implies, eq_self, not_true_eq_false, not_false_eq_true, false_implies, implies_true, false_and, and_false, Bool.false_eq_true, or_true, true_or, or_false, false_or, Classical.not_not, Nat.le_refl, Nat.lt_irrefl, Bool.true_eq_false, n_lit, n_a, n_c, n_s, n_b, n_m, n_g, n_w, n_n, rk_X8_weight, hC]
  rcases idx_cases m (G.1 7) (by omega) with ⟨k, k1, rfl, e1⟩ | ⟨ho, e1⟩
  · simp only [o_weight, wM, e1] at hP
    refine c_ckM0 hC hG wG k1 ?_
    simp (disch := omega) only [sw_c, sw_n, sx, sf_4, sv_i, sv_j, sv_r, sv_q1, sv_q0, sv_1i, sv_1r, sv_2, sl_i, sl_j, sl_a, sl_v, sp_p, sp_f1, sp_f2, sc_w, sc_c, sc_r, sc_f, sc_a, sc_k, pp_in, pp_al, ↓reduceIte, Nat.reduceEqDiff, Nat.reduceLT, Nat.reduceLeDiff, Nat.reduceAdd, Nat.reduceSub, Nat.reduceMul, List.length_cons, List.length_nil, true_and, and_true, and_self, true_implies, eq_self, not_true_eq_false, not_false_eq_true, false_implies, implies_true, false_and, and_false, Bool.false_eq_true, or_true, true_or, or_false, false_or, Classical.not_not, Nat.le_refl, Nat.lt_irrefl, Bool.true_eq_false, n_lit, n_a, n_c, n_s, n_b, n_m, n_g, n_w, n_n, rk_X8_weight, hC, hG]
    refine c_weightOn hC hG hT wG wT (by omega) (by omega) (fun I' hI' => ?_)
    simp (disch := omega) only [sw_c, sw_n, sx, sf_4, sv_i, sv_j, sv_r, sv_q1, sv_q0, sv_1i, sv_1r, sv_2, sl_i, sl_j, sl_a, sl_v, sp_p, sp_f1, sp_f2, sc_w, sc_c, sc_r, sc_f, sc_a, sc_k, pp_in, pp_al, ↓reduceIte, Nat.reduceEqDiff, Nat.reduceLT, Nat.reduceLeDiff, Nat.reduceAdd, Nat.reduceSub, Nat.reduceMul, List.length_cons, List.length_nil, true_and, and_true, and_self, true_implies, eq_self, not_true_eq_false, not_false_eq_true, false_implies, implies_true, false_and, and_false, Bool.false_eq_true, or_true, true_or, or_false, false_or, Classical.not_not, Nat.le_refl, Nat.lt_irrefl, Bool.true_eq_false, n_lit, n_a, n_c, n_s, n_b, n_m, n_g, n_w, n_n, rk_X8_weight]
    exact hP trivial I' (fun a x _ _ => hI' a x)
  · simp only [o_weight, wM, e1] at hE
    exact c_ckM1 hC hG wG ho (hE trivial)
theorem c_weightAfter {m d : Int32} (hC : sC sh R) (hG : cG I J G) (hT : cT I T) (wG : wfL n G) (wT : wfT T) (hE : (o_weightAfter T G m d).1 = 1 → xB sh I J R P eB) (hE2 : (o_weightAfter T G m d).1 = 2 → xB sh I J R P eA) (hP : (o_weightAfter T G m d).1 = 0 → ∀ I', fX I I' → P (.inl (some (.int (o_weightAfter T G m d).2))) (sh, I', J, R)) : pp_MW g (h + 6) mi_X8_weightAfter [.ref 64, .int m, .int d] (sh, I, J, R) P := by
  refine pp_st0 [(0, .ref 64), (1, .int m), (2, .int d)] ok_X8_weightAfter rfl (Nat.le_of_ble_eq_true rfl) rfl ?_
  refine pp_go rfl sk_X8_weightAfter_0 ?_
  simp (disch := omega) only [sg_X8_weightAfter_0, sw_c, sw_n, sx, sf_4, sv_i, sv_j, sv_r, sv_q1, sv_q0, sv_1i, sv_1r, sv_2, sl_i, sl_j, sl_a, sl_v, sp_p, sp_f1, sp_f2, sc_w, sc_c, sc_r, sc_f, sc_a, sc_k, pp_in, pp_al, ↓reduceIte, Nat.reduceEqDiff, Nat.reduceLT, Nat.reduceLeDiff, Nat.reduceAdd, Nat.reduceSub, Nat.reduceMul, List.length_cons, List.length_nil, true_and, and_true, and_self, true_implies, eq_self, not_true_eq_false, not_false_eq_true, false_implies, implies_true, false_and, and_false, Bool.false_eq_true, or_true, true_or, or_false, false_or, Classical.not_not, Nat.le_refl, Nat.lt_irrefl, Bool.true_eq_false, n_lit, n_a, n_c, n_s, n_b, n_m, n_g, n_w, n_n, rk_X8_weightAfter, hC]
  rcases idx_cases m (G.1 7) (by omega) with ⟨k, k1, rfl, e1⟩ | ⟨ho, e1⟩
  · rcases idx_cases d 10000 (by omega) with ⟨j, j1, rfl, e2⟩ | ⟨ho, e2⟩
    · simp only [o_weightAfter, wM, e1, e2] at hP
      have q1 : ¬ j < 0 := by omega
      have q2 : j ≤ 9999 := by omega
      refine c_ckM0 hC hG wG k1 ?_
      simp (disch := omega) only [sw_c, sw_n, sx, sf_4, sv_i, sv_j, sv_r, sv_q1, sv_q0, sv_1i, sv_1r, sv_2, sl_i, sl_j, sl_a, sl_v, sp_p, sp_f1, sp_f2, sc_w, sc_c, sc_r, sc_f, sc_a, sc_k, pp_in, pp_al, ↓reduceIte, Nat.reduceEqDiff, Nat.reduceLT, Nat.reduceLeDiff, Nat.reduceAdd, Nat.reduceSub, Nat.reduceMul, List.length_cons, List.length_nil, true_and, and_true, and_self, true_implies, eq_self, not_true_eq_false, not_false_eq_true, false_implies, implies_true, false_and, and_false, Bool.false_eq_true, or_true, true_or, or_false, false_or, Classical.not_not, Nat.le_refl, Nat.lt_irrefl, Bool.true_eq_false, n_lit, n_a, n_c, n_s, n_b, n_m, n_g, n_w, n_n, rk_X8_weightAfter, hC, hG, q1, q2]
      refine pp_go rfl sk_X8_weightAfter_26 ?_
      simp (disch := omega) only [sg_X8_weightAfter_26, sw_c, sw_n, sx, sf_4, sv_i, sv_j, sv_r, sv_q1, sv_q0, sv_1i, sv_1r, sv_2, sl_i, sl_j, sl_a, sl_v, sp_p, sp_f1, sp_f2, sc_w, sc_c, sc_r, sc_f, sc_a, sc_k, pp_in, pp_al, ↓reduceIte, Nat.reduceEqDiff, Nat.reduceLT, Nat.reduceLeDiff, Nat.reduceAdd, Nat.reduceSub, Nat.reduceMul, List.length_cons, List.length_nil, true_and, and_true, and_self, true_implies, eq_self, not_true_eq_false, not_false_eq_true, false_implies, implies_true, false_and, and_false, Bool.false_eq_true, or_true, true_or, or_false, false_or, Classical.not_not, Nat.le_refl, Nat.lt_irrefl, Bool.true_eq_false, n_lit, n_a, n_c, n_s, n_b, n_m, n_g, n_w, n_n, rk_X8_weightAfter, hC, hG]
      refine c_weightOn hC hG hT wG wT (by omega) (by omega) (fun I' hI' => ?_)
      simp (disch := omega) only [sw_c, sw_n, sx, sf_4, sv_i, sv_j, sv_r, sv_q1, sv_q0, sv_1i, sv_1r, sv_2, sl_i, sl_j, sl_a, sl_v, sp_p, sp_f1, sp_f2, sc_w, sc_c, sc_r, sc_f, sc_a, sc_k, pp_in, pp_al, ↓reduceIte, Nat.reduceEqDiff, Nat.reduceLT, Nat.reduceLeDiff, Nat.reduceAdd, Nat.reduceSub, Nat.reduceMul, List.length_cons, List.length_nil, true_and, and_true, and_self, true_implies, eq_self, not_true_eq_false, not_false_eq_true, false_implies, implies_true, false_and, and_false, Bool.false_eq_true, or_true, true_or, or_false, false_or, Classical.not_not, Nat.le_refl, Nat.lt_irrefl, Bool.true_eq_false, n_lit, n_a, n_c, n_s, n_b, n_m, n_g, n_w, n_n, rk_X8_weightAfter]
      exact hP trivial I' (fun a x _ _ => hI' a x)
    · simp only [o_weightAfter, wM, e1, e2] at hE2
      have K : pp_N g (h + 5) mi_X8_weightAfter P 16 [(0, .ref 64), (1, .int (Int32.ofNat k)), (2, .int d)] [] (sh, I, J, R) := by
        refine pp_go rfl sk_X8_weightAfter_16 ?_
        simp (disch := omega) only [sg_X8_weightAfter_16, sw_c, sw_n, sx, sf_4, sv_i, sv_j, sv_r, sv_q1, sv_q0, sv_1i, sv_1r, sv_2, sl_i, sl_j, sl_a, sl_v, sp_p, sp_f1, sp_f2, sc_w, sc_c, sc_r, sc_f, sc_a, sc_k, pp_in, pp_al, ↓reduceIte, Nat.reduceEqDiff, Nat.reduceLT, Nat.reduceLeDiff, Nat.reduceAdd, Nat.reduceSub, Nat.reduceMul, List.length_cons, List.length_nil, true_and, and_true, and_self, true_implies, eq_self, not_true_eq_false, not_false_eq_true, false_implies, implies_true, false_and, and_false, Bool.false_eq_true, or_true, true_or, or_false, false_or, Classical.not_not, Nat.le_refl, Nat.lt_irrefl, Bool.true_eq_false, n_lit, n_a, n_c, n_s, n_b, n_m, n_g, n_w, n_n, rk_X8_weightAfter, ex_0]
        exact hE2 trivial
      by_cases c : d.toInt < 0
      · have q1 := n_ng c
        refine c_ckM0 hC hG wG k1 ?_
        simp (disch := omega) only [sw_c, sw_n, sx, sf_4, sv_i, sv_j, sv_r, sv_q1, sv_q0, sv_1i, sv_1r, sv_2, sl_i, sl_j, sl_a, sl_v, sp_p, sp_f1, sp_f2, sc_w, sc_c, sc_r, sc_f, sc_a, sc_k, pp_in, pp_al, ↓reduceIte, Nat.reduceEqDiff, Nat.reduceLT, Nat.reduceLeDiff, Nat.reduceAdd, Nat.reduceSub, Nat.reduceMul, List.length_cons, List.length_nil, true_and, and_true, and_self, true_implies, eq_self, not_true_eq_false, not_false_eq_true, false_implies, implies_true, false_and, and_false, Bool.false_eq_true, or_true, true_or, or_false, false_or, Classical.not_not, Nat.le_refl, Nat.lt_irrefl, Bool.true_eq_false, n_lit, n_a, n_c, n_s, n_b, n_m, n_g, n_w, n_n, rk_X8_weightAfter, q1]
        exact K
      · have q1 := n_nn (p := d) (by omega)
        have q2 : (d ≤ Int32.ofNat 9999) = False := eq_false (by rw [Int32.le_iff_toInt_le, Int32.toInt_ofNat_of_lt (by omega)]; omega)
        refine c_ckM0 hC hG wG k1 ?_
        simp (disch := omega) only [sw_c, sw_n, sx, sf_4, sv_i, sv_j, sv_r, sv_q1, sv_q0, sv_1i, sv_1r, sv_2, sl_i, sl_j, sl_a, sl_v, sp_p, sp_f1, sp_f2, sc_w, sc_c, sc_r, sc_f, sc_a, sc_k, pp_in, pp_al, ↓reduceIte, Nat.reduceEqDiff, Nat.reduceLT, Nat.reduceLeDiff, Nat.reduceAdd, Nat.reduceSub, Nat.reduceMul, List.length_cons, List.length_nil, true_and, and_true, and_self, true_implies, eq_self, not_true_eq_false, not_false_eq_true, false_implies, implies_true, false_and, and_false, Bool.false_eq_true, or_true, true_or, or_false, false_or, Classical.not_not, Nat.le_refl, Nat.lt_irrefl, Bool.true_eq_false, n_lit, n_a, n_c, n_s, n_b, n_m, n_g, n_w, n_n, rk_X8_weightAfter, q1, q2]
        exact K
  · simp only [o_weightAfter, wM, e1] at hE
    exact c_ckM1 hC hG wG ho (hE trivial)
theorem c_wM_l (hC : sC sh R) (hG0 : cG I J G) (hT0 : cT I T) (wG : wfL n G) (wT : wfT T) (hP : ∀ I', (∀ a, a ≠ 101 → a ≠ 114 → I' a = I a) → (∀ m, m < 8 → I' 114 m = Int32.ofNat (wts T G m)) → P (.inl none) (sh, I', J, R)) :
    ∀ f m I', f + m = 8 → (∀ a, a ≠ 101 → a ≠ 114 → I' a = I a) → (∀ i, i < m → I' 114 i = Int32.ofNat (wts T G i)) → pp_N g (h + 5) mi_X8_weighMembers P 2 [(0, .ref 64), (1, .int (Int32.ofNat m))] [] (sh, I', J, R) := by
  intro f
  induction f with
  | zero =>
    intro m I' hm hf hr
    have hm : m = 8 := by omega
    subst hm
    refine pp_go rfl sk_X8_weighMembers_2 ?_
    simp (disch := omega) only [sg_X8_weighMembers_2, sw_c, sw_n, sx, sf_4, sv_i, sv_j, sv_r, sv_q1, sv_q0, sv_1i, sv_1r, sv_2, sl_i, sl_j, sl_a, sl_v, sp_p, sp_f1, sp_f2, sc_w, sc_c, sc_r, sc_f, sc_a, sc_k, pp_in, pp_al, ↓reduceIte, Nat.reduceEqDiff, Nat.reduceLT, Nat.reduceLeDiff, Nat.reduceAdd, Nat.reduceSub, Nat.reduceMul, List.length_cons, List.length_nil, true_and, and_true, and_self, true_implies, eq_self, not_true_eq_false, not_false_eq_true, false_implies, implies_true, false_and, and_false, Bool.false_eq_true, or_true, true_or, or_false, false_or, Classical.not_not, Nat.le_refl, Nat.lt_irrefl, Bool.true_eq_false, n_lit, n_a, n_c, n_s, n_b, n_m, n_g, n_w, n_n]
    refine pp_go rfl sk_X8_weighMembers_53 ?_
    simp (disch := omega) only [sg_X8_weighMembers_53, sw_c, sw_n, sx, sf_4, sv_i, sv_j, sv_r, sv_q1, sv_q0, sv_1i, sv_1r, sv_2, sl_i, sl_j, sl_a, sl_v, sp_p, sp_f1, sp_f2, sc_w, sc_c, sc_r, sc_f, sc_a, sc_k, pp_in, pp_al, ↓reduceIte, Nat.reduceEqDiff, Nat.reduceLT, Nat.reduceLeDiff, Nat.reduceAdd, Nat.reduceSub, Nat.reduceMul, List.length_cons, List.length_nil, true_and, and_true, and_self, true_implies, eq_self, not_true_eq_false, not_false_eq_true, false_implies, implies_true, false_and, and_false, Bool.false_eq_true, or_true, true_or, or_false, false_or, Classical.not_not, Nat.le_refl, Nat.lt_irrefl, Bool.true_eq_false, n_lit, n_a, n_c, n_s, n_b, n_m, n_g, n_w, n_n]
    exact hP I' hf hr
  | succ f ih =>
    intro m I' hm hf hr
    have q1 : ¬ 8 ≤ m := by omega
    have hG : cG I' J G := cL_cg (L := 102) hG0 (fun a x y => hf a (by omega) (by omega)) (fun _ _ _ => rfl)
    have hT : cT I' T := cT_cg hT0 (fun a x y => hf a (by omega) (by omega))
    refine pp_go rfl sk_X8_weighMembers_2 ?_
    simp (disch := omega) only [sg_X8_weighMembers_2, sw_c, sw_n, sx, sf_4, sv_i, sv_j, sv_r, sv_q1, sv_q0, sv_1i, sv_1r, sv_2, sl_i, sl_j, sl_a, sl_v, sp_p, sp_f1, sp_f2, sc_w, sc_c, sc_r, sc_f, sc_a, sc_k, pp_in, pp_al, ↓reduceIte, Nat.reduceEqDiff, Nat.reduceLT, Nat.reduceLeDiff, Nat.reduceAdd, Nat.reduceSub, Nat.reduceMul, List.length_cons, List.length_nil, true_and, and_true, and_self, true_implies, eq_self, not_true_eq_false, not_false_eq_true, false_implies, implies_true, false_and, and_false, Bool.false_eq_true, or_true, true_or, or_false, false_or, Classical.not_not, Nat.le_refl, Nat.lt_irrefl, Bool.true_eq_false, n_lit, n_a, n_c, n_s, n_b, n_m, n_g, n_w, n_n, hC, hG, q1]
    refine ⟨fun q => ?_, fun q => ?_⟩
    · refine pp_go rfl sk_X8_weighMembers_45 ?_
      simp (disch := omega) only [sg_X8_weighMembers_45, sw_c, sw_n, sx, sf_4, sv_i, sv_j, sv_r, sv_q1, sv_q0, sv_1i, sv_1r, sv_2, sl_i, sl_j, sl_a, sl_v, sp_p, sp_f1, sp_f2, sc_w, sc_c, sc_r, sc_f, sc_a, sc_k, pp_in, pp_al, ↓reduceIte, Nat.reduceEqDiff, Nat.reduceLT, Nat.reduceLeDiff, Nat.reduceAdd, Nat.reduceSub, Nat.reduceMul, List.length_cons, List.length_nil, true_and, and_true, and_self, true_implies, eq_self, not_true_eq_false, not_false_eq_true, false_implies, implies_true, false_and, and_false, Bool.false_eq_true, or_true, true_or, or_false, false_or, Classical.not_not, Nat.le_refl, Nat.lt_irrefl, Bool.true_eq_false, n_lit, n_a, n_c, n_s, n_b, n_m, n_g, n_w, n_n]
      refine pp_go rfl sk_X8_weighMembers_46 ?_
      simp (disch := omega) only [sg_X8_weighMembers_46, sw_c, sw_n, sx, sf_4, sv_i, sv_j, sv_r, sv_q1, sv_q0, sv_1i, sv_1r, sv_2, sl_i, sl_j, sl_a, sl_v, sp_p, sp_f1, sp_f2, sc_w, sc_c, sc_r, sc_f, sc_a, sc_k, pp_in, pp_al, ↓reduceIte, Nat.reduceEqDiff, Nat.reduceLT, Nat.reduceLeDiff, Nat.reduceAdd, Nat.reduceSub, Nat.reduceMul, List.length_cons, List.length_nil, true_and, and_true, and_self, true_implies, eq_self, not_true_eq_false, not_false_eq_true, false_implies, implies_true, false_and, and_false, Bool.false_eq_true, or_true, true_or, or_false, false_or, Classical.not_not, Nat.le_refl, Nat.lt_irrefl, Bool.true_eq_false, n_lit, n_a, n_c, n_s, n_b, n_m, n_g, n_w, n_n, hC]
      refine ih (m + 1) _ (by omega) (fun a x y => ?_) (fun i hi => ?_)
      · rw [pp_s_ne _ _ y]; exact hf a x y
      · simp only [n_m, ↓reduceIte]
        by_cases e : i = m
        · rw [if_pos e, e, wts, if_neg (by omega)]
        · rw [if_neg e]; exact hr i (by omega)
    · refine c_weightOn hC hG hT wG wT (by omega) (by omega) (fun I2 h2 => ?_)
      simp (disch := omega) only [sw_c, sw_n, sx, sf_4, sv_i, sv_j, sv_r, sv_q1, sv_q0, sv_1i, sv_1r, sv_2, sl_i, sl_j, sl_a, sl_v, sp_p, sp_f1, sp_f2, sc_w, sc_c, sc_r, sc_f, sc_a, sc_k, pp_in, pp_al, ↓reduceIte, Nat.reduceEqDiff, Nat.reduceLT, Nat.reduceLeDiff, Nat.reduceAdd, Nat.reduceSub, Nat.reduceMul, List.length_cons, List.length_nil, true_and, and_true, and_self, true_implies, eq_self, not_true_eq_false, not_false_eq_true, false_implies, implies_true, false_and, and_false, Bool.false_eq_true, or_true, true_or, or_false, false_or, Classical.not_not, Nat.le_refl, Nat.lt_irrefl, Bool.true_eq_false, n_lit, n_a, n_c, n_s, n_b, n_m, n_g, n_w, n_n]
      refine pp_go rfl sk_X8_weighMembers_46 ?_
      simp (disch := omega) only [sg_X8_weighMembers_46, sw_c, sw_n, sx, sf_4, sv_i, sv_j, sv_r, sv_q1, sv_q0, sv_1i, sv_1r, sv_2, sl_i, sl_j, sl_a, sl_v, sp_p, sp_f1, sp_f2, sc_w, sc_c, sc_r, sc_f, sc_a, sc_k, pp_in, pp_al, ↓reduceIte, Nat.reduceEqDiff, Nat.reduceLT, Nat.reduceLeDiff, Nat.reduceAdd, Nat.reduceSub, Nat.reduceMul, List.length_cons, List.length_nil, true_and, and_true, and_self, true_implies, eq_self, not_true_eq_false, not_false_eq_true, false_implies, implies_true, false_and, and_false, Bool.false_eq_true, or_true, true_or, or_false, false_or, Classical.not_not, Nat.le_refl, Nat.lt_irrefl, Bool.true_eq_false, n_lit, n_a, n_c, n_s, n_b, n_m, n_g, n_w, n_n, hC]
      refine ih (m + 1) _ (by omega) (fun a x y => ?_) (fun i hi => ?_)
      · rw [pp_s_ne _ _ y, h2 a x]; exact hf a x y
      · simp only [n_m, ↓reduceIte]
        by_cases e : i = m
        · rw [if_pos e, e, wts, if_pos (by omega)]
        · rw [if_neg e, h2 114 (by omega)]; exact hr i (by omega)
theorem c_weighMembers (hC : sC sh R) (hG : cG I J G) (hT : cT I T) (wG : wfL n G) (wT : wfT T) (hP : ∀ I', (∀ a, a ≠ 101 → a ≠ 114 → I' a = I a) → (∀ m, m < 8 → I' 114 m = Int32.ofNat (wts T G m)) → P (.inl none) (sh, I', J, R)) : pp_MW g (h + 6) mi_X8_weighMembers [.ref 64] (sh, I, J, R) P := by
  refine pp_st0 [(0, .ref 64)] ok_X8_weighMembers rfl (Nat.le_of_ble_eq_true rfl) rfl ?_
  refine pp_go rfl sk_X8_weighMembers_0 ?_
  simp (disch := omega) only [sg_X8_weighMembers_0, sw_c, sw_n, sx, sf_4, sv_i, sv_j, sv_r, sv_q1, sv_q0, sv_1i, sv_1r, sv_2, sl_i, sl_j, sl_a, sl_v, sp_p, sp_f1, sp_f2, sc_w, sc_c, sc_r, sc_f, sc_a, sc_k, pp_in, pp_al, ↓reduceIte, Nat.reduceEqDiff, Nat.reduceLT, Nat.reduceLeDiff, Nat.reduceAdd, Nat.reduceSub, Nat.reduceMul, List.length_cons, List.length_nil, true_and, and_true, and_self, true_implies, eq_self, not_true_eq_false, not_false_eq_true, false_implies, implies_true, false_and, and_false, Bool.false_eq_true, or_true, true_or, or_false, false_or, Classical.not_not, Nat.le_refl, Nat.lt_irrefl, Bool.true_eq_false, n_lit, n_a, n_c, n_s, n_b, n_m, n_g, n_w, n_n]
  exact c_wM_l hC hG hT wG wT hP 8 0 I (by omega) (fun _ _ _ => rfl) (fun i hi => absurd hi (Nat.not_lt_zero _))
theorem c_size {x : Int32} (hC : sC sh R) (hG : cG I J G) (hT : cT I T) (hE : (o_size T G x).1 = 1 → xB sh I J R P eA) (hP : (o_size T G x).1 = 0 → P (.inl (some (.int (o_size T G x).2))) (sh, I, J, R)) : pp_MW g (h + 1) mi_X8_size [.ref 64, .int x] (sh, I, J, R) P := by
  rcases idx_cases x 4 (by omega) with ⟨k, k1, rfl, e1⟩ | ⟨ho, e1⟩
  · simp only [o_size, e1] at hP
    have hP := hP trivial
    refine pp_st0 [(0, .ref 64), (1, .int (Int32.ofNat k))] ok_X8_size rfl (Nat.le_of_ble_eq_true rfl) rfl ?_
    refine pp_go rfl sk_X8_size_0 ?_
    simp (disch := omega) only [sg_X8_size_0, sw_c, sw_n, sx, sf_4, sv_i, sv_j, sv_r, sv_q1, sv_q0, sv_1i, sv_1r, sv_2, sl_i, sl_j, sl_a, sl_v, sp_p, sp_f1, sp_f2, sc_w, sc_c, sc_r, sc_f, sc_a, sc_k, pp_in, pp_al, ↓reduceIte, Nat.reduceEqDiff, Nat.reduceLT, Nat.reduceLeDiff, Nat.reduceAdd, Nat.reduceSub, Nat.reduceMul, List.length_cons, List.length_nil, true_and, and_true, and_self, true_implies, eq_self, not_true_eq_false, not_false_eq_true, false_implies, implies_true, false_and, and_false, Bool.false_eq_true, or_true, true_or, or_false, false_or, Classical.not_not, Nat.le_refl, Nat.lt_irrefl, Bool.true_eq_false, n_lit, n_a, n_c, n_s, n_b, n_m, n_g, n_w, n_n, rk_X8_size, sc_s, n_i]
    refine ⟨⟨fun q => ?_, fun q => ?_, fun q => ?_, fun q => ?_⟩, fun q => ?_⟩
    · rw [if_pos (by omega)] at hP
      refine pp_go rfl sk_X8_size_32 ?_
      simp (disch := omega) only [sg_X8_size_32, sw_c, sw_n, sx, sf_4, sv_i, sv_j, sv_r, sv_q1, sv_q0, sv_1i, sv_1r, sv_2, sl_i, sl_j, sl_a, sl_v, sp_p, sp_f1, sp_f2, sc_w, sc_c, sc_r, sc_f, sc_a, sc_k, pp_in, pp_al, ↓reduceIte, Nat.reduceEqDiff, Nat.reduceLT, Nat.reduceLeDiff, Nat.reduceAdd, Nat.reduceSub, Nat.reduceMul, List.length_cons, List.length_nil, true_and, and_true, and_self, true_implies, eq_self, not_true_eq_false, not_false_eq_true, false_implies, implies_true, false_and, and_false, Bool.false_eq_true, or_true, true_or, or_false, false_or, Classical.not_not, Nat.le_refl, Nat.lt_irrefl, Bool.true_eq_false, n_lit, n_a, n_c, n_s, n_b, n_m, n_g, n_w, n_n, rk_X8_size, hC, hG]
      exact hP
    · rw [if_neg (by omega), if_neg (by omega), show k = 1 by omega] at hP
      refine pp_go rfl sk_X8_size_40 ?_
      simp (disch := omega) only [sg_X8_size_40, sw_c, sw_n, sx, sf_4, sv_i, sv_j, sv_r, sv_q1, sv_q0, sv_1i, sv_1r, sv_2, sl_i, sl_j, sl_a, sl_v, sp_p, sp_f1, sp_f2, sc_w, sc_c, sc_r, sc_f, sc_a, sc_k, pp_in, pp_al, ↓reduceIte, Nat.reduceEqDiff, Nat.reduceLT, Nat.reduceLeDiff, Nat.reduceAdd, Nat.reduceSub, Nat.reduceMul, List.length_cons, List.length_nil, true_and, and_true, and_self, true_implies, eq_self, not_true_eq_false, not_false_eq_true, false_implies, implies_true, false_and, and_false, Bool.false_eq_true, or_true, true_or, or_false, false_or, Classical.not_not, Nat.le_refl, Nat.lt_irrefl, Bool.true_eq_false, n_lit, n_a, n_c, n_s, n_b, n_m, n_g, n_w, n_n, rk_X8_size, hC, hT]
      exact hP
    · rw [if_neg (by omega), if_pos (by omega)] at hP
      refine pp_go rfl sk_X8_size_48 ?_
      simp (disch := omega) only [sg_X8_size_48, sw_c, sw_n, sx, sf_4, sv_i, sv_j, sv_r, sv_q1, sv_q0, sv_1i, sv_1r, sv_2, sl_i, sl_j, sl_a, sl_v, sp_p, sp_f1, sp_f2, sc_w, sc_c, sc_r, sc_f, sc_a, sc_k, pp_in, pp_al, ↓reduceIte, Nat.reduceEqDiff, Nat.reduceLT, Nat.reduceLeDiff, Nat.reduceAdd, Nat.reduceSub, Nat.reduceMul, List.length_cons, List.length_nil, true_and, and_true, and_self, true_implies, eq_self, not_true_eq_false, not_false_eq_true, false_implies, implies_true, false_and, and_false, Bool.false_eq_true, or_true, true_or, or_false, false_or, Classical.not_not, Nat.le_refl, Nat.lt_irrefl, Bool.true_eq_false, n_lit, n_a, n_c, n_s, n_b, n_m, n_g, n_w, n_n, rk_X8_size, hC, hG]
      exact hP
    · rw [if_neg (by omega), if_neg (by omega), show k = 3 by omega] at hP
      refine pp_go rfl sk_X8_size_56 ?_
      simp (disch := omega) only [sg_X8_size_56, sw_c, sw_n, sx, sf_4, sv_i, sv_j, sv_r, sv_q1, sv_q0, sv_1i, sv_1r, sv_2, sl_i, sl_j, sl_a, sl_v, sp_p, sp_f1, sp_f2, sc_w, sc_c, sc_r, sc_f, sc_a, sc_k, pp_in, pp_al, ↓reduceIte, Nat.reduceEqDiff, Nat.reduceLT, Nat.reduceLeDiff, Nat.reduceAdd, Nat.reduceSub, Nat.reduceMul, List.length_cons, List.length_nil, true_and, and_true, and_self, true_implies, eq_self, not_true_eq_false, not_false_eq_true, false_implies, implies_true, false_and, and_false, Bool.false_eq_true, or_true, true_or, or_false, false_or, Classical.not_not, Nat.le_refl, Nat.lt_irrefl, Bool.true_eq_false, n_lit, n_a, n_c, n_s, n_b, n_m, n_g, n_w, n_n, rk_X8_size, hC, hT]
      exact hP
    · omega
  · simp only [o_size, e1] at hE
    refine pp_st0 [(0, .ref 64), (1, .int x)] ok_X8_size rfl (Nat.le_of_ble_eq_true rfl) rfl ?_
    refine pp_go rfl sk_X8_size_0 ?_
    simp (disch := omega) only [sg_X8_size_0, sw_c, sw_n, sx, sf_4, sv_i, sv_j, sv_r, sv_q1, sv_q0, sv_1i, sv_1r, sv_2, sl_i, sl_j, sl_a, sl_v, sp_p, sp_f1, sp_f2, sc_w, sc_c, sc_r, sc_f, sc_a, sc_k, pp_in, pp_al, ↓reduceIte, Nat.reduceEqDiff, Nat.reduceLT, Nat.reduceLeDiff, Nat.reduceAdd, Nat.reduceSub, Nat.reduceMul, List.length_cons, List.length_nil, true_and, and_true, and_self, true_implies, eq_self, not_true_eq_false, not_false_eq_true, false_implies, implies_true, false_and, and_false, Bool.false_eq_true, or_true, true_or, or_false, false_or, Classical.not_not, Nat.le_refl, Nat.lt_irrefl, Bool.true_eq_false, n_lit, n_a, n_c, n_s, n_b, n_m, n_g, n_w, n_n, rk_X8_size, sc_s]
    have z : ∀ i : Nat, i < 4 → ¬ x = Int32.ofNat i := fun i hi e => by rw [e, n_i.2.2.2 _ (by omega)] at ho; omega
    refine ⟨⟨fun q => absurd q (z 0 (by omega)), fun q => absurd q (z 1 (by omega)), fun q => absurd q (z 2 (by omega)), fun q => absurd q (z 3 (by omega))⟩, fun q => ?_⟩
    refine pp_go rfl sk_X8_size_64 ?_
    simp (disch := omega) only [sg_X8_size_64, sw_c, sw_n, sx, sf_4, sv_i, sv_j, sv_r, sv_q1, sv_q0, sv_1i, sv_1r, sv_2, sl_i, sl_j, sl_a, sl_v, sp_p, sp_f1, sp_f2, sc_w, sc_c, sc_r, sc_f, sc_a, sc_k, pp_in, pp_al, ↓reduceIte, Nat.reduceEqDiff, Nat.reduceLT, Nat.reduceLeDiff, Nat.reduceAdd, Nat.reduceSub, Nat.reduceMul, List.length_cons, List.length_nil, true_and, and_true, and_self, true_implies, eq_self, not_true_eq_false, not_false_eq_true, false_implies, implies_true, false_and, and_false, Bool.false_eq_true, or_true, true_or, or_false, false_or, Classical.not_not, Nat.le_refl, Nat.lt_irrefl, Bool.true_eq_false, n_lit, n_a, n_c, n_s, n_b, n_m, n_g, n_w, n_n, rk_X8_size, ex_0]
    exact hE trivial
theorem c_total {x : Int32} (hC : sC sh R) (hG : cG I J G) (hE : (o_total G x).1 = 1 → xB sh I J R P eA) (hP : (o_total G x).1 = 0 → P (.inl (some (.long (o_total G x).2))) (sh, I, J, R)) : pp_MW g (h + 1) mi_X8_total [.ref 64, .int x] (sh, I, J, R) P := by
  rcases idx_cases x 5 (by omega) with ⟨k, k1, rfl, e1⟩ | ⟨ho, e1⟩
  · simp only [o_total, e1] at hP
    have hP := hP trivial
    refine pp_st0 [(0, .ref 64), (1, .int (Int32.ofNat k))] ok_X8_total rfl (Nat.le_of_ble_eq_true rfl) rfl ?_
    refine pp_go rfl sk_X8_total_0 ?_
    simp (disch := omega) only [sg_X8_total_0, sw_c, sw_n, sx, sf_4, sv_i, sv_j, sv_r, sv_q1, sv_q0, sv_1i, sv_1r, sv_2, sl_i, sl_j, sl_a, sl_v, sp_p, sp_f1, sp_f2, sc_w, sc_c, sc_r, sc_f, sc_a, sc_k, pp_in, pp_al, ↓reduceIte, Nat.reduceEqDiff, Nat.reduceLT, Nat.reduceLeDiff, Nat.reduceAdd, Nat.reduceSub, Nat.reduceMul, List.length_cons, List.length_nil, true_and, and_true, and_self, true_implies, eq_self, not_true_eq_false, not_false_eq_true, false_implies, implies_true, false_and, and_false, Bool.false_eq_true, or_true, true_or, or_false, false_or, Classical.not_not, Nat.le_refl, Nat.lt_irrefl, Bool.true_eq_false, n_lit, n_a, n_c, n_s, n_b, n_m, n_g, n_w, n_n, sc_s, n_i]
    refine ⟨⟨fun q => ?_, fun q => ?_, fun q => ?_, fun q => ?_, fun q => ?_⟩, fun q => ?_⟩
    · rw [show k = 0 by omega] at hP
      refine pp_go rfl sk_X8_total_36 ?_
      simp (disch := omega) only [sg_X8_total_36, sw_c, sw_n, sx, sf_4, sv_i, sv_j, sv_r, sv_q1, sv_q0, sv_1i, sv_1r, sv_2, sl_i, sl_j, sl_a, sl_v, sp_p, sp_f1, sp_f2, sc_w, sc_c, sc_r, sc_f, sc_a, sc_k, pp_in, pp_al, ↓reduceIte, Nat.reduceEqDiff, Nat.reduceLT, Nat.reduceLeDiff, Nat.reduceAdd, Nat.reduceSub, Nat.reduceMul, List.length_cons, List.length_nil, true_and, and_true, and_self, true_implies, eq_self, not_true_eq_false, not_false_eq_true, false_implies, implies_true, false_and, and_false, Bool.false_eq_true, or_true, true_or, or_false, false_or, Classical.not_not, Nat.le_refl, Nat.lt_irrefl, Bool.true_eq_false, n_lit, n_a, n_c, n_s, n_b, n_m, n_g, n_w, n_n, hC, hG]
      exact hP
    · rw [show k = 1 by omega] at hP
      refine pp_go rfl sk_X8_total_44 ?_
      simp (disch := omega) only [sg_X8_total_44, sw_c, sw_n, sx, sf_4, sv_i, sv_j, sv_r, sv_q1, sv_q0, sv_1i, sv_1r, sv_2, sl_i, sl_j, sl_a, sl_v, sp_p, sp_f1, sp_f2, sc_w, sc_c, sc_r, sc_f, sc_a, sc_k, pp_in, pp_al, ↓reduceIte, Nat.reduceEqDiff, Nat.reduceLT, Nat.reduceLeDiff, Nat.reduceAdd, Nat.reduceSub, Nat.reduceMul, List.length_cons, List.length_nil, true_and, and_true, and_self, true_implies, eq_self, not_true_eq_false, not_false_eq_true, false_implies, implies_true, false_and, and_false, Bool.false_eq_true, or_true, true_or, or_false, false_or, Classical.not_not, Nat.le_refl, Nat.lt_irrefl, Bool.true_eq_false, n_lit, n_a, n_c, n_s, n_b, n_m, n_g, n_w, n_n, hC, hG]
      exact hP
    · rw [show k = 2 by omega] at hP
      refine pp_go rfl sk_X8_total_52 ?_
      simp (disch := omega) only [sg_X8_total_52, sw_c, sw_n, sx, sf_4, sv_i, sv_j, sv_r, sv_q1, sv_q0, sv_1i, sv_1r, sv_2, sl_i, sl_j, sl_a, sl_v, sp_p, sp_f1, sp_f2, sc_w, sc_c, sc_r, sc_f, sc_a, sc_k, pp_in, pp_al, ↓reduceIte, Nat.reduceEqDiff, Nat.reduceLT, Nat.reduceLeDiff, Nat.reduceAdd, Nat.reduceSub, Nat.reduceMul, List.length_cons, List.length_nil, true_and, and_true, and_self, true_implies, eq_self, not_true_eq_false, not_false_eq_true, false_implies, implies_true, false_and, and_false, Bool.false_eq_true, or_true, true_or, or_false, false_or, Classical.not_not, Nat.le_refl, Nat.lt_irrefl, Bool.true_eq_false, n_lit, n_a, n_c, n_s, n_b, n_m, n_g, n_w, n_n, hC, hG]
      exact hP
    · rw [show k = 3 by omega] at hP
      refine pp_go rfl sk_X8_total_60 ?_
      simp (disch := omega) only [sg_X8_total_60, sw_c, sw_n, sx, sf_4, sv_i, sv_j, sv_r, sv_q1, sv_q0, sv_1i, sv_1r, sv_2, sl_i, sl_j, sl_a, sl_v, sp_p, sp_f1, sp_f2, sc_w, sc_c, sc_r, sc_f, sc_a, sc_k, pp_in, pp_al, ↓reduceIte, Nat.reduceEqDiff, Nat.reduceLT, Nat.reduceLeDiff, Nat.reduceAdd, Nat.reduceSub, Nat.reduceMul, List.length_cons, List.length_nil, true_and, and_true, and_self, true_implies, eq_self, not_true_eq_false, not_false_eq_true, false_implies, implies_true, false_and, and_false, Bool.false_eq_true, or_true, true_or, or_false, false_or, Classical.not_not, Nat.le_refl, Nat.lt_irrefl, Bool.true_eq_false, n_lit, n_a, n_c, n_s, n_b, n_m, n_g, n_w, n_n, hC, hG]
      exact hP
    · rw [show k = 4 by omega] at hP
      refine pp_go rfl sk_X8_total_68 ?_
      simp (disch := omega) only [sg_X8_total_68, sw_c, sw_n, sx, sf_4, sv_i, sv_j, sv_r, sv_q1, sv_q0, sv_1i, sv_1r, sv_2, sl_i, sl_j, sl_a, sl_v, sp_p, sp_f1, sp_f2, sc_w, sc_c, sc_r, sc_f, sc_a, sc_k, pp_in, pp_al, ↓reduceIte, Nat.reduceEqDiff, Nat.reduceLT, Nat.reduceLeDiff, Nat.reduceAdd, Nat.reduceSub, Nat.reduceMul, List.length_cons, List.length_nil, true_and, and_true, and_self, true_implies, eq_self, not_true_eq_false, not_false_eq_true, false_implies, implies_true, false_and, and_false, Bool.false_eq_true, or_true, true_or, or_false, false_or, Classical.not_not, Nat.le_refl, Nat.lt_irrefl, Bool.true_eq_false, n_lit, n_a, n_c, n_s, n_b, n_m, n_g, n_w, n_n, hC, hG]
      exact hP
    · omega
  · simp only [o_total, e1] at hE
    refine pp_st0 [(0, .ref 64), (1, .int x)] ok_X8_total rfl (Nat.le_of_ble_eq_true rfl) rfl ?_
    refine pp_go rfl sk_X8_total_0 ?_
    simp (disch := omega) only [sg_X8_total_0, sw_c, sw_n, sx, sf_4, sv_i, sv_j, sv_r, sv_q1, sv_q0, sv_1i, sv_1r, sv_2, sl_i, sl_j, sl_a, sl_v, sp_p, sp_f1, sp_f2, sc_w, sc_c, sc_r, sc_f, sc_a, sc_k, pp_in, pp_al, ↓reduceIte, Nat.reduceEqDiff, Nat.reduceLT, Nat.reduceLeDiff, Nat.reduceAdd, Nat.reduceSub, Nat.reduceMul, List.length_cons, List.length_nil, true_and, and_true, and_self, true_implies, eq_self, not_true_eq_false, not_false_eq_true, false_implies, implies_true, false_and, and_false, Bool.false_eq_true, or_true, true_or, or_false, false_or, Classical.not_not, Nat.le_refl, Nat.lt_irrefl, Bool.true_eq_false, n_lit, n_a, n_c, n_s, n_b, n_m, n_g, n_w, n_n, sc_s]
    have z : ∀ i : Nat, i < 5 → ¬ x = Int32.ofNat i := fun i hi e => by rw [e, n_i.2.2.2 _ (by omega)] at ho; omega
    refine ⟨⟨fun q => absurd q (z 0 (by omega)), fun q => absurd q (z 1 (by omega)), fun q => absurd q (z 2 (by omega)), fun q => absurd q (z 3 (by omega)), fun q => absurd q (z 4 (by omega))⟩, fun q => ?_⟩
    refine pp_go rfl sk_X8_total_76 ?_
    simp (disch := omega) only [sg_X8_total_76, sw_c, sw_n, sx, sf_4, sv_i, sv_j, sv_r, sv_q1, sv_q0, sv_1i, sv_1r, sv_2, sl_i, sl_j, sl_a, sl_v, sp_p, sp_f1, sp_f2, sc_w, sc_c, sc_r, sc_f, sc_a, sc_k, pp_in, pp_al, ↓reduceIte, Nat.reduceEqDiff, Nat.reduceLT, Nat.reduceLeDiff, Nat.reduceAdd, Nat.reduceSub, Nat.reduceMul, List.length_cons, List.length_nil, true_and, and_true, and_self, true_implies, eq_self, not_true_eq_false, not_false_eq_true, false_implies, implies_true, false_and, and_false, Bool.false_eq_true, or_true, true_or, or_false, false_or, Classical.not_not, Nat.le_refl, Nat.lt_irrefl, Bool.true_eq_false, n_lit, n_a, n_c, n_s, n_b, n_m, n_g, n_w, n_n, ex_0]
    exact hE trivial
theorem c_today (hC : sC sh R) (hG : cG I J G) (hP : P (.inl (some (.int (Int32.ofNat (G.1 0))))) (sh, I, J, R)) : pp_MW g (h + 1) mi_X8_today [.ref 64] (sh, I, J, R) P := by
  refine pp_st0 [(0, .ref 64)] ok_X8_today rfl (Nat.le_of_ble_eq_true rfl) rfl ?_
  refine pp_go rfl sk_X8_today_0 ?_
  simp (disch := omega) only [sg_X8_today_0, sw_c, sw_n, sx, sf_4, sv_i, sv_j, sv_r, sv_q1, sv_q0, sv_1i, sv_1r, sv_2, sl_i, sl_j, sl_a, sl_v, sp_p, sp_f1, sp_f2, sc_w, sc_c, sc_r, sc_f, sc_a, sc_k, pp_in, pp_al, ↓reduceIte, Nat.reduceEqDiff, Nat.reduceLT, Nat.reduceLeDiff, Nat.reduceAdd, Nat.reduceSub, Nat.reduceMul, List.length_cons, List.length_nil, true_and, and_true, and_self, true_implies, eq_self, not_true_eq_false, not_false_eq_true, false_implies, implies_true, false_and, and_false, Bool.false_eq_true, or_true, true_or, or_false, false_or, Classical.not_not, Nat.le_refl, Nat.lt_irrefl, Bool.true_eq_false, n_lit, n_a, n_c, n_s, n_b, n_m, n_g, n_w, n_n, rk_X8_today, hC, hG]
  exact hP
theorem c_period (hC : sC sh R) (hG : cG I J G) (hP : P (.inl (some (.int (Int32.ofNat (G.1 1))))) (sh, I, J, R)) : pp_MW g (h + 1) mi_X8_period [.ref 64] (sh, I, J, R) P := by
  refine pp_st0 [(0, .ref 64)] ok_X8_period rfl (Nat.le_of_ble_eq_true rfl) rfl ?_
  refine pp_go rfl sk_X8_period_0 ?_
  simp (disch := omega) only [sg_X8_period_0, sw_c, sw_n, sx, sf_4, sv_i, sv_j, sv_r, sv_q1, sv_q0, sv_1i, sv_1r, sv_2, sl_i, sl_j, sl_a, sl_v, sp_p, sp_f1, sp_f2, sc_w, sc_c, sc_r, sc_f, sc_a, sc_k, pp_in, pp_al, ↓reduceIte, Nat.reduceEqDiff, Nat.reduceLT, Nat.reduceLeDiff, Nat.reduceAdd, Nat.reduceSub, Nat.reduceMul, List.length_cons, List.length_nil, true_and, and_true, and_self, true_implies, eq_self, not_true_eq_false, not_false_eq_true, false_implies, implies_true, false_and, and_false, Bool.false_eq_true, or_true, true_or, or_false, false_or, Classical.not_not, Nat.le_refl, Nat.lt_irrefl, Bool.true_eq_false, n_lit, n_a, n_c, n_s, n_b, n_m, n_g, n_w, n_n, rk_X8_period, hC, hG]
  exact hP
theorem c_errorPosition (hC : sC sh R) (hP : P (.inl (some (.int (I 64 2)))) (sh, I, J, R)) : pp_MW g (h + 1) mi_X8_errorPosition [.ref 64] (sh, I, J, R) P := by
  refine pp_st0 [(0, .ref 64)] ok_X8_errorPosition rfl (Nat.le_of_ble_eq_true rfl) rfl ?_
  refine pp_go rfl sk_X8_errorPosition_0 ?_
  simp (disch := omega) only [sg_X8_errorPosition_0, sw_c, sw_n, sx, sf_4, sv_i, sv_j, sv_r, sv_q1, sv_q0, sv_1i, sv_1r, sv_2, sl_i, sl_j, sl_a, sl_v, sp_p, sp_f1, sp_f2, sc_w, sc_c, sc_r, sc_f, sc_a, sc_k, pp_in, pp_al, ↓reduceIte, Nat.reduceEqDiff, Nat.reduceLT, Nat.reduceLeDiff, Nat.reduceAdd, Nat.reduceSub, Nat.reduceMul, List.length_cons, List.length_nil, true_and, and_true, and_self, true_implies, eq_self, not_true_eq_false, not_false_eq_true, false_implies, implies_true, false_and, and_false, Bool.false_eq_true, or_true, true_or, or_false, false_or, Classical.not_not, Nat.le_refl, Nat.lt_irrefl, Bool.true_eq_false, n_lit, n_a, n_c, n_s, n_b, n_m, n_g, n_w, n_n, rk_X8_errorPosition, hC]
  exact hP
theorem c_owed {l : Int32} (hC : sC sh R) (hG : cG I J G) (hT : cT I T) (wT : wfT T) (hE : (o_owed T G l).1 = 1 → xB sh I J R P eB) (hP : (o_owed T G l).1 = 0 → P (.inl (some (.long (o_owed T G l).2))) (sh, I, J, R)) : pp_MW g (h + 2) mi_X8_owed [.ref 64, .int l] (sh, I, J, R) P := by
  refine pp_st0 [(0, .ref 64), (1, .int l)] ok_X8_owed rfl (Nat.le_of_ble_eq_true rfl) rfl ?_
  refine pp_go rfl sk_X8_owed_0 ?_
  simp (disch := omega) only [sg_X8_owed_0, sw_c, sw_n, sx, sf_4, sv_i, sv_j, sv_r, sv_q1, sv_q0, sv_1i, sv_1r, sv_2, sl_i, sl_j, sl_a, sl_v, sp_p, sp_f1, sp_f2, sc_w, sc_c, sc_r, sc_f, sc_a, sc_k, pp_in, pp_al, ↓reduceIte, Nat.reduceEqDiff, Nat.reduceLT, Nat.reduceLeDiff, Nat.reduceAdd, Nat.reduceSub, Nat.reduceMul, List.length_cons, List.length_nil, true_and, and_true, and_self, true_implies, eq_self, not_true_eq_false, not_false_eq_true, false_implies, implies_true, false_and, and_false, Bool.false_eq_true, or_true, true_or, or_false, false_or, Classical.not_not, Nat.le_refl, Nat.lt_irrefl, Bool.true_eq_false, n_lit, n_a, n_c, n_s, n_b, n_m, n_g, n_w, n_n, hC]
  rcases idx_cases l (T.1 3) (by omega) with ⟨k, k1, rfl, e1⟩ | ⟨ho, e1⟩
  · simp only [o_owed, wC, e1] at hP
    refine c_ckL0 hC hT wT k1 ?_
    simp (disch := omega) only [sw_c, sw_n, sx, sf_4, sv_i, sv_j, sv_r, sv_q1, sv_q0, sv_1i, sv_1r, sv_2, sl_i, sl_j, sl_a, sl_v, sp_p, sp_f1, sp_f2, sc_w, sc_c, sc_r, sc_f, sc_a, sc_k, pp_in, pp_al, ↓reduceIte, Nat.reduceEqDiff, Nat.reduceLT, Nat.reduceLeDiff, Nat.reduceAdd, Nat.reduceSub, Nat.reduceMul, List.length_cons, List.length_nil, true_and, and_true, and_self, true_implies, eq_self, not_true_eq_false, not_false_eq_true, false_implies, implies_true, false_and, and_false, Bool.false_eq_true, or_true, true_or, or_false, false_or, Classical.not_not, Nat.le_refl, Nat.lt_irrefl, Bool.true_eq_false, n_lit, n_a, n_c, n_s, n_b, n_m, n_g, n_w, n_n, hC, hG]
    exact hP trivial
  · simp only [o_owed, wC, e1] at hE
    exact c_ckL1 hC hT wT ho (hE trivial)
theorem c_account {m : Int32} (hC : sC sh R) (hG : cG I J G) (wG : wfL n G) (hE : (o_account G m).1 = 1 → xB sh I J R P eB) (hP : (o_account G m).1 = 0 → P (.inl (some (.long (o_account G m).2))) (sh, I, J, R)) : pp_MW g (h + 2) mi_X8_account [.ref 64, .int m] (sh, I, J, R) P := by
  refine pp_st0 [(0, .ref 64), (1, .int m)] ok_X8_account rfl (Nat.le_of_ble_eq_true rfl) rfl ?_
  refine pp_go rfl sk_X8_account_0 ?_
  simp (disch := omega) only [sg_X8_account_0, sw_c, sw_n, sx, sf_4, sv_i, sv_j, sv_r, sv_q1, sv_q0, sv_1i, sv_1r, sv_2, sl_i, sl_j, sl_a, sl_v, sp_p, sp_f1, sp_f2, sc_w, sc_c, sc_r, sc_f, sc_a, sc_k, pp_in, pp_al, ↓reduceIte, Nat.reduceEqDiff, Nat.reduceLT, Nat.reduceLeDiff, Nat.reduceAdd, Nat.reduceSub, Nat.reduceMul, List.length_cons, List.length_nil, true_and, and_true, and_self, true_implies, eq_self, not_true_eq_false, not_false_eq_true, false_implies, implies_true, false_and, and_false, Bool.false_eq_true, or_true, true_or, or_false, false_or, Classical.not_not, Nat.le_refl, Nat.lt_irrefl, Bool.true_eq_false, n_lit, n_a, n_c, n_s, n_b, n_m, n_g, n_w, n_n, hC]
  rcases idx_cases m (G.1 7) (by omega) with ⟨k, k1, rfl, e1⟩ | ⟨ho, e1⟩
  · simp only [o_account, wM, e1] at hP
    refine c_ckM0 hC hG wG k1 ?_
    simp (disch := omega) only [sw_c, sw_n, sx, sf_4, sv_i, sv_j, sv_r, sv_q1, sv_q0, sv_1i, sv_1r, sv_2, sl_i, sl_j, sl_a, sl_v, sp_p, sp_f1, sp_f2, sc_w, sc_c, sc_r, sc_f, sc_a, sc_k, pp_in, pp_al, ↓reduceIte, Nat.reduceEqDiff, Nat.reduceLT, Nat.reduceLeDiff, Nat.reduceAdd, Nat.reduceSub, Nat.reduceMul, List.length_cons, List.length_nil, true_and, and_true, and_self, true_implies, eq_self, not_true_eq_false, not_false_eq_true, false_implies, implies_true, false_and, and_false, Bool.false_eq_true, or_true, true_or, or_false, false_or, Classical.not_not, Nat.le_refl, Nat.lt_irrefl, Bool.true_eq_false, n_lit, n_a, n_c, n_s, n_b, n_m, n_g, n_w, n_n, hC, hG]
    exact hP trivial
  · simp only [o_account, wM, e1] at hE
    exact c_ckM1 hC hG wG ho (hE trivial)
theorem c_latestShare {m : Int32} (hC : sC sh R) (hG : cG I J G) (wG : wfL n G) (hE : (o_latestShare G m).1 = 1 → xB sh I J R P eB) (hP : (o_latestShare G m).1 = 0 → P (.inl (some (.long (o_latestShare G m).2))) (sh, I, J, R)) : pp_MW g (h + 2) mi_X8_latestShare [.ref 64, .int m] (sh, I, J, R) P := by
  refine pp_st0 [(0, .ref 64), (1, .int m)] ok_X8_latestShare rfl (Nat.le_of_ble_eq_true rfl) rfl ?_
  refine pp_go rfl sk_X8_latestShare_0 ?_
  simp (disch := omega) only [sg_X8_latestShare_0, sw_c, sw_n, sx, sf_4, sv_i, sv_j, sv_r, sv_q1, sv_q0, sv_1i, sv_1r, sv_2, sl_i, sl_j, sl_a, sl_v, sp_p, sp_f1, sp_f2, sc_w, sc_c, sc_r, sc_f, sc_a, sc_k, pp_in, pp_al, ↓reduceIte, Nat.reduceEqDiff, Nat.reduceLT, Nat.reduceLeDiff, Nat.reduceAdd, Nat.reduceSub, Nat.reduceMul, List.length_cons, List.length_nil, true_and, and_true, and_self, true_implies, eq_self, not_true_eq_false, not_false_eq_true, false_implies, implies_true, false_and, and_false, Bool.false_eq_true, or_true, true_or, or_false, false_or, Classical.not_not, Nat.le_refl, Nat.lt_irrefl, Bool.true_eq_false, n_lit, n_a, n_c, n_s, n_b, n_m, n_g, n_w, n_n, hC]
  rcases idx_cases m (G.1 7) (by omega) with ⟨k, k1, rfl, e1⟩ | ⟨ho, e1⟩
  · simp only [o_latestShare, wM, e1] at hP
    refine c_ckM0 hC hG wG k1 ?_
    simp (disch := omega) only [sw_c, sw_n, sx, sf_4, sv_i, sv_j, sv_r, sv_q1, sv_q0, sv_1i, sv_1r, sv_2, sl_i, sl_j, sl_a, sl_v, sp_p, sp_f1, sp_f2, sc_w, sc_c, sc_r, sc_f, sc_a, sc_k, pp_in, pp_al, ↓reduceIte, Nat.reduceEqDiff, Nat.reduceLT, Nat.reduceLeDiff, Nat.reduceAdd, Nat.reduceSub, Nat.reduceMul, List.length_cons, List.length_nil, true_and, and_true, and_self, true_implies, eq_self, not_true_eq_false, not_false_eq_true, false_implies, implies_true, false_and, and_false, Bool.false_eq_true, or_true, true_or, or_false, false_or, Classical.not_not, Nat.le_refl, Nat.lt_irrefl, Bool.true_eq_false, n_lit, n_a, n_c, n_s, n_b, n_m, n_g, n_w, n_n, hC, hG]
    exact hP trivial
  · simp only [o_latestShare, wM, e1] at hE
    exact c_ckM1 hC hG wG ho (hE trivial)
theorem c_reported {l v : Int32} (hC : sC sh R) (hG : cG I J G) (hT : cT I T) (wT : wfT T) (hE : (o_reported T G l v).1 = 1 → xB sh I J R P eB) (hP : (o_reported T G l v).1 = 0 → P (.inl (some (.int (o_reported T G l v).2))) (sh, I, J, R)) : pp_MW g (h + 2) mi_X8_reported [.ref 64, .int l, .int v] (sh, I, J, R) P := by
  refine pp_st0 [(0, .ref 64), (1, .int l), (2, .int v)] ok_X8_reported rfl (Nat.le_of_ble_eq_true rfl) rfl ?_
  refine pp_go rfl sk_X8_reported_0 ?_
  simp (disch := omega) only [sg_X8_reported_0, sw_c, sw_n, sx, sf_4, sv_i, sv_j, sv_r, sv_q1, sv_q0, sv_1i, sv_1r, sv_2, sl_i, sl_j, sl_a, sl_v, sp_p, sp_f1, sp_f2, sc_w, sc_c, sc_r, sc_f, sc_a, sc_k, pp_in, pp_al, ↓reduceIte, Nat.reduceEqDiff, Nat.reduceLT, Nat.reduceLeDiff, Nat.reduceAdd, Nat.reduceSub, Nat.reduceMul, List.length_cons, List.length_nil, true_and, and_true, and_self, true_implies, eq_self, not_true_eq_false, not_false_eq_true, false_implies, implies_true, false_and, and_false, Bool.false_eq_true, or_true, true_or, or_false, false_or, Classical.not_not, Nat.le_refl, Nat.lt_irrefl, Bool.true_eq_false, n_lit, n_a, n_c, n_s, n_b, n_m, n_g, n_w, n_n, rk_X8_reported, hC]
  rcases idx_cases l (T.1 3) (by omega) with ⟨k, k1, rfl, e1⟩ | ⟨ho, e1⟩
  · refine c_ckL0 hC hT wT k1 ?_
    simp (disch := omega) only [sw_c, sw_n, sx, sf_4, sv_i, sv_j, sv_r, sv_q1, sv_q0, sv_1i, sv_1r, sv_2, sl_i, sl_j, sl_a, sl_v, sp_p, sp_f1, sp_f2, sc_w, sc_c, sc_r, sc_f, sc_a, sc_k, pp_in, pp_al, ↓reduceIte, Nat.reduceEqDiff, Nat.reduceLT, Nat.reduceLeDiff, Nat.reduceAdd, Nat.reduceSub, Nat.reduceMul, List.length_cons, List.length_nil, true_and, and_true, and_self, true_implies, eq_self, not_true_eq_false, not_false_eq_true, false_implies, implies_true, false_and, and_false, Bool.false_eq_true, or_true, true_or, or_false, false_or, Classical.not_not, Nat.le_refl, Nat.lt_irrefl, Bool.true_eq_false, n_lit, n_a, n_c, n_s, n_b, n_m, n_g, n_w, n_n, rk_X8_reported, hC]
    rcases idx_cases v (T.1 1) (by omega) with ⟨j, j1, rfl, e2⟩ | ⟨ho, e2⟩
    · simp only [o_reported, wR, e1, e2] at hP
      refine c_ckV0 hC hT wT j1 ?_
      simp (disch := omega) only [sw_c, sw_n, sx, sf_4, sv_i, sv_j, sv_r, sv_q1, sv_q0, sv_1i, sv_1r, sv_2, sl_i, sl_j, sl_a, sl_v, sp_p, sp_f1, sp_f2, sc_w, sc_c, sc_r, sc_f, sc_a, sc_k, pp_in, pp_al, ↓reduceIte, Nat.reduceEqDiff, Nat.reduceLT, Nat.reduceLeDiff, Nat.reduceAdd, Nat.reduceSub, Nat.reduceMul, List.length_cons, List.length_nil, true_and, and_true, and_self, true_implies, eq_self, not_true_eq_false, not_false_eq_true, false_implies, implies_true, false_and, and_false, Bool.false_eq_true, or_true, true_or, or_false, false_or, Classical.not_not, Nat.le_refl, Nat.lt_irrefl, Bool.true_eq_false, n_lit, n_a, n_c, n_s, n_b, n_m, n_g, n_w, n_n, rk_X8_reported, hC]
      refine c_pairOf ?_
      simp (disch := omega) only [sw_c, sw_n, sx, sf_4, sv_i, sv_j, sv_r, sv_q1, sv_q0, sv_1i, sv_1r, sv_2, sl_i, sl_j, sl_a, sl_v, sp_p, sp_f1, sp_f2, sc_w, sc_c, sc_r, sc_f, sc_a, sc_k, pp_in, pp_al, ↓reduceIte, Nat.reduceEqDiff, Nat.reduceLT, Nat.reduceLeDiff, Nat.reduceAdd, Nat.reduceSub, Nat.reduceMul, List.length_cons, List.length_nil, true_and, and_true, and_self, true_implies, eq_self, not_true_eq_false, not_false_eq_true, false_implies, implies_true, false_and, and_false, Bool.false_eq_true, or_true, true_or, or_false, false_or, Classical.not_not, Nat.le_refl, Nat.lt_irrefl, Bool.true_eq_false, n_lit, n_a, n_c, n_s, n_b, n_m, n_g, n_w, n_n, rk_X8_reported, hC, hG]
      exact hP trivial
    · simp only [o_reported, wR, e1, e2] at hE
      exact c_ckV1 hC hT wT ho (hE trivial)
  · simp only [o_reported, wR, e1] at hE
    exact c_ckL1 hC hT wT ho (hE trivial)
theorem c_ldb_l (hC : sC sh R) (hG : cG I J G) (hT : cT I T) (wT : wfT T) : ∀ f p, f + p = T.1 3 → P (.inl (some (.int (oi (ldb G (T.1 3)))))) (sh, I, J, R) → pp_N g h mi_X8_largestDebtor P 7 [(0, .ref 64), (1, .int (oi (ldb G p))), (2, .long (dv G (ldb G p))), (4, .int (Int32.ofNat p))] [] (sh, I, J, R) := by
  intro f
  induction f with
  | zero =>
    intro p hp hP
    have hp : p = T.1 3 := by omega
    subst hp
    repeat' (first | ((with_reducible refine pp_go (pc := 7) (seg := sg_X8_largestDebtor_7) hh_X8_largestDebtor sk_X8_largestDebtor_7 ?_); simp (disch := omega) only [sg_X8_largestDebtor_7, sw_c, sw_n, sx, sf_4, sv_i, sv_j, sv_r, sv_q1, sv_q0, sv_1i, sv_1r, sv_2, sl_i, sl_j, sl_a, sl_v, sp_p, sp_f1, sp_f2, sc_w, sc_c, sc_r, sc_f, sc_a, sc_k, pp_in, pp_al, ↓reduceIte, Nat.reduceEqDiff, Nat.reduceLT, Nat.reduceLeDiff, Nat.reduceAdd, Nat.reduceSub, Nat.reduceMul, List.length_cons, List.length_nil, true_and, and_true, and_self, true_implies, eq_self, not_true_eq_false, not_false_eq_true, false_implies, implies_true, false_and, and_false, Bool.false_eq_true, or_true, true_or, or_false, false_or, Classical.not_not, Nat.le_refl, Nat.lt_irrefl, Bool.true_eq_false, n_lit, n_a, n_c, n_s, n_b, n_m, n_g, n_w, n_n, rk_X8_largestDebtor, hC, hT]) | ((with_reducible refine pp_go (pc := 54) (seg := sg_X8_largestDebtor_54) hh_X8_largestDebtor sk_X8_largestDebtor_54 ?_); simp (disch := omega) only [sg_X8_largestDebtor_54, sw_c, sw_n, sx, sf_4, sv_i, sv_j, sv_r, sv_q1, sv_q0, sv_1i, sv_1r, sv_2, sl_i, sl_j, sl_a, sl_v, sp_p, sp_f1, sp_f2, sc_w, sc_c, sc_r, sc_f, sc_a, sc_k, pp_in, pp_al, ↓reduceIte, Nat.reduceEqDiff, Nat.reduceLT, Nat.reduceLeDiff, Nat.reduceAdd, Nat.reduceSub, Nat.reduceMul, List.length_cons, List.length_nil, true_and, and_true, and_self, true_implies, eq_self, not_true_eq_false, not_false_eq_true, false_implies, implies_true, false_and, and_false, Bool.false_eq_true, or_true, true_or, or_false, false_or, Classical.not_not, Nat.le_refl, Nat.lt_irrefl, Bool.true_eq_false, n_lit, n_a, n_c, n_s, n_b, n_m, n_g, n_w, n_n, rk_X8_largestDebtor, hC, hT]) | (refine ⟨fun _ => ?_, fun _ => ?_⟩ <;> try (exfalso; omega)) | fail)
    exact hP
  | succ f ih =>
    intro p hp hP
    have nx := ih (p + 1) (by omega) hP
    rw [ldb] at nx
    have q1 : ¬ T.1 3 ≤ p := by omega
    by_cases c : dv G (ldb G p) < G.2 (177 + p)
    · rw [if_pos c] at nx
      have c' : ¬ G.2 (177 + p) ≤ dv G (ldb G p) := Int64.not_le.mpr c
      refine pp_go rfl sk_X8_largestDebtor_7 ?_
      simp (disch := omega) only [sg_X8_largestDebtor_7, sw_c, sw_n, sx, sf_4, sv_i, sv_j, sv_r, sv_q1, sv_q0, sv_1i, sv_1r, sv_2, sl_i, sl_j, sl_a, sl_v, sp_p, sp_f1, sp_f2, sc_w, sc_c, sc_r, sc_f, sc_a, sc_k, pp_in, pp_al, ↓reduceIte, Nat.reduceEqDiff, Nat.reduceLT, Nat.reduceLeDiff, Nat.reduceAdd, Nat.reduceSub, Nat.reduceMul, List.length_cons, List.length_nil, true_and, and_true, and_self, true_implies, eq_self, not_true_eq_false, not_false_eq_true, false_implies, implies_true, false_and, and_false, Bool.false_eq_true, or_true, true_or, or_false, false_or, Classical.not_not, Nat.le_refl, Nat.lt_irrefl, Bool.true_eq_false, n_lit, n_a, n_c, n_s, n_b, n_m, n_g, n_w, n_n, rk_X8_largestDebtor, hC, hG, hT, q1, c']
      refine pp_go rfl sk_X8_largestDebtor_48 ?_
      simp (disch := omega) only [sg_X8_largestDebtor_48, sw_c, sw_n, sx, sf_4, sv_i, sv_j, sv_r, sv_q1, sv_q0, sv_1i, sv_1r, sv_2, sl_i, sl_j, sl_a, sl_v, sp_p, sp_f1, sp_f2, sc_w, sc_c, sc_r, sc_f, sc_a, sc_k, pp_in, pp_al, ↓reduceIte, Nat.reduceEqDiff, Nat.reduceLT, Nat.reduceLeDiff, Nat.reduceAdd, Nat.reduceSub, Nat.reduceMul, List.length_cons, List.length_nil, true_and, and_true, and_self, true_implies, eq_self, not_true_eq_false, not_false_eq_true, false_implies, implies_true, false_and, and_false, Bool.false_eq_true, or_true, true_or, or_false, false_or, Classical.not_not, Nat.le_refl, Nat.lt_irrefl, Bool.true_eq_false, n_lit, n_a, n_c, n_s, n_b, n_m, n_g, n_w, n_n, rk_X8_largestDebtor]
      exact nx
    · rw [if_neg c] at nx
      have c' : G.2 (177 + p) ≤ dv G (ldb G p) := Int64.not_lt.mp c
      refine pp_go rfl sk_X8_largestDebtor_7 ?_
      simp (disch := omega) only [sg_X8_largestDebtor_7, sw_c, sw_n, sx, sf_4, sv_i, sv_j, sv_r, sv_q1, sv_q0, sv_1i, sv_1r, sv_2, sl_i, sl_j, sl_a, sl_v, sp_p, sp_f1, sp_f2, sc_w, sc_c, sc_r, sc_f, sc_a, sc_k, pp_in, pp_al, ↓reduceIte, Nat.reduceEqDiff, Nat.reduceLT, Nat.reduceLeDiff, Nat.reduceAdd, Nat.reduceSub, Nat.reduceMul, List.length_cons, List.length_nil, true_and, and_true, and_self, true_implies, eq_self, not_true_eq_false, not_false_eq_true, false_implies, implies_true, false_and, and_false, Bool.false_eq_true, or_true, true_or, or_false, false_or, Classical.not_not, Nat.le_refl, Nat.lt_irrefl, Bool.true_eq_false, n_lit, n_a, n_c, n_s, n_b, n_m, n_g, n_w, n_n, rk_X8_largestDebtor, hC, hG, hT, q1, c']
      refine pp_go rfl sk_X8_largestDebtor_48 ?_
      simp (disch := omega) only [sg_X8_largestDebtor_48, sw_c, sw_n, sx, sf_4, sv_i, sv_j, sv_r, sv_q1, sv_q0, sv_1i, sv_1r, sv_2, sl_i, sl_j, sl_a, sl_v, sp_p, sp_f1, sp_f2, sc_w, sc_c, sc_r, sc_f, sc_a, sc_k, pp_in, pp_al, ↓reduceIte, Nat.reduceEqDiff, Nat.reduceLT, Nat.reduceLeDiff, Nat.reduceAdd, Nat.reduceSub, Nat.reduceMul, List.length_cons, List.length_nil, true_and, and_true, and_self, true_implies, eq_self, not_true_eq_false, not_false_eq_true, false_implies, implies_true, false_and, and_false, Bool.false_eq_true, or_true, true_or, or_false, false_or, Classical.not_not, Nat.le_refl, Nat.lt_irrefl, Bool.true_eq_false, n_lit, n_a, n_c, n_s, n_b, n_m, n_g, n_w, n_n, rk_X8_largestDebtor]
      exact nx
theorem c_largestDebtor (hC : sC sh R) (hG : cG I J G) (hT : cT I T) (wT : wfT T) (hP : P (.inl (some (.int (oi (ldb G (T.1 3)))))) (sh, I, J, R)) : pp_MW g (h + 1) mi_X8_largestDebtor [.ref 64] (sh, I, J, R) P := by
  refine pp_st0 [(0, .ref 64)] ok_X8_largestDebtor rfl (Nat.le_of_ble_eq_true rfl) rfl ?_
  refine pp_go rfl sk_X8_largestDebtor_0 ?_
  simp (disch := omega) only [sg_X8_largestDebtor_0, sw_c, sw_n, sx, sf_4, sv_i, sv_j, sv_r, sv_q1, sv_q0, sv_1i, sv_1r, sv_2, sl_i, sl_j, sl_a, sl_v, sp_p, sp_f1, sp_f2, sc_w, sc_c, sc_r, sc_f, sc_a, sc_k, pp_in, pp_al, ↓reduceIte, Nat.reduceEqDiff, Nat.reduceLT, Nat.reduceLeDiff, Nat.reduceAdd, Nat.reduceSub, Nat.reduceMul, List.length_cons, List.length_nil, true_and, and_true, and_self, true_implies, eq_self, not_true_eq_false, not_false_eq_true, false_implies, implies_true, false_and, and_false, Bool.false_eq_true, or_true, true_or, or_false, false_or, Classical.not_not, Nat.le_refl, Nat.lt_irrefl, Bool.true_eq_false, n_lit, n_a, n_c, n_s, n_b, n_m, n_g, n_w, n_n, rk_X8_largestDebtor]
  exact c_ldb_l hC hG hT wT (T.1 3) 0 rfl hP
end
