/-! THE CLASS, 12: credits, audits, the end of a period -/
set_option maxHeartbeats 2000000
set_option maxRecDepth 100000
theorem n_100 : (Int64.ofNat 100).toInt = 100 := rfl
/-- a credit is small -/
theorem crd_b {T : TM} {G : LG} {l n : Nat} (wT : wfT T) (hn : n ≤ 1000) (wG : wfL n G) (hl : l < 6) : ∃ c, c ≤ 9999 ∧ crd T G l = Int64.ofNat c := by
  have d := wG.2.2.2.2.2.2.2.2.2.2.2.2 l hl
  have t12 : T.1 12 ≤ 100 := wT.2.2.2.2.2.2.2.2.2.2.1
  have t11 : T.1 11 ≤ 9999 := wT.2.2.2.2.2.2.2.2.2.1
  obtain ⟨q, hq, e⟩ : ∃ q : Nat, q ≤ 5000000000 * 1000 ∧ G.2 (177 + l) = Int64.ofNat q := by
    refine ⟨(G.2 (177 + l)).toInt.toNat, ?_, ?_⟩
    · have : 5000000000 * n ≤ 5000000000 * 1000 := Nat.mul_le_mul_left _ hn
      omega
    · apply Int64.toInt_inj.mp
      rw [Int64.toInt_ofNat_of_lt]
      · omega
      · have : 5000000000 * n ≤ 5000000000 * 1000 := Nat.mul_le_mul_left _ hn
        omega
  have m : q * T.1 12 ≤ 5000000000 * 1000 * 100 := Nat.mul_le_mul hq t12
  have ee : G.2 (177 + l) * Int64.ofNat (T.1 12) / Int64.ofNat 100 = Int64.ofNat (q * T.1 12 / 100) := by
    rw [e, n_a.2.2.2.1, n_n.2.2.1 _ _ (by omega) (by omega)]
  unfold crd
  rw [ee]
  by_cases c : q * T.1 12 / 100 < T.1 11
  · rw [if_pos (by rw [n_c.2.2.2.1 _ _ (by omega) (by omega)]; exact c)]
    exact ⟨_, by omega, rfl⟩
  · rw [if_neg (by rw [n_c.2.2.2.1 _ _ (by omega) (by omega)]; exact c)]
    exact ⟨_, t11, rfl⟩
theorem crd_min {T : TM} {G : LG} {l : Nat} : (if Int64.ofNat (T.1 11) < G.2 (177 + l) * Int64.ofNat (T.1 12) / Int64.ofNat 100 then Int64.ofNat (T.1 11) else G.2 (177 + l) * Int64.ofNat (T.1 12) / Int64.ofNat 100) = crd T G l := by
  unfold crd
  generalize G.2 (177 + l) * Int64.ofNat (T.1 12) / Int64.ofNat 100 = x
  generalize Int64.ofNat (T.1 11) = y
  by_cases c : x < y
  · rw [if_pos c, if_neg (fun z => Int64.lt_asymm c z)]
  · rw [if_neg c]
    by_cases d : y < x
    · rw [if_pos d]
    · rw [if_neg d]
      exact Int64.le_antisymm (Int64.not_lt.mp d) (Int64.not_lt.mp c)
section
variable {g : pp_G} {h : Nat} {sh : List (Nat × Nat)} {I : Nat → Nat → Int32} {J : Nat → Nat → Int64} {R : Nat → Nat → Option Nat} {w : pp_W} {P : pp_R → pp_W → Prop} {G : LG} {T : TM} {n : Nat} {A : AS}
theorem c_grantBack {l : Int32} (hC : sC sh R) (hA : RC A sh I J R) (wG : wfL n (aG A)) (wT : wfT (aT A)) (hn : n ≤ 1000) (h141 : 141 ≤ sh.length) (hE : (o_grantBack A l).1 = 1 → xB sh I J R P eB) (hE2 : (o_grantBack A l).1 = 2 → xB sh I J R P eS) (hP : (o_grantBack A l).1 = 0 → cP sh I J R P (.int (o_grantBack A l).2.1) (o_grantBack A l).2.2) : pp_MW g (h + 3) mi_X8_grantBack [.ref 64, .int l] (sh, I, J, R) P := by
  refine pp_st0 [(0, .ref 64), (1, .int l)] ok_X8_grantBack rfl (Nat.le_of_ble_eq_true rfl) rfl ?_
  have hG := hA.1
  have hT := hA.2.1
  refine pp_go rfl sk_X8_grantBack_0 ?_
  simp (disch := omega) only [sg_X8_grantBack_0, sw_c, sw_n, sx, sf_4, sv_i, sv_j, sv_r, sv_q1, sv_q0, sv_1i, sv_1r, sv_2, sl_i, sl_j, sl_a, sl_v, sp_p, sp_f1, sp_f2, sc_w, sc_c, sc_r, sc_f, sc_a, sc_k, pp_in, pp_al, ↓reduceIte, Nat.reduceEqDiff, Nat.reduceLT, Nat.reduceLeDiff, Nat.reduceAdd, Nat.reduceSub, Nat.reduceMul, List.length_cons, List.length_nil, true_and, and_true, and_self, true_implies, eq_self, not_true_eq_false, not_false_eq_true, false_implies, implies_true, false_and, and_false, Bool.false_eq_true, or_true, true_or, or_false, false_or, Classical.not_not, Nat.le_refl, Nat.lt_irrefl, Bool.true_eq_false, n_lit, n_a, n_c, n_s, n_b, n_m, n_g, n_w, n_n, rk_X8_grantBack, hC]
  rcases idx_cases l ((aT A).1 3) (by omega) with ⟨k, hk, rfl, e1⟩ | ⟨ho, e1⟩
  · have k6 : k < 6 := by omega
    have ca := cdt_and (aG A) k6
    have cl := cdt_lt (aG A)
    have la : cdt (aG A) &&& 1 <<< k ≤ cdt (aG A) := Nat.and_le_left
    obtain ⟨c, c9, ec⟩ := crd_b wT hn wG k6
    refine c_ckL0 hC hT wT hk ?_
    simp (disch := omega) only [sw_c, sw_n, sx, sf_4, sv_i, sv_j, sv_r, sv_q1, sv_q0, sv_1i, sv_1r, sv_2, sl_i, sl_j, sl_a, sl_v, sp_p, sp_f1, sp_f2, sc_w, sc_c, sc_r, sc_f, sc_a, sc_k, pp_in, pp_al, ↓reduceIte, Nat.reduceEqDiff, Nat.reduceLT, Nat.reduceLeDiff, Nat.reduceAdd, Nat.reduceSub, Nat.reduceMul, List.length_cons, List.length_nil, true_and, and_true, and_self, true_implies, eq_self, not_true_eq_false, not_false_eq_true, false_implies, implies_true, false_and, and_false, Bool.false_eq_true, or_true, true_or, or_false, false_or, Classical.not_not, Nat.le_refl, Nat.lt_irrefl, Bool.true_eq_false, n_lit, n_a, n_c, n_s, n_b, n_m, n_g, n_w, n_n, rk_X8_grantBack, hC, hG]
    refine ⟨fun q => ?_, fun q => ?_⟩
    · have q' : ¬ (aG A).1 (207 + k) = 1 := ca ▸ q
      refine pp_go rfl sk_X8_grantBack_32 ?_
      simp (disch := omega) only [sg_X8_grantBack_32, sw_c, sw_n, sx, sf_4, sv_i, sv_j, sv_r, sv_q1, sv_q0, sv_1i, sv_1r, sv_2, sl_i, sl_j, sl_a, sl_v, sp_p, sp_f1, sp_f2, sc_w, sc_c, sc_r, sc_f, sc_a, sc_k, pp_in, pp_al, ↓reduceIte, Nat.reduceEqDiff, Nat.reduceLT, Nat.reduceLeDiff, Nat.reduceAdd, Nat.reduceSub, Nat.reduceMul, List.length_cons, List.length_nil, true_and, and_true, and_self, true_implies, eq_self, not_true_eq_false, not_false_eq_true, false_implies, implies_true, false_and, and_false, Bool.false_eq_true, or_true, true_or, or_false, false_or, Classical.not_not, Nat.le_refl, Nat.lt_irrefl, Bool.true_eq_false, n_lit, n_a, n_c, n_s, n_b, n_m, n_g, n_w, n_n, rk_X8_grantBack, hC, hG, hT]
      rw [crd_min, ec]
      simp (disch := omega) only [sw_c, sw_n, sx, sf_4, sv_i, sv_j, sv_r, sv_q1, sv_q0, sv_1i, sv_1r, sv_2, sl_i, sl_j, sl_a, sl_v, sp_p, sp_f1, sp_f2, sc_w, sc_c, sc_r, sc_f, sc_a, sc_k, pp_in, pp_al, ↓reduceIte, Nat.reduceEqDiff, Nat.reduceLT, Nat.reduceLeDiff, Nat.reduceAdd, Nat.reduceSub, Nat.reduceMul, List.length_cons, List.length_nil, true_and, and_true, and_self, true_implies, eq_self, not_true_eq_false, not_false_eq_true, false_implies, implies_true, false_and, and_false, Bool.false_eq_true, or_true, true_or, or_false, false_or, Classical.not_not, Nat.le_refl, Nat.lt_irrefl, Bool.true_eq_false, n_lit, n_a, n_c, n_s, n_b, n_m, n_g, n_w, n_n, rk_X8_grantBack]
      refine ⟨fun c0 => ?_, fun c0 => ?_⟩
      · have nn : ¬ ((aG A).1 (207 + k) = 1 ∨ crd (aT A) (aG A) k = Int64.ofNat 0) := by
          rintro (z | z)
          · exact q' z
          · rw [ec, n_c.2.2.2.2.2 _ _ (by omega) (by omega)] at z; exact c0 z
        simp only [o_grantBack, wC, e1, if_neg nn] at hP
        rw [ec, n_a.2.2.2.2] at hP
        refine pp_go rfl sk_X8_grantBack_86 ?_
        simp (disch := omega) only [sg_X8_grantBack_86, sw_c, sw_n, sx, sf_4, sv_i, sv_j, sv_r, sv_q1, sv_q0, sv_1i, sv_1r, sv_2, sl_i, sl_j, sl_a, sl_v, sp_p, sp_f1, sp_f2, sc_w, sc_c, sc_r, sc_f, sc_a, sc_k, pp_in, pp_al, ↓reduceIte, Nat.reduceEqDiff, Nat.reduceLT, Nat.reduceLeDiff, Nat.reduceAdd, Nat.reduceSub, Nat.reduceMul, List.length_cons, List.length_nil, true_and, and_true, and_self, true_implies, eq_self, not_true_eq_false, not_false_eq_true, false_implies, implies_true, false_and, and_false, Bool.false_eq_true, or_true, true_or, or_false, false_or, Classical.not_not, Nat.le_refl, Nat.lt_irrefl, Bool.true_eq_false, n_lit, n_a, n_c, n_s, n_b, n_m, n_g, n_w, n_n, rk_X8_grantBack, hC]
        refine c_remember hC hA h141 (fun sh1 I1 J1 R1 hC1 f1 h1 => ?_)
        have hG1 : cG I1 J1 (aG A) := h1.1
        simp (disch := omega) only [sw_c, sw_n, sx, sf_4, sv_i, sv_j, sv_r, sv_q1, sv_q0, sv_1i, sv_1r, sv_2, sl_i, sl_j, sl_a, sl_v, sp_p, sp_f1, sp_f2, sc_w, sc_c, sc_r, sc_f, sc_a, sc_k, pp_in, pp_al, ↓reduceIte, Nat.reduceEqDiff, Nat.reduceLT, Nat.reduceLeDiff, Nat.reduceAdd, Nat.reduceSub, Nat.reduceMul, List.length_cons, List.length_nil, true_and, and_true, and_self, true_implies, eq_self, not_true_eq_false, not_false_eq_true, false_implies, implies_true, false_and, and_false, Bool.false_eq_true, or_true, true_or, or_false, false_or, Classical.not_not, Nat.le_refl, Nat.lt_irrefl, Bool.true_eq_false, n_lit, n_a, n_c, n_s, n_b, n_m, n_g, n_w, n_n, rk_X8_grantBack, hC1, hG1]
        have hG2 := uA_109 (x := (aG A).2 (177 + k) - Int64.ofNat c) k6 hG1
        have hG3 := uF_11 (d := va_up (aG A).1 (207 + k) 1) (fun i hi => by rw [va_up, if_neg (by omega)]) hG2
        rw [← cdt_or (aG A) _ k6] at hG3
        exact fin_c (hP trivial) hC1 f1 h1 (fun a x y => by first | rfl | (simp only [n_m]; repeat rw [if_neg (by omega)])) (fun a x => by first | rfl | (simp only [n_m]; repeat rw [if_neg (by omega)])) hG3
      · have nn : (aG A).1 (207 + k) = 1 ∨ crd (aT A) (aG A) k = Int64.ofNat 0 := Or.inr (by rw [ec, c0])
        simp only [o_grantBack, wC, e1, if_pos nn] at hE2
        simp (disch := omega) only [sw_c, sw_n, sx, sf_4, sv_i, sv_j, sv_r, sv_q1, sv_q0, sv_1i, sv_1r, sv_2, sl_i, sl_j, sl_a, sl_v, sp_p, sp_f1, sp_f2, sc_w, sc_c, sc_r, sc_f, sc_a, sc_k, pp_in, pp_al, ↓reduceIte, Nat.reduceEqDiff, Nat.reduceLT, Nat.reduceLeDiff, Nat.reduceAdd, Nat.reduceSub, Nat.reduceMul, List.length_cons, List.length_nil, true_and, and_true, and_self, true_implies, eq_self, not_true_eq_false, not_false_eq_true, false_implies, implies_true, false_and, and_false, Bool.false_eq_true, or_true, true_or, or_false, false_or, Classical.not_not, Nat.le_refl, Nat.lt_irrefl, Bool.true_eq_false, n_lit, n_a, n_c, n_s, n_b, n_m, n_g, n_w, n_n, rk_X8_grantBack, ex_1]
        exact hE2 trivial
    · have q' : (aG A).1 (207 + k) = 1 := by
        by_cases z : (aG A).1 (207 + k) = 1
        · exact z
        · exact absurd (ca.symm ▸ z) q
      simp only [o_grantBack, wC, e1, if_pos (Or.inl q' : (aG A).1 (207 + k) = 1 ∨ crd (aT A) (aG A) k = Int64.ofNat 0)] at hE2
      simp (disch := omega) only [sw_c, sw_n, sx, sf_4, sv_i, sv_j, sv_r, sv_q1, sv_q0, sv_1i, sv_1r, sv_2, sl_i, sl_j, sl_a, sl_v, sp_p, sp_f1, sp_f2, sc_w, sc_c, sc_r, sc_f, sc_a, sc_k, pp_in, pp_al, ↓reduceIte, Nat.reduceEqDiff, Nat.reduceLT, Nat.reduceLeDiff, Nat.reduceAdd, Nat.reduceSub, Nat.reduceMul, List.length_cons, List.length_nil, true_and, and_true, and_self, true_implies, eq_self, not_true_eq_false, not_false_eq_true, false_implies, implies_true, false_and, and_false, Bool.false_eq_true, or_true, true_or, or_false, false_or, Classical.not_not, Nat.le_refl, Nat.lt_irrefl, Bool.true_eq_false, n_lit, n_a, n_c, n_s, n_b, n_m, n_g, n_w, n_n, rk_X8_grantBack, ex_1]
      exact hE2 trivial
  · simp only [o_grantBack, wC, e1] at hE
    exact c_ckL1 hC hT wT ho (hE trivial)
theorem c_audit {l v u : Int32} (hC : sC sh R) (hA : RC A sh I J R) (wG : wfL n (aG A)) (wT : wfT (aT A)) (hn : n ≤ 1000) (h141 : 141 ≤ sh.length) (hE : (o_audit A l v u).1 = 1 → xB sh I J R P eB) (hE2 : (o_audit A l v u).1 = 2 → xB sh I J R P eA) (hP : (o_audit A l v u).1 = 0 → cP sh I J R P (.long (o_audit A l v u).2.1) (o_audit A l v u).2.2) : pp_MW g (h + 3) mi_X8_audit [.ref 64, .int l, .int v, .int u] (sh, I, J, R) P := by
  refine pp_st0 [(0, .ref 64), (1, .int l), (2, .int v), (3, .int u)] ok_X8_audit rfl (Nat.le_of_ble_eq_true rfl) rfl ?_
  have hG := hA.1
  have hT := hA.2.1
  refine pp_go rfl sk_X8_audit_0 ?_
  simp (disch := omega) only [sg_X8_audit_0, sw_c, sw_n, sx, sf_4, sv_i, sv_j, sv_r, sv_q1, sv_q0, sv_1i, sv_1r, sv_2, sl_i, sl_j, sl_a, sl_v, sp_p, sp_f1, sp_f2, sc_w, sc_c, sc_r, sc_f, sc_a, sc_k, pp_in, pp_al, ↓reduceIte, Nat.reduceEqDiff, Nat.reduceLT, Nat.reduceLeDiff, Nat.reduceAdd, Nat.reduceSub, Nat.reduceMul, List.length_cons, List.length_nil, true_and, and_true, and_self, true_implies, eq_self, not_true_eq_false, not_false_eq_true, false_implies, implies_true, false_and, and_false, Bool.false_eq_true, or_true, true_or, or_false, false_or, Classical.not_not, Nat.le_refl, Nat.lt_irrefl, Bool.true_eq_false, n_lit, n_a, n_c, n_s, n_b, n_m, n_g, n_w, n_n, hC]
  rcases idx_cases l ((aT A).1 3) (by omega) with ⟨k, hk, rfl, e1⟩ | ⟨ho, e1⟩
  · refine c_ckL0 hC hT wT hk ?_
    simp (disch := omega) only [sw_c, sw_n, sx, sf_4, sv_i, sv_j, sv_r, sv_q1, sv_q0, sv_1i, sv_1r, sv_2, sl_i, sl_j, sl_a, sl_v, sp_p, sp_f1, sp_f2, sc_w, sc_c, sc_r, sc_f, sc_a, sc_k, pp_in, pp_al, ↓reduceIte, Nat.reduceEqDiff, Nat.reduceLT, Nat.reduceLeDiff, Nat.reduceAdd, Nat.reduceSub, Nat.reduceMul, List.length_cons, List.length_nil, true_and, and_true, and_self, true_implies, eq_self, not_true_eq_false, not_false_eq_true, false_implies, implies_true, false_and, and_false, Bool.false_eq_true, or_true, true_or, or_false, false_or, Classical.not_not, Nat.le_refl, Nat.lt_irrefl, Bool.true_eq_false, n_lit, n_a, n_c, n_s, n_b, n_m, n_g, n_w, n_n, hC]
    rcases idx_cases v ((aT A).1 1) (by omega) with ⟨j, hj, rfl, e2⟩ | ⟨ho, e2⟩
    · rcases rng_cases u 0 99999 (by omega) with ⟨i, i1, i2, rfl, e3⟩ | ⟨ho, e3⟩
      · have q1 : ¬ i < 0 := by omega
        have kj : 4 * k + j < 24 := by omega
        have ub : (aG A).1 (183 + (4 * k + j)) ≤ 99999 * (n + 1) := wG.2.2.2.2.2.2.2.2.2.2.1 _ kj
        simp only [o_audit, wR, e1, e2, e3] at hP
        rw [Nat.add_assoc 183] at hP
        refine c_ckV0 hC hT wT hj ?_
        simp (disch := omega) only [sw_c, sw_n, sx, sf_4, sv_i, sv_j, sv_r, sv_q1, sv_q0, sv_1i, sv_1r, sv_2, sl_i, sl_j, sl_a, sl_v, sp_p, sp_f1, sp_f2, sc_w, sc_c, sc_r, sc_f, sc_a, sc_k, pp_in, pp_al, ↓reduceIte, Nat.reduceEqDiff, Nat.reduceLT, Nat.reduceLeDiff, Nat.reduceAdd, Nat.reduceSub, Nat.reduceMul, List.length_cons, List.length_nil, true_and, and_true, and_self, true_implies, eq_self, not_true_eq_false, not_false_eq_true, false_implies, implies_true, false_and, and_false, Bool.false_eq_true, or_true, true_or, or_false, false_or, Classical.not_not, Nat.le_refl, Nat.lt_irrefl, Bool.true_eq_false, n_lit, n_a, n_c, n_s, n_b, n_m, n_g, n_w, n_n, q1, i2]
        refine pp_go rfl sk_X8_audit_32 ?_
        simp (disch := omega) only [sg_X8_audit_32, sw_c, sw_n, sx, sf_4, sv_i, sv_j, sv_r, sv_q1, sv_q0, sv_1i, sv_1r, sv_2, sl_i, sl_j, sl_a, sl_v, sp_p, sp_f1, sp_f2, sc_w, sc_c, sc_r, sc_f, sc_a, sc_k, pp_in, pp_al, ↓reduceIte, Nat.reduceEqDiff, Nat.reduceLT, Nat.reduceLeDiff, Nat.reduceAdd, Nat.reduceSub, Nat.reduceMul, List.length_cons, List.length_nil, true_and, and_true, and_self, true_implies, eq_self, not_true_eq_false, not_false_eq_true, false_implies, implies_true, false_and, and_false, Bool.false_eq_true, or_true, true_or, or_false, false_or, Classical.not_not, Nat.le_refl, Nat.lt_irrefl, Bool.true_eq_false, n_lit, n_a, n_c, n_s, n_b, n_m, n_g, n_w, n_n, hC]
        refine c_remember hC hA h141 (fun sh1 I1 J1 R1 hC1 f1 h1 => ?_)
        have hG1 : cG I1 J1 (aG A) := h1.1
        have hT1 : cT I1 (aT A) := h1.2.1
        simp only [sw_c, sw_n, sx, sf_4, sv_i, sv_j, sv_r, sv_q1, sv_q0, sv_1i, sv_1r, sv_2, sl_i, sl_j, sl_a, sl_v, sp_p, sp_f1, sp_f2, sc_w, sc_c, sc_r, sc_f, sc_a, sc_k, pp_in, pp_al, ↓reduceIte, Nat.reduceEqDiff, Nat.reduceLT, Nat.reduceLeDiff, Nat.reduceAdd, Nat.reduceSub, Nat.reduceMul, List.length_cons, List.length_nil, true_and, and_true, and_self, true_implies, eq_self, not_true_eq_false, not_false_eq_true, false_implies, implies_true, false_and, and_false, Bool.false_eq_true, or_true, true_or, or_false, false_or, Classical.not_not, Nat.le_refl, Nat.lt_irrefl, Bool.true_eq_false, hC1]
        refine c_pairOf ?_
        by_cases c : i ≤ (aG A).1 (183 + (4 * k + j))
        · rw [if_pos c] at hP
          have q : ¬ Int32.ofNat 0 < Int32.ofNat i - Int32.ofNat ((aG A).1 (183 + (4 * k + j))) := by
            rw [n_sub, Int32.lt_iff_toInt_lt, n_i.2.2.1 _ (by omega) (by omega)]
            show ¬ (0 : Int) < _
            omega
          by_cases z : i = (aG A).1 (183 + (4 * k + j))
          · simp (disch := omega) only [sw_c, sw_n, sx, sf_4, sv_i, sv_j, sv_r, sv_q1, sv_q0, sv_1i, sv_1r, sv_2, sl_i, sl_j, sl_a, sl_v, sp_p, sp_f1, sp_f2, sc_w, sc_c, sc_r, sc_f, sc_a, sc_k, pp_in, pp_al, ↓reduceIte, Nat.reduceEqDiff, Nat.reduceLT, Nat.reduceLeDiff, Nat.reduceAdd, Nat.reduceSub, Nat.reduceMul, List.length_cons, List.length_nil, true_and, and_true, and_self, true_implies, eq_self, not_true_eq_false, not_false_eq_true, false_implies, implies_true, false_and, and_false, Bool.false_eq_true, or_true, true_or, or_false, false_or, Classical.not_not, Nat.le_refl, Nat.lt_irrefl, Bool.true_eq_false, n_lit, n_a, n_c, n_s, n_b, n_m, n_g, n_w, n_n, hC1, hG1, ← z]
            exact ⟨fun z => absurd z (by omega), fun _ => hP rfl sh1 I1 J1 R1 hC1 f1 h1⟩
          · simp (disch := omega) only [sw_c, sw_n, sx, sf_4, sv_i, sv_j, sv_r, sv_q1, sv_q0, sv_1i, sv_1r, sv_2, sl_i, sl_j, sl_a, sl_v, sp_p, sp_f1, sp_f2, sc_w, sc_c, sc_r, sc_f, sc_a, sc_k, pp_in, pp_al, ↓reduceIte, Nat.reduceEqDiff, Nat.reduceLT, Nat.reduceLeDiff, Nat.reduceAdd, Nat.reduceSub, Nat.reduceMul, List.length_cons, List.length_nil, true_and, and_true, and_self, true_implies, eq_self, not_true_eq_false, not_false_eq_true, false_implies, implies_true, false_and, and_false, Bool.false_eq_true, or_true, true_or, or_false, false_or, Classical.not_not, Nat.le_refl, Nat.lt_irrefl, Bool.true_eq_false, n_lit, n_a, n_c, n_s, n_b, n_m, n_g, n_w, n_n, hC1, hG1, q]
            exact hP rfl sh1 I1 J1 R1 hC1 f1 h1
        · rw [if_neg c] at hP
          have z : 0 < i - (aG A).1 (183 + (4 * k + j)) := by omega
          have b := mor_b wT hk hj (u := i - (aG A).1 (183 + (4 * k + j))) (by omega)
          unfold mor at hP b
          simp (disch := omega) only [sw_c, sw_n, sx, sf_4, sv_i, sv_j, sv_r, sv_q1, sv_q0, sv_1i, sv_1r, sv_2, sl_i, sl_j, sl_a, sl_v, sp_p, sp_f1, sp_f2, sc_w, sc_c, sc_r, sc_f, sc_a, sc_k, pp_in, pp_al, ↓reduceIte, Nat.reduceEqDiff, Nat.reduceLT, Nat.reduceLeDiff, Nat.reduceAdd, Nat.reduceSub, Nat.reduceMul, List.length_cons, List.length_nil, true_and, and_true, and_self, true_implies, eq_self, not_true_eq_false, not_false_eq_true, false_implies, implies_true, false_and, and_false, Bool.false_eq_true, or_true, true_or, or_false, false_or, Classical.not_not, Nat.le_refl, Nat.lt_irrefl, Bool.true_eq_false, n_lit, n_a, n_c, n_s, n_b, n_m, n_g, n_w, n_n, hC1, hG1, z]
          refine pp_go rfl sk_X8_audit_71 ?_
          simp (disch := omega) only [sg_X8_audit_71, sw_c, sw_n, sx, sf_4, sv_i, sv_j, sv_r, sv_q1, sv_q0, sv_1i, sv_1r, sv_2, sl_i, sl_j, sl_a, sl_v, sp_p, sp_f1, sp_f2, sc_w, sc_c, sc_r, sc_f, sc_a, sc_k, pp_in, pp_al, ↓reduceIte, Nat.reduceEqDiff, Nat.reduceLT, Nat.reduceLeDiff, Nat.reduceAdd, Nat.reduceSub, Nat.reduceMul, List.length_cons, List.length_nil, true_and, and_true, and_self, true_implies, eq_self, not_true_eq_false, not_false_eq_true, false_implies, implies_true, false_and, and_false, Bool.false_eq_true, or_true, true_or, or_false, false_or, Classical.not_not, Nat.le_refl, Nat.lt_irrefl, Bool.true_eq_false, n_lit, n_a, n_c, n_s, n_b, n_m, n_g, n_w, n_n, hC1]
          refine c_royaltyOf hC1 hT1 wT hk hj (by omega) ?_
          simp (disch := omega) only [sw_c, sw_n, sx, sf_4, sv_i, sv_j, sv_r, sv_q1, sv_q0, sv_1i, sv_1r, sv_2, sl_i, sl_j, sl_a, sl_v, sp_p, sp_f1, sp_f2, sc_w, sc_c, sc_r, sc_f, sc_a, sc_k, pp_in, pp_al, ↓reduceIte, Nat.reduceEqDiff, Nat.reduceLT, Nat.reduceLeDiff, Nat.reduceAdd, Nat.reduceSub, Nat.reduceMul, List.length_cons, List.length_nil, true_and, and_true, and_self, true_implies, eq_self, not_true_eq_false, not_false_eq_true, false_implies, implies_true, false_and, and_false, Bool.false_eq_true, or_true, true_or, or_false, false_or, Classical.not_not, Nat.le_refl, Nat.lt_irrefl, Bool.true_eq_false, n_lit, n_a, n_c, n_s, n_b, n_m, n_g, n_w, n_n, hC1, hG1, hT1]
          exact fin_c (hP rfl) hC1 f1 h1 (fun a x y => by first | rfl | (simp only [n_m]; repeat rw [if_neg (by omega)])) (fun a x => by first | rfl | (simp only [n_m]; repeat rw [if_neg (by omega)])) (uA_108 kj (uA_109 (by omega) hG1))
      · simp only [o_audit, wR, e1, e2, e3] at hE2
        have K : pp_N g (h + 2) mi_X8_audit P 21 [(0, .ref 64), (1, .int (Int32.ofNat k)), (2, .int (Int32.ofNat j)), (3, .int u)] [] (sh, I, J, R) := by
          refine pp_go rfl sk_X8_audit_21 ?_
          simp (disch := omega) only [sg_X8_audit_21, sw_c, sw_n, sx, sf_4, sv_i, sv_j, sv_r, sv_q1, sv_q0, sv_1i, sv_1r, sv_2, sl_i, sl_j, sl_a, sl_v, sp_p, sp_f1, sp_f2, sc_w, sc_c, sc_r, sc_f, sc_a, sc_k, pp_in, pp_al, ↓reduceIte, Nat.reduceEqDiff, Nat.reduceLT, Nat.reduceLeDiff, Nat.reduceAdd, Nat.reduceSub, Nat.reduceMul, List.length_cons, List.length_nil, true_and, and_true, and_self, true_implies, eq_self, not_true_eq_false, not_false_eq_true, false_implies, implies_true, false_and, and_false, Bool.false_eq_true, or_true, true_or, or_false, false_or, Classical.not_not, Nat.le_refl, Nat.lt_irrefl, Bool.true_eq_false, n_lit, n_a, n_c, n_s, n_b, n_m, n_g, n_w, n_n, ex_0]
          exact hE2 trivial
        by_cases c : u.toInt < 0
        · have q1 := n_ng c
          refine c_ckV0 hC hT wT hj ?_
          simp (disch := omega) only [sw_c, sw_n, sx, sf_4, sv_i, sv_j, sv_r, sv_q1, sv_q0, sv_1i, sv_1r, sv_2, sl_i, sl_j, sl_a, sl_v, sp_p, sp_f1, sp_f2, sc_w, sc_c, sc_r, sc_f, sc_a, sc_k, pp_in, pp_al, ↓reduceIte, Nat.reduceEqDiff, Nat.reduceLT, Nat.reduceLeDiff, Nat.reduceAdd, Nat.reduceSub, Nat.reduceMul, List.length_cons, List.length_nil, true_and, and_true, and_self, true_implies, eq_self, not_true_eq_false, not_false_eq_true, false_implies, implies_true, false_and, and_false, Bool.false_eq_true, or_true, true_or, or_false, false_or, Classical.not_not, Nat.le_refl, Nat.lt_irrefl, Bool.true_eq_false, n_lit, n_a, n_c, n_s, n_b, n_m, n_g, n_w, n_n, q1]
          exact K
        · have q1 := n_nn (p := u) (by omega)
          have q2 : (u ≤ Int32.ofNat 99999) = False := eq_false (by rw [Int32.le_iff_toInt_le, Int32.toInt_ofNat_of_lt (by omega)]; omega)
          refine c_ckV0 hC hT wT hj ?_
          simp (disch := omega) only [sw_c, sw_n, sx, sf_4, sv_i, sv_j, sv_r, sv_q1, sv_q0, sv_1i, sv_1r, sv_2, sl_i, sl_j, sl_a, sl_v, sp_p, sp_f1, sp_f2, sc_w, sc_c, sc_r, sc_f, sc_a, sc_k, pp_in, pp_al, ↓reduceIte, Nat.reduceEqDiff, Nat.reduceLT, Nat.reduceLeDiff, Nat.reduceAdd, Nat.reduceSub, Nat.reduceMul, List.length_cons, List.length_nil, true_and, and_true, and_self, true_implies, eq_self, not_true_eq_false, not_false_eq_true, false_implies, implies_true, false_and, and_false, Bool.false_eq_true, or_true, true_or, or_false, false_or, Classical.not_not, Nat.le_refl, Nat.lt_irrefl, Bool.true_eq_false, n_lit, n_a, n_c, n_s, n_b, n_m, n_g, n_w, n_n, q1, q2]
          exact K
    · simp only [o_audit, wR, e1, e2] at hE
      exact c_ckV1 hC hT wT ho (hE trivial)
  · simp only [o_audit, wR, e1] at hE
    exact c_ckL1 hC hT wT ho (hE trivial)
theorem c_bookShares {S : Nat → Int64} (hC : sC sh R) (hS : ∀ i, i < 8 → J 115 i = S i) (hP : ∀ J', (∀ a, a ≠ 110 → a ≠ 111 → J' a = J a) → (∀ i, i < 8 → J' 110 i = J 110 i + S i) → (∀ i, i < 8 → J' 111 i = S i) → P (.inl none) (sh, I, J', R)) : pp_MW g (h + 1) mi_X4_bookShares [.ref 102, .ref 115] (sh, I, J, R) P := by
  refine pp_st0 [(0, .ref 102), (1, .ref 115)] ok_X4_bookShares rfl (Nat.le_of_ble_eq_true rfl) rfl ?_
  refine pp_go rfl sk_X4_bookShares_0 ?_
  simp (disch := omega) only [sg_X4_bookShares_0, sw_c, sw_n, sx, sf_4, sv_i, sv_j, sv_r, sv_q1, sv_q0, sv_1i, sv_1r, sv_2, sl_i, sl_j, sl_a, sl_v, sp_p, sp_f1, sp_f2, sc_w, sc_c, sc_r, sc_f, sc_a, sc_k, pp_in, pp_al, ↓reduceIte, Nat.reduceEqDiff, Nat.reduceLT, Nat.reduceLeDiff, Nat.reduceAdd, Nat.reduceSub, Nat.reduceMul, List.length_cons, List.length_nil, true_and, and_true, and_self, true_implies, eq_self, not_true_eq_false, not_false_eq_true, false_implies, implies_true, false_and, and_false, Bool.false_eq_true, or_true, true_or, or_false, false_or, Classical.not_not, Nat.le_refl, Nat.lt_irrefl, Bool.true_eq_false, n_lit, n_a, n_c, n_s, n_b, n_m, n_g, n_w, n_n]
  have L : ∀ f m J', f + m = 8 → (∀ a, a ≠ 110 → a ≠ 111 → J' a = J a) → (∀ i, i < 8 → J' 110 i = if i < m then J 110 i + S i else J 110 i) → (∀ i, i < m → J' 111 i = S i) → pp_N g h mi_X4_bookShares P 2 [(0, .ref 102), (1, .ref 115), (2, .int (Int32.ofNat m))] [] (sh, I, J', R) := by
    intro f
    induction f with
    | zero =>
      intro m J' hm hf h1 h2
      have hm : m = 8 := by omega
      subst hm
      refine pp_go rfl sk_X4_bookShares_2 ?_
      simp (disch := omega) only [sg_X4_bookShares_2, sw_c, sw_n, sx, sf_4, sv_i, sv_j, sv_r, sv_q1, sv_q0, sv_1i, sv_1r, sv_2, sl_i, sl_j, sl_a, sl_v, sp_p, sp_f1, sp_f2, sc_w, sc_c, sc_r, sc_f, sc_a, sc_k, pp_in, pp_al, ↓reduceIte, Nat.reduceEqDiff, Nat.reduceLT, Nat.reduceLeDiff, Nat.reduceAdd, Nat.reduceSub, Nat.reduceMul, List.length_cons, List.length_nil, true_and, and_true, and_self, true_implies, eq_self, not_true_eq_false, not_false_eq_true, false_implies, implies_true, false_and, and_false, Bool.false_eq_true, or_true, true_or, or_false, false_or, Classical.not_not, Nat.le_refl, Nat.lt_irrefl, Bool.true_eq_false, n_lit, n_a, n_c, n_s, n_b, n_m, n_g, n_w, n_n]
      refine pp_go rfl sk_X4_bookShares_41 ?_
      simp (disch := omega) only [sg_X4_bookShares_41, sw_c, sw_n, sx, sf_4, sv_i, sv_j, sv_r, sv_q1, sv_q0, sv_1i, sv_1r, sv_2, sl_i, sl_j, sl_a, sl_v, sp_p, sp_f1, sp_f2, sc_w, sc_c, sc_r, sc_f, sc_a, sc_k, pp_in, pp_al, ↓reduceIte, Nat.reduceEqDiff, Nat.reduceLT, Nat.reduceLeDiff, Nat.reduceAdd, Nat.reduceSub, Nat.reduceMul, List.length_cons, List.length_nil, true_and, and_true, and_self, true_implies, eq_self, not_true_eq_false, not_false_eq_true, false_implies, implies_true, false_and, and_false, Bool.false_eq_true, or_true, true_or, or_false, false_or, Classical.not_not, Nat.le_refl, Nat.lt_irrefl, Bool.true_eq_false, n_lit, n_a, n_c, n_s, n_b, n_m, n_g, n_w, n_n]
      exact hP J' hf (fun i hi => by rw [h1 i hi, if_pos hi]) h2
    | succ f ih =>
      intro m J' hm hf h1 h2
      have q1 : ¬ 8 ≤ m := by omega
      have e1 : J' 110 m = J 110 m := by rw [h1 m (by omega), if_neg (by omega)]
      have e2 : J' 115 m = S m := by rw [hf 115 (by omega) (by omega)]; exact hS m (by omega)
      refine pp_go rfl sk_X4_bookShares_2 ?_
      simp (disch := omega) only [sg_X4_bookShares_2, sw_c, sw_n, sx, sf_4, sv_i, sv_j, sv_r, sv_q1, sv_q0, sv_1i, sv_1r, sv_2, sl_i, sl_j, sl_a, sl_v, sp_p, sp_f1, sp_f2, sc_w, sc_c, sc_r, sc_f, sc_a, sc_k, pp_in, pp_al, ↓reduceIte, Nat.reduceEqDiff, Nat.reduceLT, Nat.reduceLeDiff, Nat.reduceAdd, Nat.reduceSub, Nat.reduceMul, List.length_cons, List.length_nil, true_and, and_true, and_self, true_implies, eq_self, not_true_eq_false, not_false_eq_true, false_implies, implies_true, false_and, and_false, Bool.false_eq_true, or_true, true_or, or_false, false_or, Classical.not_not, Nat.le_refl, Nat.lt_irrefl, Bool.true_eq_false, n_lit, n_a, n_c, n_s, n_b, n_m, n_g, n_w, n_n, hC, q1, e1, e2]
      refine ih (m + 1) _ (by omega) (fun a x y => ?_) (fun i hi => ?_) (fun i hi => ?_)
      · simp only [n_m]; rw [if_neg y, if_neg x]; exact hf a x y
      · simp only [n_m, ↓reduceIte, Nat.reduceEqDiff]
        by_cases e : i = m
        · rw [if_pos e, if_pos (by omega), e]
        · rw [if_neg e, h1 i hi]
          by_cases c : i < m
          · rw [if_pos c, if_pos (by omega)]
          · rw [if_neg c, if_neg (by omega)]
      · simp only [n_m, ↓reduceIte]
        by_cases e : i = m
        · rw [if_pos e, e]
        · rw [if_neg e]; exact h2 i (by omega)
  exact L 8 0 J rfl (fun _ _ _ => rfl) (fun i hi => by rw [if_neg (by omega)]) (fun i hi => absurd hi (Nat.not_lt_zero _))
theorem c_beginPeriod {x : Nat} (hC : sC sh R) (h1 : I 102 1 = Int32.ofNat x) (hP : ∀ I', (∀ a, a ≠ 102 → a ≠ 108 → I' a = I a) → (∀ k, k ≠ 1 → k ≠ 11 → I' 102 k = I 102 k) → I' 102 1 = Int32.ofNat (x + 1) → I' 102 11 = Int32.ofNat 0 → (∀ i, i < 24 → I' 108 i = Int32.ofNat 0) → P (.inl none) (sh, I', pp_s J 102 (va_up (J 102) 14 (Int64.ofNat 0)), R)) : pp_MW g (h + 2) mi_X4_beginPeriod [.ref 102] (sh, I, J, R) P := by
  refine pp_st0 [(0, .ref 102)] ok_X4_beginPeriod rfl (Nat.le_of_ble_eq_true rfl) rfl ?_
  refine pp_go rfl sk_X4_beginPeriod_0 ?_
  simp (disch := omega) only [sg_X4_beginPeriod_0, sw_c, sw_n, sx, sf_4, sv_i, sv_j, sv_r, sv_q1, sv_q0, sv_1i, sv_1r, sv_2, sl_i, sl_j, sl_a, sl_v, sp_p, sp_f1, sp_f2, sc_w, sc_c, sc_r, sc_f, sc_a, sc_k, pp_in, pp_al, ↓reduceIte, Nat.reduceEqDiff, Nat.reduceLT, Nat.reduceLeDiff, Nat.reduceAdd, Nat.reduceSub, Nat.reduceMul, List.length_cons, List.length_nil, true_and, and_true, and_self, true_implies, eq_self, not_true_eq_false, not_false_eq_true, false_implies, implies_true, false_and, and_false, Bool.false_eq_true, or_true, true_or, or_false, false_or, Classical.not_not, Nat.le_refl, Nat.lt_irrefl, Bool.true_eq_false, n_lit, n_a, n_c, n_s, n_b, n_m, n_g, n_w, n_n, hC, h1]
  refine j_fill (n := 24) hC.2.2.2.2.2.2.2.2.2.2.2.2.2.1 (by omega) (fun I' f r => ?_)
  simp (disch := omega) only [sw_c, sw_n, sx, sf_4, sv_i, sv_j, sv_r, sv_q1, sv_q0, sv_1i, sv_1r, sv_2, sl_i, sl_j, sl_a, sl_v, sp_p, sp_f1, sp_f2, sc_w, sc_c, sc_r, sc_f, sc_a, sc_k, pp_in, pp_al, ↓reduceIte, Nat.reduceEqDiff, Nat.reduceLT, Nat.reduceLeDiff, Nat.reduceAdd, Nat.reduceSub, Nat.reduceMul, List.length_cons, List.length_nil, true_and, and_true, and_self, true_implies, eq_self, not_true_eq_false, not_false_eq_true, false_implies, implies_true, false_and, and_false, Bool.false_eq_true, or_true, true_or, or_false, false_or, Classical.not_not, Nat.le_refl, Nat.lt_irrefl, Bool.true_eq_false, n_lit, n_a, n_c, n_s, n_b, n_m, n_g, n_w, n_n]
  refine hP I' (fun a x y => ?_) (fun k x y => ?_) ?_ ?_ (fun i hi => by rw [r i, if_pos hi])
  · rw [f a y]; simp only [n_m]; rw [if_neg x]
  · rw [f 102 (by omega)]; simp only [n_m, ↓reduceIte]; rw [if_neg y, if_neg x]
  · rw [f 102 (by omega)]; simp only [n_m, ↓reduceIte, Nat.reduceEqDiff]
  · rw [f 102 (by omega)]; simp only [n_m, ↓reduceIte]
theorem c_close (hC : sC sh R) (hA : RC A sh I J R) (wG : wfL n (aG A)) (wT : wfT (aT A)) (hn : n ≤ 1000) (h141 : 141 ≤ sh.length) (hE : (o_close A).1 = 1 → xB sh I J R P eS) (hP : (o_close A).1 = 0 → cP sh I J R P (.long (o_close A).2.1) (o_close A).2.2) : pp_MW g (h + 7) mi_X8_close [.ref 64] (sh, I, J, R) P := by
  refine pp_st0 [(0, .ref 64)] ok_X8_close rfl (Nat.le_of_ble_eq_true rfl) rfl ?_
  have hG := hA.1
  by_cases c : (aG A).2 2 = Int64.ofNat 0
  · simp only [o_close, if_pos c] at hE
    refine pp_go rfl sk_X8_close_0 ?_
    simp (disch := omega) only [sg_X8_close_0, sw_c, sw_n, sx, sf_4, sv_i, sv_j, sv_r, sv_q1, sv_q0, sv_1i, sv_1r, sv_2, sl_i, sl_j, sl_a, sl_v, sp_p, sp_f1, sp_f2, sc_w, sc_c, sc_r, sc_f, sc_a, sc_k, pp_in, pp_al, ↓reduceIte, Nat.reduceEqDiff, Nat.reduceLT, Nat.reduceLeDiff, Nat.reduceAdd, Nat.reduceSub, Nat.reduceMul, List.length_cons, List.length_nil, true_and, and_true, and_self, true_implies, eq_self, not_true_eq_false, not_false_eq_true, false_implies, implies_true, false_and, and_false, Bool.false_eq_true, or_true, true_or, or_false, false_or, Classical.not_not, Nat.le_refl, Nat.lt_irrefl, Bool.true_eq_false, n_lit, n_a, n_c, n_s, n_b, n_m, n_g, n_w, n_n, hC, hG, c, ex_1]
    exact hE trivial
  · simp only [o_close, if_neg c] at hP
    refine pp_go rfl sk_X8_close_0 ?_
    simp (disch := omega) only [sg_X8_close_0, sw_c, sw_n, sx, sf_4, sv_i, sv_j, sv_r, sv_q1, sv_q0, sv_1i, sv_1r, sv_2, sl_i, sl_j, sl_a, sl_v, sp_p, sp_f1, sp_f2, sc_w, sc_c, sc_r, sc_f, sc_a, sc_k, pp_in, pp_al, ↓reduceIte, Nat.reduceEqDiff, Nat.reduceLT, Nat.reduceLeDiff, Nat.reduceAdd, Nat.reduceSub, Nat.reduceMul, List.length_cons, List.length_nil, true_and, and_true, and_self, true_implies, eq_self, not_true_eq_false, not_false_eq_true, false_implies, implies_true, false_and, and_false, Bool.false_eq_true, or_true, true_or, or_false, false_or, Classical.not_not, Nat.le_refl, Nat.lt_irrefl, Bool.true_eq_false, n_lit, n_a, n_c, n_s, n_b, n_m, n_g, n_w, n_n, hC, hG, c]
    refine pp_go rfl sk_X8_close_23 ?_
    simp (disch := omega) only [sg_X8_close_23, sw_c, sw_n, sx, sf_4, sv_i, sv_j, sv_r, sv_q1, sv_q0, sv_1i, sv_1r, sv_2, sl_i, sl_j, sl_a, sl_v, sp_p, sp_f1, sp_f2, sc_w, sc_c, sc_r, sc_f, sc_a, sc_k, pp_in, pp_al, ↓reduceIte, Nat.reduceEqDiff, Nat.reduceLT, Nat.reduceLeDiff, Nat.reduceAdd, Nat.reduceSub, Nat.reduceMul, List.length_cons, List.length_nil, true_and, and_true, and_self, true_implies, eq_self, not_true_eq_false, not_false_eq_true, false_implies, implies_true, false_and, and_false, Bool.false_eq_true, or_true, true_or, or_false, false_or, Classical.not_not, Nat.le_refl, Nat.lt_irrefl, Bool.true_eq_false, n_lit, n_a, n_c, n_s, n_b, n_m, n_g, n_w, n_n, hC]
    refine c_remember hC hA h141 (fun sh1 I1 J1 R1 hC1 f1 h1 => ?_)
    have hG1 : cG I1 J1 (aG A) := h1.1
    have hT1 : cT I1 (aT A) := h1.2.1
    simp (disch := omega) only [sw_c, sw_n, sx, sf_4, sv_i, sv_j, sv_r, sv_q1, sv_q0, sv_1i, sv_1r, sv_2, sl_i, sl_j, sl_a, sl_v, sp_p, sp_f1, sp_f2, sc_w, sc_c, sc_r, sc_f, sc_a, sc_k, pp_in, pp_al, ↓reduceIte, Nat.reduceEqDiff, Nat.reduceLT, Nat.reduceLeDiff, Nat.reduceAdd, Nat.reduceSub, Nat.reduceMul, List.length_cons, List.length_nil, true_and, and_true, and_self, true_implies, eq_self, not_true_eq_false, not_false_eq_true, false_implies, implies_true, false_and, and_false, Bool.false_eq_true, or_true, true_or, or_false, false_or, Classical.not_not, Nat.le_refl, Nat.lt_irrefl, Bool.true_eq_false, n_lit, n_a, n_c, n_s, n_b, n_m, n_g, n_w, n_n, hC1, hG1, hT1]
    refine c_weighMembers hC1 hG1 hT1 wG wT (fun I2 g2 w2 => ?_)
    have hT2 : cT I2 (aT A) := cT_cg hT1 (fun a x y => g2 a (by omega) (by omega))
    have hG2 : cG I2 J1 (aG A) := cL_cg (L := 102) hG1 (fun a x y => g2 a (by omega) (by omega)) (fun _ _ _ => rfl)
    have bW := fun m => wts_le (aT A) (aG A) m wT
    simp (disch := omega) only [sw_c, sw_n, sx, sf_4, sv_i, sv_j, sv_r, sv_q1, sv_q0, sv_1i, sv_1r, sv_2, sl_i, sl_j, sl_a, sl_v, sp_p, sp_f1, sp_f2, sc_w, sc_c, sc_r, sc_f, sc_a, sc_k, pp_in, pp_al, ↓reduceIte, Nat.reduceEqDiff, Nat.reduceLT, Nat.reduceLeDiff, Nat.reduceAdd, Nat.reduceSub, Nat.reduceMul, List.length_cons, List.length_nil, true_and, and_true, and_self, true_implies, eq_self, not_true_eq_false, not_false_eq_true, false_implies, implies_true, false_and, and_false, Bool.false_eq_true, or_true, true_or, or_false, false_or, Classical.not_not, Nat.le_refl, Nat.lt_irrefl, Bool.true_eq_false, n_lit, n_a, n_c, n_s, n_b, n_m, n_g, n_w, n_n, hC1, hT2]
    refine c_divide (W := wts (aT A) (aG A)) (cap := (aT A).1 6) hC1 w2 bW (by omega) (fun I3 J3 g3 j3 r3 s3 => ?_)
    have hG3 : cG I3 J3 (aG A) := cL_cg (L := 102) hG2 (fun a x y => g3 a (by omega)) (fun a x y => j3 a (by omega) (by omega) (by omega))
    simp (disch := omega) only [sw_c, sw_n, sx, sf_4, sv_i, sv_j, sv_r, sv_q1, sv_q0, sv_1i, sv_1r, sv_2, sl_i, sl_j, sl_a, sl_v, sp_p, sp_f1, sp_f2, sc_w, sc_c, sc_r, sc_f, sc_a, sc_k, pp_in, pp_al, ↓reduceIte, Nat.reduceEqDiff, Nat.reduceLT, Nat.reduceLeDiff, Nat.reduceAdd, Nat.reduceSub, Nat.reduceMul, List.length_cons, List.length_nil, true_and, and_true, and_self, true_implies, eq_self, not_true_eq_false, not_false_eq_true, false_implies, implies_true, false_and, and_false, Bool.false_eq_true, or_true, true_or, or_false, false_or, Classical.not_not, Nat.le_refl, Nat.lt_irrefl, Bool.true_eq_false, n_lit, n_a, n_c, n_s, n_b, n_m, n_g, n_w, n_n, hC1, hG3, r3]
    refine c_bookShares (S := (clD (aT A) (aG A)).1) hC1 (fun i hi => ?_) (fun J4 g4 a4 l4 => ?_)
    · simp only [n_m, Nat.reduceEqDiff, ↓reduceIte]
      exact s3 i hi
    have r4 : J4 113 2 = (clD (aT A) (aG A)).2 := by rw [g4 113 (by omega) (by omega)]; simp only [n_m, Nat.reduceEqDiff, ↓reduceIte]; exact r3
    have e1 : I3 102 1 = Int32.ofNat ((aG A).1 1) := hG3.2.1
    simp (disch := omega) only [sw_c, sw_n, sx, sf_4, sv_i, sv_j, sv_r, sv_q1, sv_q0, sv_1i, sv_1r, sv_2, sl_i, sl_j, sl_a, sl_v, sp_p, sp_f1, sp_f2, sc_w, sc_c, sc_r, sc_f, sc_a, sc_k, pp_in, pp_al, ↓reduceIte, Nat.reduceEqDiff, Nat.reduceLT, Nat.reduceLeDiff, Nat.reduceAdd, Nat.reduceSub, Nat.reduceMul, List.length_cons, List.length_nil, true_and, and_true, and_self, true_implies, eq_self, not_true_eq_false, not_false_eq_true, false_implies, implies_true, false_and, and_false, Bool.false_eq_true, or_true, true_or, or_false, false_or, Classical.not_not, Nat.le_refl, Nat.lt_irrefl, Bool.true_eq_false, n_lit, n_a, n_c, n_s, n_b, n_m, n_g, n_w, n_n, hC1]
    refine c_beginPeriod (x := (aG A).1 1) hC1 e1 (fun I5 b1 b2 b3 b4 b5 => ?_)
    simp (disch := omega) only [sw_c, sw_n, sx, sf_4, sv_i, sv_j, sv_r, sv_q1, sv_q0, sv_1i, sv_1r, sv_2, sl_i, sl_j, sl_a, sl_v, sp_p, sp_f1, sp_f2, sc_w, sc_c, sc_r, sc_f, sc_a, sc_k, pp_in, pp_al, ↓reduceIte, Nat.reduceEqDiff, Nat.reduceLT, Nat.reduceLeDiff, Nat.reduceAdd, Nat.reduceSub, Nat.reduceMul, List.length_cons, List.length_nil, true_and, and_true, and_self, true_implies, eq_self, not_true_eq_false, not_false_eq_true, false_implies, implies_true, false_and, and_false, Bool.false_eq_true, or_true, true_or, or_false, false_or, Classical.not_not, Nat.le_refl, Nat.lt_irrefl, Bool.true_eq_false, n_lit, n_a, n_c, n_s, n_b, n_m, n_g, n_w, n_n, hC1, r4]
    obtain ⟨k0, k1, k2, k4, k11, k14, k15, k16, k17, k18, l1, l2, l3, l4', l5, l6, l7, l8, l9⟩ := hG3
    refine fin_c (hP trivial) hC1 f1 h1 (fun a x y => ?_) (fun a x => ?_) ⟨?_, ?_, ?_, ?_, ?_, ?_, ?_, ?_, ?_, ?_, fun m hm => ?_, fun m hm => ?_, fun m hm => ?_, fun m hm => ?_, fun m hm => ?_, fun m hm => ?_, fun m hm => ?_, fun m hm => ?_, fun m hm => ?_⟩
    · rw [b1 a (by omega) (by omega), g3 a (by omega), g2 a (by omega) (by omega)]
    · rw [pp_s_ne _ _ (by omega), g4 a (by omega) (by omega)]
      simp only [n_m]
      rw [if_neg (by omega), j3 a (by omega) (by omega) (by omega)]
    · rw [b2 0 (by omega) (by omega)]; exact k0
    · rw [b3]; rfl
    · rw [b2 2 (by omega) (by omega)]; exact k2
    · rw [b2 4 (by omega) (by omega)]; exact k4
    · rw [b4]
      have : cdt (clG (aT A) (aG A)) = 0 := by
        unfold cdt
        have z : ∀ k, k ≤ 6 → sm (fun l => if (clG (aT A) (aG A)).1 (207 + l) = 1 then 2 ^ l else 0) k = 0 := by
          intro k
          induction k with
          | zero => intro _; rfl
          | succ k ih =>
            intro hk
            rw [sm, ih (by omega), if_neg]
            simp only [clG]
            rw [if_pos (by omega)]
            omega
        exact z 6 (by omega)
      rw [this]
    · simp only [n_m, ↓reduceIte]; rfl
    · simp only [n_m, ↓reduceIte, Nat.reduceEqDiff, g4 102 (by omega) (by omega)]; rfl
    · simp only [n_m, ↓reduceIte, Nat.reduceEqDiff, g4 102 (by omega) (by omega)]; rfl
    · simp only [n_m, ↓reduceIte, Nat.reduceEqDiff, g4 102 (by omega) (by omega)]; exact k17
    · simp only [n_m, ↓reduceIte, Nat.reduceEqDiff, g4 102 (by omega) (by omega)]; exact k18
    · rw [b1 103 (by omega) (by omega), l1 m hm]; simp only [clG]; rw [if_neg (by omega), if_neg (by omega)]
    · rw [b1 104 (by omega) (by omega), l2 m hm]; simp only [clG]; rw [if_neg (by omega), if_neg (by omega)]
    · rw [b1 105 (by omega) (by omega), l3 m hm]; simp only [clG]; rw [if_neg (by omega), if_neg (by omega)]
    · rw [b1 106 (by omega) (by omega), l4' m hm]; simp only [clG]; rw [if_neg (by omega), if_neg (by omega)]
    · rw [b1 107 (by omega) (by omega), l5 m hm]; simp only [clG]; rw [if_neg (by omega), if_neg (by omega)]
    · rw [b5 m hm]; simp only [clG]; rw [if_pos (by omega)]
    · rw [pp_s_ne _ _ (by omega), g4 109 (by omega) (by omega)]
      simp only [n_m, ↓reduceIte, Nat.reduceEqDiff, clG]
      rw [if_neg (by omega), if_neg (by omega), if_neg (by omega), if_neg (by omega), if_neg (by omega)]
      exact l7 m hm
    · rw [pp_s_ne _ _ (by omega), a4 m hm]
      simp only [n_m, ↓reduceIte, Nat.reduceEqDiff, clG]
      rw [if_neg (by omega), if_neg (by omega), if_neg (by omega), if_pos (by omega), show 213 + m - 213 = m by omega, l8 m hm]
    · rw [pp_s_ne _ _ (by omega), l4 m hm]
      simp only [clG]
      rw [if_neg (by omega), if_neg (by omega), if_neg (by omega), if_neg (by omega), if_pos (by omega), show 221 + m - 221 = m by omega]
end
