/-! THE CLASS, 10: changes -/
set_option maxHeartbeats 2000000
set_option maxRecDepth 100000
def c6 (b0 b1 b2 b3 b4 b5 : Bool) : Nat := b0.toNat + 2 * b1.toNat + 4 * b2.toNat + 8 * b3.toNat + 16 * b4.toNat + 32 * b5.toNat
theorem c6_lt : ∀ b0 b1 b2 b3 b4 b5 : Bool, c6 b0 b1 b2 b3 b4 b5 < 64 := by decide
theorem c6_and : ∀ b0 b1 b2 b3 b4 b5 : Bool, ((c6 b0 b1 b2 b3 b4 b5 &&& 1 <<< 0 = 0) ↔ b0 = false) ∧ ((c6 b0 b1 b2 b3 b4 b5 &&& 1 <<< 1 = 0) ↔ b1 = false) ∧ ((c6 b0 b1 b2 b3 b4 b5 &&& 1 <<< 2 = 0) ↔ b2 = false) ∧ ((c6 b0 b1 b2 b3 b4 b5 &&& 1 <<< 3 = 0) ↔ b3 = false) ∧ ((c6 b0 b1 b2 b3 b4 b5 &&& 1 <<< 4 = 0) ↔ b4 = false) ∧ ((c6 b0 b1 b2 b3 b4 b5 &&& 1 <<< 5 = 0) ↔ b5 = false) := by decide
theorem c6_or : ∀ b0 b1 b2 b3 b4 b5 : Bool, c6 b0 b1 b2 b3 b4 b5 ||| 1 <<< 0 = c6 true b1 b2 b3 b4 b5 ∧ c6 b0 b1 b2 b3 b4 b5 ||| 1 <<< 1 = c6 b0 true b2 b3 b4 b5 ∧ c6 b0 b1 b2 b3 b4 b5 ||| 1 <<< 2 = c6 b0 b1 true b3 b4 b5 ∧ c6 b0 b1 b2 b3 b4 b5 ||| 1 <<< 3 = c6 b0 b1 b2 true b4 b5 ∧ c6 b0 b1 b2 b3 b4 b5 ||| 1 <<< 4 = c6 b0 b1 b2 b3 true b5 ∧ c6 b0 b1 b2 b3 b4 b5 ||| 1 <<< 5 = c6 b0 b1 b2 b3 b4 true := by decide
theorem ite_t (p : Prop) [Decidable p] (k : Nat) : (if p then k else 0) = k * (decide p).toNat := by
  by_cases h : p
  · rw [if_pos h, decide_eq_true h]; simp
  · rw [if_neg h, decide_eq_false h]; simp
theorem cdt_6 (G : LG) : cdt G = c6 (decide (G.1 207 = 1)) (decide (G.1 208 = 1)) (decide (G.1 209 = 1)) (decide (G.1 210 = 1)) (decide (G.1 211 = 1)) (decide (G.1 212 = 1)) := by
  unfold cdt c6
  simp only [sm, ite_t, Nat.reducePow, Nat.zero_add, Nat.one_mul, Nat.reduceAdd, Nat.add_zero]
theorem cdt_lt (G : LG) : cdt G < 64 := by rw [cdt_6]; exact c6_lt _ _ _ _ _ _
theorem cdt_and (G : LG) {l : Nat} (h : l < 6) : (cdt G &&& 1 <<< l = 0) = ¬ G.1 (207 + l) = 1 := by
  have a := c6_and (decide (G.1 207 = 1)) (decide (G.1 208 = 1)) (decide (G.1 209 = 1)) (decide (G.1 210 = 1)) (decide (G.1 211 = 1)) (decide (G.1 212 = 1))
  simp only [decide_eq_false_iff_not] at a
  rw [cdt_6]
  have : l = 0 ∨ l = 1 ∨ l = 2 ∨ l = 3 ∨ l = 4 ∨ l = 5 := by omega
  rcases this with rfl | rfl | rfl | rfl | rfl | rfl
  · exact propext a.1
  · exact propext a.2.1
  · exact propext a.2.2.1
  · exact propext a.2.2.2.1
  · exact propext a.2.2.2.2.1
  · exact propext a.2.2.2.2.2
theorem cdt_or (G : LG) (q : Nat → Int64) {l : Nat} (h : l < 6) : cdt G ||| 1 <<< l = cdt (va_up G.1 (207 + l) 1, q) := by
  have a := c6_or (decide (G.1 207 = 1)) (decide (G.1 208 = 1)) (decide (G.1 209 = 1)) (decide (G.1 210 = 1)) (decide (G.1 211 = 1)) (decide (G.1 212 = 1))
  rw [cdt_6, cdt_6]
  have : l = 0 ∨ l = 1 ∨ l = 2 ∨ l = 3 ∨ l = 4 ∨ l = 5 := by omega
  rcases this with rfl | rfl | rfl | rfl | rfl | rfl
  · simpa [va_up] using a.1
  · simpa [va_up] using a.2.1
  · simpa [va_up] using a.2.2.1
  · simpa [va_up] using a.2.2.2.1
  · simpa [va_up] using a.2.2.2.2.1
  · simpa [va_up] using a.2.2.2.2.2
section
variable {g : pp_G} {h : Nat} {sh : List (Nat × Nat)} {I : Nat → Nat → Int32} {J : Nat → Nat → Int64} {R : Nat → Nat → Option Nat} {w : pp_W} {P : pp_R → pp_W → Prop} {G : LG} {T : TM} {n : Nat} {A : AS}
abbrev cP (sh : List (Nat × Nat)) (I : Nat → Nat → Int32) (J : Nat → Nat → Int64) (R : Nat → Nat → Option Nat) (P : pp_R → pp_W → Prop) (v : Value) (A : AS) : Prop := ∀ sh' I' J' R', sC sh' R' → fK sh I J R sh' I' J' R' → RC A sh' I' J' R' → P (.inl (some v)) (sh', I', J', R')
theorem fin_c {G' : LG} {v : Value} {sh' : List (Nat × Nat)} {I1 I2 : Nat → Nat → Int32} {J1 J2 : Nat → Nat → Int64} {R1 : Nat → Nat → Option Nat} (hP : cP sh I J R P v (chg A G')) (hC1 : sC sh' R1) (f1 : fK sh I J R sh' I1 J1 R1) (h1 : RC (chg A (aG A)) sh' I1 J1 R1) (hf : ∀ a, a < 102 ∨ (112 ≤ a ∧ a ≠ 114 ∧ a ≠ 116) → a ≠ 101 → I2 a = I1 a) (hj : ∀ a, a < 102 ∨ (112 ≤ a ∧ a ≠ 113 ∧ a ≠ 115 ∧ a ≠ 117) → J2 a = J1 a) (hG : cG I2 J2 G') : P (.inl (some v)) (sh', I2, J2, R1) :=
  hP sh' I2 J2 R1 hC1 ⟨f1.1, fun a x y => ⟨(hf a (by omega) (by omega)).trans (f1.2 a x y).1, (hj a (by omega)).trans (f1.2 a x y).2.1, (f1.2 a x y).2.2⟩⟩ (RC_upd h1 hf hj hG)
theorem c_advance {d : Int32} (hC : sC sh R) (hA : RC A sh I J R) (wG : wfL n (aG A)) (h141 : 141 ≤ sh.length) (hE : (o_advance A d).1 = 1 → xB sh I J R P eA) (hE2 : (o_advance A d).1 = 2 → xB sh I J R P eS) (hP : (o_advance A d).1 = 0 → cP sh I J R P (.int (o_advance A d).2.1) (o_advance A d).2.2) : pp_MW g (h + 3) mi_X8_advance [.ref 64, .int d] (sh, I, J, R) P := by
  refine pp_st0 [(0, .ref 64), (1, .int d)] ok_X8_advance rfl (Nat.le_of_ble_eq_true rfl) rfl ?_
  have hG := hA.1
  rcases rng_cases d 1 9999 (by omega) with ⟨k, k1, k2, rfl, e1⟩ | ⟨ho, e1⟩
  · have q1 : ¬ k < 1 := by omega
    refine pp_go rfl sk_X8_advance_0 ?_
    simp (disch := omega) only [sg_X8_advance_0, sw_c, sw_n, sx, sf_4, sv_i, sv_j, sv_r, sv_q1, sv_q0, sv_1i, sv_1r, sv_2, sl_i, sl_j, sl_a, sl_v, sp_p, sp_f1, sp_f2, sc_w, sc_c, sc_r, sc_f, sc_a, sc_k, pp_in, pp_al, ↓reduceIte, Nat.reduceEqDiff, Nat.reduceLT, Nat.reduceLeDiff, Nat.reduceAdd, Nat.reduceSub, Nat.reduceMul, List.length_cons, List.length_nil, true_and, and_true, and_self, true_implies, eq_self, not_true_eq_false, not_false_eq_true, false_implies, implies_true, false_and, and_false, Bool.false_eq_true, or_true, true_or, or_false, false_or, Classical.not_not, Nat.le_refl, Nat.lt_irrefl, Bool.true_eq_false, n_lit, n_a, n_c, n_s, n_b, n_m, n_g, n_w, n_n, rk_X8_advance, hC, q1, k2]
    by_cases c : 9999 < (aG A).1 0 + k
    · simp only [o_advance, e1, if_pos c] at hE2
      have q2 : ¬ (aG A).1 0 + k ≤ 9999 := by omega
      refine pp_go rfl sk_X8_advance_22 ?_
      simp (disch := omega) only [sg_X8_advance_22, sw_c, sw_n, sx, sf_4, sv_i, sv_j, sv_r, sv_q1, sv_q0, sv_1i, sv_1r, sv_2, sl_i, sl_j, sl_a, sl_v, sp_p, sp_f1, sp_f2, sc_w, sc_c, sc_r, sc_f, sc_a, sc_k, pp_in, pp_al, ↓reduceIte, Nat.reduceEqDiff, Nat.reduceLT, Nat.reduceLeDiff, Nat.reduceAdd, Nat.reduceSub, Nat.reduceMul, List.length_cons, List.length_nil, true_and, and_true, and_self, true_implies, eq_self, not_true_eq_false, not_false_eq_true, false_implies, implies_true, false_and, and_false, Bool.false_eq_true, or_true, true_or, or_false, false_or, Classical.not_not, Nat.le_refl, Nat.lt_irrefl, Bool.true_eq_false, n_lit, n_a, n_c, n_s, n_b, n_m, n_g, n_w, n_n, rk_X8_advance, hC, hG, q2, ex_1]
      exact hE2 trivial
    · simp only [o_advance, e1, if_neg c] at hP
      have q2 : (aG A).1 0 + k ≤ 9999 := by omega
      refine pp_go rfl sk_X8_advance_22 ?_
      simp (disch := omega) only [sg_X8_advance_22, sw_c, sw_n, sx, sf_4, sv_i, sv_j, sv_r, sv_q1, sv_q0, sv_1i, sv_1r, sv_2, sl_i, sl_j, sl_a, sl_v, sp_p, sp_f1, sp_f2, sc_w, sc_c, sc_r, sc_f, sc_a, sc_k, pp_in, pp_al, ↓reduceIte, Nat.reduceEqDiff, Nat.reduceLT, Nat.reduceLeDiff, Nat.reduceAdd, Nat.reduceSub, Nat.reduceMul, List.length_cons, List.length_nil, true_and, and_true, and_self, true_implies, eq_self, not_true_eq_false, not_false_eq_true, false_implies, implies_true, false_and, and_false, Bool.false_eq_true, or_true, true_or, or_false, false_or, Classical.not_not, Nat.le_refl, Nat.lt_irrefl, Bool.true_eq_false, n_lit, n_a, n_c, n_s, n_b, n_m, n_g, n_w, n_n, rk_X8_advance, hC, hG, q2]
      refine pp_go rfl sk_X8_advance_47 ?_
      simp (disch := omega) only [sg_X8_advance_47, sw_c, sw_n, sx, sf_4, sv_i, sv_j, sv_r, sv_q1, sv_q0, sv_1i, sv_1r, sv_2, sl_i, sl_j, sl_a, sl_v, sp_p, sp_f1, sp_f2, sc_w, sc_c, sc_r, sc_f, sc_a, sc_k, pp_in, pp_al, ↓reduceIte, Nat.reduceEqDiff, Nat.reduceLT, Nat.reduceLeDiff, Nat.reduceAdd, Nat.reduceSub, Nat.reduceMul, List.length_cons, List.length_nil, true_and, and_true, and_self, true_implies, eq_self, not_true_eq_false, not_false_eq_true, false_implies, implies_true, false_and, and_false, Bool.false_eq_true, or_true, true_or, or_false, false_or, Classical.not_not, Nat.le_refl, Nat.lt_irrefl, Bool.true_eq_false, n_lit, n_a, n_c, n_s, n_b, n_m, n_g, n_w, n_n, rk_X8_advance, hC]
      refine c_remember hC hA h141 (fun sh1 I1 J1 R1 hC1 f1 h1 => ?_)
      have hG1 : cG I1 J1 (aG A) := h1.1
      simp (disch := omega) only [sw_c, sw_n, sx, sf_4, sv_i, sv_j, sv_r, sv_q1, sv_q0, sv_1i, sv_1r, sv_2, sl_i, sl_j, sl_a, sl_v, sp_p, sp_f1, sp_f2, sc_w, sc_c, sc_r, sc_f, sc_a, sc_k, pp_in, pp_al, ↓reduceIte, Nat.reduceEqDiff, Nat.reduceLT, Nat.reduceLeDiff, Nat.reduceAdd, Nat.reduceSub, Nat.reduceMul, List.length_cons, List.length_nil, true_and, and_true, and_self, true_implies, eq_self, not_true_eq_false, not_false_eq_true, false_implies, implies_true, false_and, and_false, Bool.false_eq_true, or_true, true_or, or_false, false_or, Classical.not_not, Nat.le_refl, Nat.lt_irrefl, Bool.true_eq_false, n_lit, n_a, n_c, n_s, n_b, n_m, n_g, n_w, n_n, rk_X8_advance, hC1, hG1]
      exact fin_c (hP trivial) hC1 f1 h1 (fun a x y => by first | rfl | (simp only [n_m]; repeat rw [if_neg (by omega)])) (fun a x => by first | rfl | (simp only [n_m]; repeat rw [if_neg (by omega)])) (uF_0 hG1)
  · simp only [o_advance, e1] at hE
    have K : pp_N g (h + 2) mi_X8_advance P 12 [(0, .ref 64), (1, .int d)] [] (sh, I, J, R) := by
      refine pp_go rfl sk_X8_advance_12 ?_
      simp (disch := omega) only [sg_X8_advance_12, sw_c, sw_n, sx, sf_4, sv_i, sv_j, sv_r, sv_q1, sv_q0, sv_1i, sv_1r, sv_2, sl_i, sl_j, sl_a, sl_v, sp_p, sp_f1, sp_f2, sc_w, sc_c, sc_r, sc_f, sc_a, sc_k, pp_in, pp_al, ↓reduceIte, Nat.reduceEqDiff, Nat.reduceLT, Nat.reduceLeDiff, Nat.reduceAdd, Nat.reduceSub, Nat.reduceMul, List.length_cons, List.length_nil, true_and, and_true, and_self, true_implies, eq_self, not_true_eq_false, not_false_eq_true, false_implies, implies_true, false_and, and_false, Bool.false_eq_true, or_true, true_or, or_false, false_or, Classical.not_not, Nat.le_refl, Nat.lt_irrefl, Bool.true_eq_false, n_lit, n_a, n_c, n_s, n_b, n_m, n_g, n_w, n_n, rk_X8_advance, ex_0]
      exact hE trivial
    by_cases c : d.toInt < ((1 : Nat) : Int)
    · have q1 := n_lt' (p := d) (n := 1) (by omega) c
      refine pp_go rfl sk_X8_advance_0 ?_
      simp (disch := omega) only [sg_X8_advance_0, sw_c, sw_n, sx, sf_4, sv_i, sv_j, sv_r, sv_q1, sv_q0, sv_1i, sv_1r, sv_2, sl_i, sl_j, sl_a, sl_v, sp_p, sp_f1, sp_f2, sc_w, sc_c, sc_r, sc_f, sc_a, sc_k, pp_in, pp_al, ↓reduceIte, Nat.reduceEqDiff, Nat.reduceLT, Nat.reduceLeDiff, Nat.reduceAdd, Nat.reduceSub, Nat.reduceMul, List.length_cons, List.length_nil, true_and, and_true, and_self, true_implies, eq_self, not_true_eq_false, not_false_eq_true, false_implies, implies_true, false_and, and_false, Bool.false_eq_true, or_true, true_or, or_false, false_or, Classical.not_not, Nat.le_refl, Nat.lt_irrefl, Bool.true_eq_false, n_lit, n_a, n_c, n_s, n_b, n_m, n_g, n_w, n_n, rk_X8_advance, q1]
      exact K
    · have q1 : (d < Int32.ofNat 1) = False := n_lo (by omega) (by omega)
      have q2 : (d ≤ Int32.ofNat 9999) = False := eq_false (by rw [Int32.le_iff_toInt_le, Int32.toInt_ofNat_of_lt (by omega)]; omega)
      refine pp_go rfl sk_X8_advance_0 ?_
      simp (disch := omega) only [sg_X8_advance_0, sw_c, sw_n, sx, sf_4, sv_i, sv_j, sv_r, sv_q1, sv_q0, sv_1i, sv_1r, sv_2, sl_i, sl_j, sl_a, sl_v, sp_p, sp_f1, sp_f2, sc_w, sc_c, sc_r, sc_f, sc_a, sc_k, pp_in, pp_al, ↓reduceIte, Nat.reduceEqDiff, Nat.reduceLT, Nat.reduceLeDiff, Nat.reduceAdd, Nat.reduceSub, Nat.reduceMul, List.length_cons, List.length_nil, true_and, and_true, and_self, true_implies, eq_self, not_true_eq_false, not_false_eq_true, false_implies, implies_true, false_and, and_false, Bool.false_eq_true, or_true, true_or, or_false, false_or, Classical.not_not, Nat.le_refl, Nat.lt_irrefl, Bool.true_eq_false, n_lit, n_a, n_c, n_s, n_b, n_m, n_g, n_w, n_n, rk_X8_advance, q1, q2]
      exact K
theorem c_addMember {L a1 a2 a3 a4 a5 a6 a7 a8 a9 m x : Nat} (hs : sLx sh R L a1 a2 a3 a4 a5 a6 a7 a8 a9) (ne : (L = a1) = False ∧ (a1 = L) = False) (hm : I L 2 = Int32.ofNat m) (h8 : m < 8) (hP : P (.inl (some (.int (Int32.ofNat m)))) (sh, pp_s (pp_s I a1 (va_up (I a1) m (Int32.ofNat x))) L (va_up (I L) 2 (Int32.ofNat (m + 1))), J, R)) : pp_MW g (h + 1) mi_X4_addMember [.ref L, .int (Int32.ofNat x)] (sh, I, J, R) P := by
  refine pp_st0 [(0, .ref L), (1, .int (Int32.ofNat x))] ok_X4_addMember rfl (Nat.le_of_ble_eq_true rfl) rfl ?_
  refine pp_go rfl sk_X4_addMember_0 ?_
  simp (disch := omega) only [sg_X4_addMember_0, sw_c, sw_n, sx, sf_4, sv_i, sv_j, sv_r, sv_q1, sv_q0, sv_1i, sv_1r, sv_2, sl_i, sl_j, sl_a, sl_v, sp_p, sp_f1, sp_f2, sc_w, sc_c, sc_r, sc_f, sc_a, sc_k, pp_in, pp_al, ↓reduceIte, Nat.reduceEqDiff, Nat.reduceLT, Nat.reduceLeDiff, Nat.reduceAdd, Nat.reduceSub, Nat.reduceMul, List.length_cons, List.length_nil, true_and, and_true, and_self, true_implies, eq_self, not_true_eq_false, not_false_eq_true, false_implies, implies_true, false_and, and_false, Bool.false_eq_true, or_true, true_or, or_false, false_or, Classical.not_not, Nat.le_refl, Nat.lt_irrefl, Bool.true_eq_false, n_lit, n_a, n_c, n_s, n_b, n_m, n_g, n_w, n_n, rk_X4_addMember, hs, hm, h8]
  refine pp_go rfl sk_X4_addMember_11 ?_
  simp (disch := omega) only [sg_X4_addMember_11, sw_c, sw_n, sx, sf_4, sv_i, sv_j, sv_r, sv_q1, sv_q0, sv_1i, sv_1r, sv_2, sl_i, sl_j, sl_a, sl_v, sp_p, sp_f1, sp_f2, sc_w, sc_c, sc_r, sc_f, sc_a, sc_k, pp_in, pp_al, ↓reduceIte, Nat.reduceEqDiff, Nat.reduceLT, Nat.reduceLeDiff, Nat.reduceAdd, Nat.reduceSub, Nat.reduceMul, List.length_cons, List.length_nil, true_and, and_true, and_self, true_implies, eq_self, not_true_eq_false, not_false_eq_true, false_implies, implies_true, false_and, and_false, Bool.false_eq_true, or_true, true_or, or_false, false_or, Classical.not_not, Nat.le_refl, Nat.lt_irrefl, Bool.true_eq_false, n_lit, n_a, n_c, n_s, n_b, n_m, n_g, n_w, n_n, rk_X4_addMember, hs, hm, ne, Nat.add_sub_cancel]
  exact hP
theorem c_addPatent {L a1 a2 a3 a4 a5 a6 a7 a8 a9 m x y : Nat} (hs : sLx sh R L a1 a2 a3 a4 a5 a6 a7 a8 a9) (ne : (L = a2) = False ∧ (a2 = L) = False ∧ (L = a3) = False ∧ (a3 = L) = False ∧ (a3 = a2) = False) (hm : I L 4 = Int32.ofNat m) (h8 : m < 16) (hP : P (.inl (some (.int (Int32.ofNat m)))) (sh, pp_s (pp_s (pp_s I a2 (va_up (I a2) m (Int32.ofNat x))) a3 (va_up (I a3) m (Int32.ofNat y))) L (va_up (I L) 4 (Int32.ofNat (m + 1))), J, R)) : pp_MW g (h + 1) mi_X4_addPatent [.ref L, .int (Int32.ofNat x), .int (Int32.ofNat y)] (sh, I, J, R) P := by
  refine pp_st0 [(0, .ref L), (1, .int (Int32.ofNat x)), (2, .int (Int32.ofNat y))] ok_X4_addPatent rfl (Nat.le_of_ble_eq_true rfl) rfl ?_
  refine pp_go rfl sk_X4_addPatent_0 ?_
  simp (disch := omega) only [sg_X4_addPatent_0, sw_c, sw_n, sx, sf_4, sv_i, sv_j, sv_r, sv_q1, sv_q0, sv_1i, sv_1r, sv_2, sl_i, sl_j, sl_a, sl_v, sp_p, sp_f1, sp_f2, sc_w, sc_c, sc_r, sc_f, sc_a, sc_k, pp_in, pp_al, ↓reduceIte, Nat.reduceEqDiff, Nat.reduceLT, Nat.reduceLeDiff, Nat.reduceAdd, Nat.reduceSub, Nat.reduceMul, List.length_cons, List.length_nil, true_and, and_true, and_self, true_implies, eq_self, not_true_eq_false, not_false_eq_true, false_implies, implies_true, false_and, and_false, Bool.false_eq_true, or_true, true_or, or_false, false_or, Classical.not_not, Nat.le_refl, Nat.lt_irrefl, Bool.true_eq_false, n_lit, n_a, n_c, n_s, n_b, n_m, n_g, n_w, n_n, rk_X4_addPatent, hs, hm, h8]
  refine pp_go rfl sk_X4_addPatent_11 ?_
  simp (disch := omega) only [sg_X4_addPatent_11, sw_c, sw_n, sx, sf_4, sv_i, sv_j, sv_r, sv_q1, sv_q0, sv_1i, sv_1r, sv_2, sl_i, sl_j, sl_a, sl_v, sp_p, sp_f1, sp_f2, sc_w, sc_c, sc_r, sc_f, sc_a, sc_k, pp_in, pp_al, ↓reduceIte, Nat.reduceEqDiff, Nat.reduceLT, Nat.reduceLeDiff, Nat.reduceAdd, Nat.reduceSub, Nat.reduceMul, List.length_cons, List.length_nil, true_and, and_true, and_self, true_implies, eq_self, not_true_eq_false, not_false_eq_true, false_implies, implies_true, false_and, and_false, Bool.false_eq_true, or_true, true_or, or_false, false_or, Classical.not_not, Nat.le_refl, Nat.lt_irrefl, Bool.true_eq_false, n_lit, n_a, n_c, n_s, n_b, n_m, n_g, n_w, n_n, rk_X4_addPatent, hs, hm, ne, Nat.add_sub_cancel]
  exact hP
theorem c_join (hC : sC sh R) (hA : RC A sh I J R) (wG : wfL n (aG A)) (h141 : 141 ≤ sh.length) (hE : (o_join A).1 = 1 → xB sh I J R P eS) (hP : (o_join A).1 = 0 → cP sh I J R P (.int (o_join A).2.1) (o_join A).2.2) : pp_MW g (h + 3) mi_X8_join [.ref 64] (sh, I, J, R) P := by
  refine pp_st0 [(0, .ref 64)] ok_X8_join rfl (Nat.le_of_ble_eq_true rfl) rfl ?_
  have hG := hA.1
  by_cases c : (aG A).1 7 = 8
  · simp only [o_join, if_pos c] at hE
    refine pp_go rfl sk_X8_join_0 ?_
    simp (disch := omega) only [sg_X8_join_0, sw_c, sw_n, sx, sf_4, sv_i, sv_j, sv_r, sv_q1, sv_q0, sv_1i, sv_1r, sv_2, sl_i, sl_j, sl_a, sl_v, sp_p, sp_f1, sp_f2, sc_w, sc_c, sc_r, sc_f, sc_a, sc_k, pp_in, pp_al, ↓reduceIte, Nat.reduceEqDiff, Nat.reduceLT, Nat.reduceLeDiff, Nat.reduceAdd, Nat.reduceSub, Nat.reduceMul, List.length_cons, List.length_nil, true_and, and_true, and_self, true_implies, eq_self, not_true_eq_false, not_false_eq_true, false_implies, implies_true, false_and, and_false, Bool.false_eq_true, or_true, true_or, or_false, false_or, Classical.not_not, Nat.le_refl, Nat.lt_irrefl, Bool.true_eq_false, n_lit, n_a, n_c, n_s, n_b, n_m, n_g, n_w, n_n, rk_X8_join, hC, hG, c, ex_1]
    exact hE trivial
  · simp only [o_join, if_neg c] at hP
    have q1 : (aG A).1 7 < 8 := by omega
    refine pp_go rfl sk_X8_join_0 ?_
    simp (disch := omega) only [sg_X8_join_0, sw_c, sw_n, sx, sf_4, sv_i, sv_j, sv_r, sv_q1, sv_q0, sv_1i, sv_1r, sv_2, sl_i, sl_j, sl_a, sl_v, sp_p, sp_f1, sp_f2, sc_w, sc_c, sc_r, sc_f, sc_a, sc_k, pp_in, pp_al, ↓reduceIte, Nat.reduceEqDiff, Nat.reduceLT, Nat.reduceLeDiff, Nat.reduceAdd, Nat.reduceSub, Nat.reduceMul, List.length_cons, List.length_nil, true_and, and_true, and_self, true_implies, eq_self, not_true_eq_false, not_false_eq_true, false_implies, implies_true, false_and, and_false, Bool.false_eq_true, or_true, true_or, or_false, false_or, Classical.not_not, Nat.le_refl, Nat.lt_irrefl, Bool.true_eq_false, n_lit, n_a, n_c, n_s, n_b, n_m, n_g, n_w, n_n, rk_X8_join, hC, hG, q1]
    refine pp_go rfl sk_X8_join_22 ?_
    simp (disch := omega) only [sg_X8_join_22, sw_c, sw_n, sx, sf_4, sv_i, sv_j, sv_r, sv_q1, sv_q0, sv_1i, sv_1r, sv_2, sl_i, sl_j, sl_a, sl_v, sp_p, sp_f1, sp_f2, sc_w, sc_c, sc_r, sc_f, sc_a, sc_k, pp_in, pp_al, ↓reduceIte, Nat.reduceEqDiff, Nat.reduceLT, Nat.reduceLeDiff, Nat.reduceAdd, Nat.reduceSub, Nat.reduceMul, List.length_cons, List.length_nil, true_and, and_true, and_self, true_implies, eq_self, not_true_eq_false, not_false_eq_true, false_implies, implies_true, false_and, and_false, Bool.false_eq_true, or_true, true_or, or_false, false_or, Classical.not_not, Nat.le_refl, Nat.lt_irrefl, Bool.true_eq_false, n_lit, n_a, n_c, n_s, n_b, n_m, n_g, n_w, n_n, rk_X8_join, hC]
    refine c_remember hC hA h141 (fun sh1 I1 J1 R1 hC1 f1 h1 => ?_)
    have hG1 : cG I1 J1 (aG A) := h1.1
    simp (disch := omega) only [sw_c, sw_n, sx, sf_4, sv_i, sv_j, sv_r, sv_q1, sv_q0, sv_1i, sv_1r, sv_2, sl_i, sl_j, sl_a, sl_v, sp_p, sp_f1, sp_f2, sc_w, sc_c, sc_r, sc_f, sc_a, sc_k, pp_in, pp_al, ↓reduceIte, Nat.reduceEqDiff, Nat.reduceLT, Nat.reduceLeDiff, Nat.reduceAdd, Nat.reduceSub, Nat.reduceMul, List.length_cons, List.length_nil, true_and, and_true, and_self, true_implies, eq_self, not_true_eq_false, not_false_eq_true, false_implies, implies_true, false_and, and_false, Bool.false_eq_true, or_true, true_or, or_false, false_or, Classical.not_not, Nat.le_refl, Nat.lt_irrefl, Bool.true_eq_false, n_lit, n_a, n_c, n_s, n_b, n_m, n_g, n_w, n_n, rk_X8_join, hC1, hG1]
    refine c_addMember (L := 102) (m := (aG A).1 7) (x := (aG A).1 0) hC1.2.2.2.2.2.2.2 ⟨by simp, by simp⟩ hG1.2.2.1 q1 ?_
    simp (disch := omega) only [sw_c, sw_n, sx, sf_4, sv_i, sv_j, sv_r, sv_q1, sv_q0, sv_1i, sv_1r, sv_2, sl_i, sl_j, sl_a, sl_v, sp_p, sp_f1, sp_f2, sc_w, sc_c, sc_r, sc_f, sc_a, sc_k, pp_in, pp_al, ↓reduceIte, Nat.reduceEqDiff, Nat.reduceLT, Nat.reduceLeDiff, Nat.reduceAdd, Nat.reduceSub, Nat.reduceMul, List.length_cons, List.length_nil, true_and, and_true, and_self, true_implies, eq_self, not_true_eq_false, not_false_eq_true, false_implies, implies_true, false_and, and_false, Bool.false_eq_true, or_true, true_or, or_false, false_or, Classical.not_not, Nat.le_refl, Nat.lt_irrefl, Bool.true_eq_false, n_lit, n_a, n_c, n_s, n_b, n_m, n_g, n_w, n_n, rk_X8_join]
    exact fin_c (hP trivial) hC1 f1 h1 (fun a x y => by first | rfl | (simp only [n_m]; repeat rw [if_neg (by omega)])) (fun a x => by first | rfl | (simp only [n_m]; repeat rw [if_neg (by omega)])) (uF_2 (uA_103 q1 hG1))
theorem c_declare {m e : Int32} (hC : sC sh R) (hA : RC A sh I J R) (wG : wfL n (aG A)) (h141 : 141 ≤ sh.length) (hE : (o_declare A m e).1 = 1 → xB sh I J R P eB) (hE2 : (o_declare A m e).1 = 2 → xB sh I J R P eA) (hE3 : (o_declare A m e).1 = 3 → xB sh I J R P eS) (hP : (o_declare A m e).1 = 0 → cP sh I J R P (.int (o_declare A m e).2.1) (o_declare A m e).2.2) : pp_MW g (h + 3) mi_X8_declare [.ref 64, .int m, .int e] (sh, I, J, R) P := by
  refine pp_st0 [(0, .ref 64), (1, .int m), (2, .int e)] ok_X8_declare rfl (Nat.le_of_ble_eq_true rfl) rfl ?_
  have hG := hA.1
  refine pp_go rfl sk_X8_declare_0 ?_
  simp (disch := omega) only [sg_X8_declare_0, sw_c, sw_n, sx, sf_4, sv_i, sv_j, sv_r, sv_q1, sv_q0, sv_1i, sv_1r, sv_2, sl_i, sl_j, sl_a, sl_v, sp_p, sp_f1, sp_f2, sc_w, sc_c, sc_r, sc_f, sc_a, sc_k, pp_in, pp_al, ↓reduceIte, Nat.reduceEqDiff, Nat.reduceLT, Nat.reduceLeDiff, Nat.reduceAdd, Nat.reduceSub, Nat.reduceMul, List.length_cons, List.length_nil, true_and, and_true, and_self, true_implies, eq_self, not_true_eq_false, not_false_eq_true, false_implies, implies_true, false_and, and_false, Bool.false_eq_true, or_true, true_or, or_false, false_or, Classical.not_not, Nat.le_refl, Nat.lt_irrefl, Bool.true_eq_false, n_lit, n_a, n_c, n_s, n_b, n_m, n_g, n_w, n_n, rk_X8_declare, hC]
  rcases idx_cases m ((aG A).1 7) (by omega) with ⟨k, k1, rfl, e1⟩ | ⟨ho, e1⟩
  · rcases rng_cases e ((aG A).1 0 + 1) 9999 (by omega) with ⟨j, j1, j2, rfl, e2⟩ | ⟨ho, e2⟩
    · have q1 : ¬ j ≤ (aG A).1 0 := by omega
      refine c_ckM0 hC hG wG k1 ?_
      simp (disch := omega) only [sw_c, sw_n, sx, sf_4, sv_i, sv_j, sv_r, sv_q1, sv_q0, sv_1i, sv_1r, sv_2, sl_i, sl_j, sl_a, sl_v, sp_p, sp_f1, sp_f2, sc_w, sc_c, sc_r, sc_f, sc_a, sc_k, pp_in, pp_al, ↓reduceIte, Nat.reduceEqDiff, Nat.reduceLT, Nat.reduceLeDiff, Nat.reduceAdd, Nat.reduceSub, Nat.reduceMul, List.length_cons, List.length_nil, true_and, and_true, and_self, true_implies, eq_self, not_true_eq_false, not_false_eq_true, false_implies, implies_true, false_and, and_false, Bool.false_eq_true, or_true, true_or, or_false, false_or, Classical.not_not, Nat.le_refl, Nat.lt_irrefl, Bool.true_eq_false, n_lit, n_a, n_c, n_s, n_b, n_m, n_g, n_w, n_n, rk_X8_declare, hC, hG, q1, j2]
      by_cases c : (aG A).1 8 = 16
      · simp only [o_declare, wM, e1, e2, if_pos c] at hE3
        refine pp_go rfl sk_X8_declare_33 ?_
        simp (disch := omega) only [sg_X8_declare_33, sw_c, sw_n, sx, sf_4, sv_i, sv_j, sv_r, sv_q1, sv_q0, sv_1i, sv_1r, sv_2, sl_i, sl_j, sl_a, sl_v, sp_p, sp_f1, sp_f2, sc_w, sc_c, sc_r, sc_f, sc_a, sc_k, pp_in, pp_al, ↓reduceIte, Nat.reduceEqDiff, Nat.reduceLT, Nat.reduceLeDiff, Nat.reduceAdd, Nat.reduceSub, Nat.reduceMul, List.length_cons, List.length_nil, true_and, and_true, and_self, true_implies, eq_self, not_true_eq_false, not_false_eq_true, false_implies, implies_true, false_and, and_false, Bool.false_eq_true, or_true, true_or, or_false, false_or, Classical.not_not, Nat.le_refl, Nat.lt_irrefl, Bool.true_eq_false, n_lit, n_a, n_c, n_s, n_b, n_m, n_g, n_w, n_n, rk_X8_declare, hC, hG, c, ex_1]
        exact hE3 trivial
      · simp only [o_declare, wM, e1, e2, if_neg c] at hP
        have q2 : (aG A).1 8 < 16 := by omega
        refine pp_go rfl sk_X8_declare_33 ?_
        simp (disch := omega) only [sg_X8_declare_33, sw_c, sw_n, sx, sf_4, sv_i, sv_j, sv_r, sv_q1, sv_q0, sv_1i, sv_1r, sv_2, sl_i, sl_j, sl_a, sl_v, sp_p, sp_f1, sp_f2, sc_w, sc_c, sc_r, sc_f, sc_a, sc_k, pp_in, pp_al, ↓reduceIte, Nat.reduceEqDiff, Nat.reduceLT, Nat.reduceLeDiff, Nat.reduceAdd, Nat.reduceSub, Nat.reduceMul, List.length_cons, List.length_nil, true_and, and_true, and_self, true_implies, eq_self, not_true_eq_false, not_false_eq_true, false_implies, implies_true, false_and, and_false, Bool.false_eq_true, or_true, true_or, or_false, false_or, Classical.not_not, Nat.le_refl, Nat.lt_irrefl, Bool.true_eq_false, n_lit, n_a, n_c, n_s, n_b, n_m, n_g, n_w, n_n, rk_X8_declare, hC, hG, q2]
        refine pp_go rfl sk_X8_declare_55 ?_
        simp (disch := omega) only [sg_X8_declare_55, sw_c, sw_n, sx, sf_4, sv_i, sv_j, sv_r, sv_q1, sv_q0, sv_1i, sv_1r, sv_2, sl_i, sl_j, sl_a, sl_v, sp_p, sp_f1, sp_f2, sc_w, sc_c, sc_r, sc_f, sc_a, sc_k, pp_in, pp_al, ↓reduceIte, Nat.reduceEqDiff, Nat.reduceLT, Nat.reduceLeDiff, Nat.reduceAdd, Nat.reduceSub, Nat.reduceMul, List.length_cons, List.length_nil, true_and, and_true, and_self, true_implies, eq_self, not_true_eq_false, not_false_eq_true, false_implies, implies_true, false_and, and_false, Bool.false_eq_true, or_true, true_or, or_false, false_or, Classical.not_not, Nat.le_refl, Nat.lt_irrefl, Bool.true_eq_false, n_lit, n_a, n_c, n_s, n_b, n_m, n_g, n_w, n_n, rk_X8_declare, hC]
        refine c_remember hC hA h141 (fun sh1 I1 J1 R1 hC1 f1 h1 => ?_)
        have hG1 : cG I1 J1 (aG A) := h1.1
        simp (disch := omega) only [sw_c, sw_n, sx, sf_4, sv_i, sv_j, sv_r, sv_q1, sv_q0, sv_1i, sv_1r, sv_2, sl_i, sl_j, sl_a, sl_v, sp_p, sp_f1, sp_f2, sc_w, sc_c, sc_r, sc_f, sc_a, sc_k, pp_in, pp_al, ↓reduceIte, Nat.reduceEqDiff, Nat.reduceLT, Nat.reduceLeDiff, Nat.reduceAdd, Nat.reduceSub, Nat.reduceMul, List.length_cons, List.length_nil, true_and, and_true, and_self, true_implies, eq_self, not_true_eq_false, not_false_eq_true, false_implies, implies_true, false_and, and_false, Bool.false_eq_true, or_true, true_or, or_false, false_or, Classical.not_not, Nat.le_refl, Nat.lt_irrefl, Bool.true_eq_false, n_lit, n_a, n_c, n_s, n_b, n_m, n_g, n_w, n_n, rk_X8_declare, hC1, hG1]
        refine c_addPatent (L := 102) (m := (aG A).1 8) (x := k) (y := j) hC1.2.2.2.2.2.2.2 ⟨by simp, by simp, by simp, by simp, by simp⟩ hG1.2.2.2.1 q2 ?_
        simp (disch := omega) only [sw_c, sw_n, sx, sf_4, sv_i, sv_j, sv_r, sv_q1, sv_q0, sv_1i, sv_1r, sv_2, sl_i, sl_j, sl_a, sl_v, sp_p, sp_f1, sp_f2, sc_w, sc_c, sc_r, sc_f, sc_a, sc_k, pp_in, pp_al, ↓reduceIte, Nat.reduceEqDiff, Nat.reduceLT, Nat.reduceLeDiff, Nat.reduceAdd, Nat.reduceSub, Nat.reduceMul, List.length_cons, List.length_nil, true_and, and_true, and_self, true_implies, eq_self, not_true_eq_false, not_false_eq_true, false_implies, implies_true, false_and, and_false, Bool.false_eq_true, or_true, true_or, or_false, false_or, Classical.not_not, Nat.le_refl, Nat.lt_irrefl, Bool.true_eq_false, n_lit, n_a, n_c, n_s, n_b, n_m, n_g, n_w, n_n, rk_X8_declare]
        exact fin_c (hP trivial) hC1 f1 h1 (fun a x y => by first | rfl | (simp only [n_m]; repeat rw [if_neg (by omega)])) (fun a x => by first | rfl | (simp only [n_m]; repeat rw [if_neg (by omega)])) (uF_4 (uA_105 q2 (uA_104 q2 hG1)))
    · simp only [o_declare, wM, e1, e2] at hE2
      have K : pp_N g (h + 2) mi_X8_declare P 23 [(0, .ref 64), (1, .int (Int32.ofNat k)), (2, .int e)] [] (sh, I, J, R) := by
        refine pp_go rfl sk_X8_declare_23 ?_
        simp (disch := omega) only [sg_X8_declare_23, sw_c, sw_n, sx, sf_4, sv_i, sv_j, sv_r, sv_q1, sv_q0, sv_1i, sv_1r, sv_2, sl_i, sl_j, sl_a, sl_v, sp_p, sp_f1, sp_f2, sc_w, sc_c, sc_r, sc_f, sc_a, sc_k, pp_in, pp_al, ↓reduceIte, Nat.reduceEqDiff, Nat.reduceLT, Nat.reduceLeDiff, Nat.reduceAdd, Nat.reduceSub, Nat.reduceMul, List.length_cons, List.length_nil, true_and, and_true, and_self, true_implies, eq_self, not_true_eq_false, not_false_eq_true, false_implies, implies_true, false_and, and_false, Bool.false_eq_true, or_true, true_or, or_false, false_or, Classical.not_not, Nat.le_refl, Nat.lt_irrefl, Bool.true_eq_false, n_lit, n_a, n_c, n_s, n_b, n_m, n_g, n_w, n_n, rk_X8_declare, ex_0]
        exact hE2 trivial
      by_cases c : e.toInt < (((aG A).1 0 + 1 : Nat) : Int)
      · have q1 : (e ≤ Int32.ofNat ((aG A).1 0)) = True := eq_true (by rw [Int32.le_iff_toInt_le, Int32.toInt_ofNat_of_lt (by omega)]; omega)
        refine c_ckM0 hC hG wG k1 ?_
        simp (disch := omega) only [sw_c, sw_n, sx, sf_4, sv_i, sv_j, sv_r, sv_q1, sv_q0, sv_1i, sv_1r, sv_2, sl_i, sl_j, sl_a, sl_v, sp_p, sp_f1, sp_f2, sc_w, sc_c, sc_r, sc_f, sc_a, sc_k, pp_in, pp_al, ↓reduceIte, Nat.reduceEqDiff, Nat.reduceLT, Nat.reduceLeDiff, Nat.reduceAdd, Nat.reduceSub, Nat.reduceMul, List.length_cons, List.length_nil, true_and, and_true, and_self, true_implies, eq_self, not_true_eq_false, not_false_eq_true, false_implies, implies_true, false_and, and_false, Bool.false_eq_true, or_true, true_or, or_false, false_or, Classical.not_not, Nat.le_refl, Nat.lt_irrefl, Bool.true_eq_false, n_lit, n_a, n_c, n_s, n_b, n_m, n_g, n_w, n_n, rk_X8_declare, hC, hG, q1]
        exact K
      · have q1 : (e ≤ Int32.ofNat ((aG A).1 0)) = False := eq_false (by rw [Int32.le_iff_toInt_le, Int32.toInt_ofNat_of_lt (by omega)]; omega)
        have q2 : (e ≤ Int32.ofNat 9999) = False := eq_false (by rw [Int32.le_iff_toInt_le, Int32.toInt_ofNat_of_lt (by omega)]; omega)
        refine c_ckM0 hC hG wG k1 ?_
        simp (disch := omega) only [sw_c, sw_n, sx, sf_4, sv_i, sv_j, sv_r, sv_q1, sv_q0, sv_1i, sv_1r, sv_2, sl_i, sl_j, sl_a, sl_v, sp_p, sp_f1, sp_f2, sc_w, sc_c, sc_r, sc_f, sc_a, sc_k, pp_in, pp_al, ↓reduceIte, Nat.reduceEqDiff, Nat.reduceLT, Nat.reduceLeDiff, Nat.reduceAdd, Nat.reduceSub, Nat.reduceMul, List.length_cons, List.length_nil, true_and, and_true, and_self, true_implies, eq_self, not_true_eq_false, not_false_eq_true, false_implies, implies_true, false_and, and_false, Bool.false_eq_true, or_true, true_or, or_false, false_or, Classical.not_not, Nat.le_refl, Nat.lt_irrefl, Bool.true_eq_false, n_lit, n_a, n_c, n_s, n_b, n_m, n_g, n_w, n_n, rk_X8_declare, hC, hG, q1, q2]
        exact K
  · simp only [o_declare, wM, e1] at hE
    exact c_ckM1 hC hG wG ho (hE trivial)
end
