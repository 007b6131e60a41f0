/-! THE MODEL, 15: parse, append -/
set_option maxHeartbeats 1000000
set_option maxRecDepth 100000
/-- what a draft's clearing leaves as it is -/
abbrev fC (I I' : Nat → Nat → Int32) : Prop := (∀ a, a ≠ 123 → a ≠ 128 → a ≠ 129 → I' a = I a) ∧ (∀ i, i < 14 → I' 123 i = I 123 i) ∧ I' 128 0 = I 128 0 ∧ (∀ i, i < 720 → I' 129 i = I 129 i)
section
variable {g : pp_G} {h : Nat} {sh : List (Nat × Nat)} {I : Nat → Nat → Int32} {J : Nat → Nat → Int64} {R : Nat → Nat → Option Nat} {w : pp_W} {P : pp_R → pp_W → Prop} {A : AS} {n : Nat}
theorem m_clearDraft (hM : sM sh R) (hP : ∀ I', fC I I' → sD I' D00 → cM I' [1] → P (.inl none) (sh, I', J, R)) : pp_MW g (h + 2) mi_X9_clearDraft [.ref 121] (sh, I, J, R) P := by
  refine pp_st0 [(0, .ref 121)] ok_X9_clearDraft rfl (Nat.le_of_ble_eq_true rfl) rfl ?_
  repeat' (first | ((with_reducible refine pp_go (pc := 0) (seg := sg_X9_clearDraft_0) hh_X9_clearDraft sk_X9_clearDraft_0 ?_); simp (disch := omega) only [sg_X9_clearDraft_0, sw_c, sw_n, sx, sf_4, sv_i, sv_j, sv_r, sv_q1, sv_q0, sv_1i, sv_1r, sv_2, sl_i, sl_j, sl_a, sl_v, sp_p, sp_f1, sp_f2, sc_w, sc_c, sc_r, sc_f, sc_a, sc_k, pp_in, pp_al, ↓reduceIte, Nat.reduceEqDiff, Nat.reduceLT, Nat.reduceLeDiff, Nat.reduceAdd, Nat.reduceSub, Nat.reduceMul, List.length_cons, List.length_nil, true_and, and_true, and_self, true_implies, eq_self, not_true_eq_false, not_false_eq_true, false_implies, implies_true, false_and, and_false, Bool.false_eq_true, or_true, true_or, or_false, false_or, Classical.not_not, Nat.le_refl, Nat.lt_irrefl, Bool.true_eq_false, n_lit, n_a, n_c, n_s, n_b, n_m, n_g, n_w, n_n, hM]) | ((with_reducible refine pp_go (pc := 2) (seg := sg_X9_clearDraft_2) hh_X9_clearDraft sk_X9_clearDraft_2 ?_); simp (disch := omega) only [sg_X9_clearDraft_2, sw_c, sw_n, sx, sf_4, sv_i, sv_j, sv_r, sv_q1, sv_q0, sv_1i, sv_1r, sv_2, sl_i, sl_j, sl_a, sl_v, sp_p, sp_f1, sp_f2, sc_w, sc_c, sc_r, sc_f, sc_a, sc_k, pp_in, pp_al, ↓reduceIte, Nat.reduceEqDiff, Nat.reduceLT, Nat.reduceLeDiff, Nat.reduceAdd, Nat.reduceSub, Nat.reduceMul, List.length_cons, List.length_nil, true_and, and_true, and_self, true_implies, eq_self, not_true_eq_false, not_false_eq_true, false_implies, implies_true, false_and, and_false, Bool.false_eq_true, or_true, true_or, or_false, false_or, Classical.not_not, Nat.le_refl, Nat.lt_irrefl, Bool.true_eq_false, n_lit, n_a, n_c, n_s, n_b, n_m, n_g, n_w, n_n, hM]) | (refine ⟨fun _ => ?_, fun _ => ?_⟩ <;> try (exfalso; omega)) | fail)
  refine pp_go rfl sk_X9_clearDraft_23 ?_
  simp only [sg_X9_clearDraft_23, sw_c, sw_n, sx, sf_4, sv_i, sv_j, sv_r, sv_q1, sv_q0, sv_1i, sv_1r, sv_2, sl_i, sl_j, sl_a, sl_v, sp_p, sp_f1, sp_f2, sc_w, sc_c, sc_r, sc_f, sc_a, sc_k, pp_in, pp_al, ↓reduceIte, Nat.reduceEqDiff, Nat.reduceLT, Nat.reduceLeDiff, Nat.reduceAdd, Nat.reduceSub, Nat.reduceMul, List.length_cons, List.length_nil, true_and, and_true, and_self, true_implies, eq_self, not_true_eq_false, not_false_eq_true, false_implies, implies_true, false_and, and_false, Bool.false_eq_true, or_true, true_or, or_false, false_or, Classical.not_not, Nat.le_refl, Nat.lt_irrefl, Bool.true_eq_false, n_lit, n_a, n_c, n_s, n_b, n_m, n_g, n_w, n_n, hM]
  refine m_emit (c := []) (e := 1) hM ⟨?_, fun i hi => absurd hi (Nat.not_lt_zero _), Nat.zero_le _⟩ (by rw [List.length_nil]; omega) rfl (fun I1 a1 a2 a3 a4 => ?_)
  · simp only [n_m, ↓reduceIte, Nat.reduceEqDiff, List.length_nil]
  · simp (disch := omega) only [sw_c, sw_n, sx, sf_4, sv_i, sv_j, sv_r, sv_q1, sv_q0, sv_1i, sv_1r, sv_2, sl_i, sl_j, sl_a, sl_v, sp_p, sp_f1, sp_f2, sc_w, sc_c, sc_r, sc_f, sc_a, sc_k, pp_in, pp_al, ↓reduceIte, Nat.reduceEqDiff, Nat.reduceLT, Nat.reduceLeDiff, Nat.reduceAdd, Nat.reduceSub, Nat.reduceMul, List.length_cons, List.length_nil, true_and, and_true, and_self, true_implies, eq_self, not_true_eq_false, not_false_eq_true, false_implies, implies_true, false_and, and_false, Bool.false_eq_true, or_true, true_or, or_false, false_or, Classical.not_not, Nat.le_refl, Nat.lt_irrefl, Bool.true_eq_false, n_lit, n_a, n_c, n_s, n_b, n_m, n_g, n_w, n_n]
    have e := a1 123 (by omega) (by omega)
    refine hP I1 ⟨fun a x1 x2 x3 => ?_, fun i hi => ?_, ?_, fun i hi => ?_⟩ ⟨fun i hi => ?_, fun i hi => absurd hi (Nat.not_lt_zero _), fun i hi => absurd hi (Nat.not_lt_zero _), fun i hi => absurd hi (Nat.not_lt_zero _), fun i hi => absurd hi (Nat.not_lt_zero _), by decide, by decide, by decide, by decide⟩ a4
    · rw [a1 a x2 x3]; simp only [n_m]; rw [if_neg x2, if_neg x1]
    · rw [e]; simp only [n_m, ↓reduceIte, Nat.reduceEqDiff]
      repeat rw [if_neg (by omega)]
    · rw [a2]; simp only [n_m, ↓reduceIte, Nat.reduceEqDiff]
    · rw [a3 i hi]; simp only [n_m, ↓reduceIte, Nat.reduceEqDiff]
    · rw [e]
      have : i = 0 ∨ i = 1 ∨ i = 2 ∨ i = 3 ∨ i = 4 ∨ i = 5 ∨ i = 6 ∨ i = 7 ∨ i = 8 ∨ i = 9 ∨ i = 10 ∨ i = 11 ∨ i = 12 ∨ i = 13 := by omega
      rcases this with rfl | rfl | rfl | rfl | rfl | rfl | rfl | rfl | rfl | rfl | rfl | rfl | rfl | rfl <;> simp only [n_m, ↓reduceIte, Nat.reduceEqDiff, Nat.reduceAdd] <;> rfl
theorem m_lifts_l {a n : Nat} (ha : sh[a]? = some (10, 2 * n)) (hn : n < 5000) (hP : ∀ I', (∀ c, c ≠ a → I' c = I c) → (∀ i, I' a i = if i < n then I a (n + i) else I a i) → P (.inl none) (sh, I', J, R)) :
    ∀ f k I', f + k = n → (∀ c, c ≠ a → I' c = I c) → (∀ i, I' a i = if i < k then I a (n + i) else I a i) → pp_N g h mi_X9_lifts P 2 [(0, .ref a), (1, .int (Int32.ofNat k))] [] (sh, I', J, R) := by
  have e2 : 2 * n / 2 = n := by omega
  intro f
  induction f with
  | zero =>
    intro k I' hk hf hr
    have hk : k = n := by omega
    subst hk
    have hP := hP I' hf hr
    refine pp_go rfl sk_X9_lifts_2 ?_
    simp (disch := omega) only [sg_X9_lifts_2, sw_c, sw_n, sx, sf_4, sv_i, sv_j, sv_r, sv_q1, sv_q0, sv_1i, sv_1r, sv_2, sl_i, sl_j, sl_a, sl_v, sp_p, sp_f1, sp_f2, sc_w, sc_c, sc_r, sc_f, sc_a, sc_k, pp_in, pp_al, ↓reduceIte, Nat.reduceEqDiff, Nat.reduceLT, Nat.reduceLeDiff, Nat.reduceAdd, Nat.reduceSub, Nat.reduceMul, List.length_cons, List.length_nil, true_and, and_true, and_self, true_implies, eq_self, not_true_eq_false, not_false_eq_true, false_implies, implies_true, false_and, and_false, Bool.false_eq_true, or_true, true_or, or_false, false_or, Classical.not_not, Nat.le_refl, Nat.lt_irrefl, Bool.true_eq_false, n_lit, n_a, n_c, n_s, n_b, n_m, n_g, n_w, n_n, ha, e2]
    refine pp_go rfl sk_X9_lifts_27 ?_
    simp (disch := omega) only [sg_X9_lifts_27, sw_c, sw_n, sx, sf_4, sv_i, sv_j, sv_r, sv_q1, sv_q0, sv_1i, sv_1r, sv_2, sl_i, sl_j, sl_a, sl_v, sp_p, sp_f1, sp_f2, sc_w, sc_c, sc_r, sc_f, sc_a, sc_k, pp_in, pp_al, ↓reduceIte, Nat.reduceEqDiff, Nat.reduceLT, Nat.reduceLeDiff, Nat.reduceAdd, Nat.reduceSub, Nat.reduceMul, List.length_cons, List.length_nil, true_and, and_true, and_self, true_implies, eq_self, not_true_eq_false, not_false_eq_true, false_implies, implies_true, false_and, and_false, Bool.false_eq_true, or_true, true_or, or_false, false_or, Classical.not_not, Nat.le_refl, Nat.lt_irrefl, Bool.true_eq_false, n_lit, n_a, n_c, n_s, n_b, n_m, n_g, n_w, n_n]
    exact hP
  | succ f ih =>
    intro k I' hk hf hr
    have q1 : ¬ n ≤ k := by omega
    have rd : I' a (n + k) = I a (n + k) := by rw [hr, if_neg (by omega)]
    refine pp_go rfl sk_X9_lifts_2 ?_
    simp (disch := omega) only [sg_X9_lifts_2, sw_c, sw_n, sx, sf_4, sv_i, sv_j, sv_r, sv_q1, sv_q0, sv_1i, sv_1r, sv_2, sl_i, sl_j, sl_a, sl_v, sp_p, sp_f1, sp_f2, sc_w, sc_c, sc_r, sc_f, sc_a, sc_k, pp_in, pp_al, ↓reduceIte, Nat.reduceEqDiff, Nat.reduceLT, Nat.reduceLeDiff, Nat.reduceAdd, Nat.reduceSub, Nat.reduceMul, List.length_cons, List.length_nil, true_and, and_true, and_self, true_implies, eq_self, not_true_eq_false, not_false_eq_true, false_implies, implies_true, false_and, and_false, Bool.false_eq_true, or_true, true_or, or_false, false_or, Classical.not_not, Nat.le_refl, Nat.lt_irrefl, Bool.true_eq_false, n_lit, n_a, n_c, n_s, n_b, n_m, n_g, n_w, n_n, ha, q1, e2, rd]
    refine ih (k + 1) _ (by omega) (fun c hc => ?_) (fun i => ?_)
    · rw [pp_s_ne _ _ hc]; exact hf c hc
    · simp only [n_m, ↓reduceIte]
      by_cases e : i = k
      · rw [if_pos e, if_pos (by omega), e]
      · rw [if_neg e, hr]
        by_cases c : i < k
        · rw [if_pos c, if_pos (by omega)]
        · rw [if_neg c, if_neg (by omega)]
theorem m_lifts {a n : Nat} (ha : sh[a]? = some (10, 2 * n)) (hn : n < 5000) (hP : ∀ I', (∀ c, c ≠ a → I' c = I c) → (∀ i, I' a i = if i < n then I a (n + i) else I a i) → P (.inl none) (sh, I', J, R)) : pp_MW g (h + 1) mi_X9_lifts [.ref a] (sh, I, J, R) P := by
  refine pp_st0 [(0, .ref a)] ok_X9_lifts rfl (Nat.le_of_ble_eq_true rfl) rfl ?_
  refine pp_go rfl sk_X9_lifts_0 ?_
  simp (disch := omega) only [sg_X9_lifts_0, sw_c, sw_n, sx, sf_4, sv_i, sv_j, sv_r, sv_q1, sv_q0, sv_1i, sv_1r, sv_2, sl_i, sl_j, sl_a, sl_v, sp_p, sp_f1, sp_f2, sc_w, sc_c, sc_r, sc_f, sc_a, sc_k, pp_in, pp_al, ↓reduceIte, Nat.reduceEqDiff, Nat.reduceLT, Nat.reduceLeDiff, Nat.reduceAdd, Nat.reduceSub, Nat.reduceMul, List.length_cons, List.length_nil, true_and, and_true, and_self, true_implies, eq_self, not_true_eq_false, not_false_eq_true, false_implies, implies_true, false_and, and_false, Bool.false_eq_true, or_true, true_or, or_false, false_or, Classical.not_not, Nat.le_refl, Nat.lt_irrefl, Bool.true_eq_false, n_lit, n_a, n_c, n_s, n_b, n_m, n_g, n_w, n_n]
  exact m_lifts_l (I := I) ha hn hP n 0 I (by omega) (fun _ _ => rfl) (fun i => by rw [if_neg (by omega)])
theorem m_liftsAll (hM : sM sh R) (hP : ∀ I', (∀ c, c < 123 ∨ 130 ≤ c → I' c = I c) → (∀ i, i < 14 → I' 123 i = I 123 (14 + i)) → (∀ i, i < 8 → I' 124 i = I 124 (8 + i)) → (∀ i, i < 8 → I' 125 i = I 125 (8 + i)) → (∀ i, i < 32 → I' 126 i = I 126 (32 + i)) → (∀ i, i < 6 → I' 127 i = I 127 (6 + i)) → I' 128 0 = I 128 1 → (∀ i, i < 720 → I' 129 i = I 129 (720 + i)) → P (.inl none) (sh, I', J, R)) : pp_MW g (h + 2) mi_X9_liftsAll [.ref 121] (sh, I, J, R) P := by
  refine pp_st0 [(0, .ref 121)] ok_X9_liftsAll rfl (Nat.le_of_ble_eq_true rfl) rfl ?_
  refine pp_go rfl sk_X9_liftsAll_0 ?_
  simp (disch := omega) only [sg_X9_liftsAll_0, sw_c, sw_n, sx, sf_4, sv_i, sv_j, sv_r, sv_q1, sv_q0, sv_1i, sv_1r, sv_2, sl_i, sl_j, sl_a, sl_v, sp_p, sp_f1, sp_f2, sc_w, sc_c, sc_r, sc_f, sc_a, sc_k, pp_in, pp_al, ↓reduceIte, Nat.reduceEqDiff, Nat.reduceLT, Nat.reduceLeDiff, Nat.reduceAdd, Nat.reduceSub, Nat.reduceMul, List.length_cons, List.length_nil, true_and, and_true, and_self, true_implies, eq_self, not_true_eq_false, not_false_eq_true, false_implies, implies_true, false_and, and_false, Bool.false_eq_true, or_true, true_or, or_false, false_or, Classical.not_not, Nat.le_refl, Nat.lt_irrefl, Bool.true_eq_false, n_lit, n_a, n_c, n_s, n_b, n_m, n_g, n_w, n_n, hM]
  refine m_lifts (n := 14) hM.2.2.1 (by omega) (fun I1 c1 r1 => ?_)
  simp (disch := omega) only [sw_c, sw_n, sx, sf_4, sv_i, sv_j, sv_r, sv_q1, sv_q0, sv_1i, sv_1r, sv_2, sl_i, sl_j, sl_a, sl_v, sp_p, sp_f1, sp_f2, sc_w, sc_c, sc_r, sc_f, sc_a, sc_k, pp_in, pp_al, ↓reduceIte, Nat.reduceEqDiff, Nat.reduceLT, Nat.reduceLeDiff, Nat.reduceAdd, Nat.reduceSub, Nat.reduceMul, List.length_cons, List.length_nil, true_and, and_true, and_self, true_implies, eq_self, not_true_eq_false, not_false_eq_true, false_implies, implies_true, false_and, and_false, Bool.false_eq_true, or_true, true_or, or_false, false_or, Classical.not_not, Nat.le_refl, Nat.lt_irrefl, Bool.true_eq_false, n_lit, n_a, n_c, n_s, n_b, n_m, n_g, n_w, n_n, hM]
  refine m_lifts (n := 8) hM.2.2.2.1 (by omega) (fun I2 c2 r2 => ?_)
  simp (disch := omega) only [sw_c, sw_n, sx, sf_4, sv_i, sv_j, sv_r, sv_q1, sv_q0, sv_1i, sv_1r, sv_2, sl_i, sl_j, sl_a, sl_v, sp_p, sp_f1, sp_f2, sc_w, sc_c, sc_r, sc_f, sc_a, sc_k, pp_in, pp_al, ↓reduceIte, Nat.reduceEqDiff, Nat.reduceLT, Nat.reduceLeDiff, Nat.reduceAdd, Nat.reduceSub, Nat.reduceMul, List.length_cons, List.length_nil, true_and, and_true, and_self, true_implies, eq_self, not_true_eq_false, not_false_eq_true, false_implies, implies_true, false_and, and_false, Bool.false_eq_true, or_true, true_or, or_false, false_or, Classical.not_not, Nat.le_refl, Nat.lt_irrefl, Bool.true_eq_false, n_lit, n_a, n_c, n_s, n_b, n_m, n_g, n_w, n_n, hM]
  refine m_lifts (n := 8) hM.2.2.2.2.1 (by omega) (fun I3 c3 r3 => ?_)
  simp (disch := omega) only [sw_c, sw_n, sx, sf_4, sv_i, sv_j, sv_r, sv_q1, sv_q0, sv_1i, sv_1r, sv_2, sl_i, sl_j, sl_a, sl_v, sp_p, sp_f1, sp_f2, sc_w, sc_c, sc_r, sc_f, sc_a, sc_k, pp_in, pp_al, ↓reduceIte, Nat.reduceEqDiff, Nat.reduceLT, Nat.reduceLeDiff, Nat.reduceAdd, Nat.reduceSub, Nat.reduceMul, List.length_cons, List.length_nil, true_and, and_true, and_self, true_implies, eq_self, not_true_eq_false, not_false_eq_true, false_implies, implies_true, false_and, and_false, Bool.false_eq_true, or_true, true_or, or_false, false_or, Classical.not_not, Nat.le_refl, Nat.lt_irrefl, Bool.true_eq_false, n_lit, n_a, n_c, n_s, n_b, n_m, n_g, n_w, n_n, hM]
  refine m_lifts (n := 32) hM.2.2.2.2.2.1 (by omega) (fun I4 c4 r4 => ?_)
  simp (disch := omega) only [sw_c, sw_n, sx, sf_4, sv_i, sv_j, sv_r, sv_q1, sv_q0, sv_1i, sv_1r, sv_2, sl_i, sl_j, sl_a, sl_v, sp_p, sp_f1, sp_f2, sc_w, sc_c, sc_r, sc_f, sc_a, sc_k, pp_in, pp_al, ↓reduceIte, Nat.reduceEqDiff, Nat.reduceLT, Nat.reduceLeDiff, Nat.reduceAdd, Nat.reduceSub, Nat.reduceMul, List.length_cons, List.length_nil, true_and, and_true, and_self, true_implies, eq_self, not_true_eq_false, not_false_eq_true, false_implies, implies_true, false_and, and_false, Bool.false_eq_true, or_true, true_or, or_false, false_or, Classical.not_not, Nat.le_refl, Nat.lt_irrefl, Bool.true_eq_false, n_lit, n_a, n_c, n_s, n_b, n_m, n_g, n_w, n_n, hM]
  refine m_lifts (n := 6) hM.2.2.2.2.2.2.1 (by omega) (fun I5 c5 r5 => ?_)
  simp (disch := omega) only [sw_c, sw_n, sx, sf_4, sv_i, sv_j, sv_r, sv_q1, sv_q0, sv_1i, sv_1r, sv_2, sl_i, sl_j, sl_a, sl_v, sp_p, sp_f1, sp_f2, sc_w, sc_c, sc_r, sc_f, sc_a, sc_k, pp_in, pp_al, ↓reduceIte, Nat.reduceEqDiff, Nat.reduceLT, Nat.reduceLeDiff, Nat.reduceAdd, Nat.reduceSub, Nat.reduceMul, List.length_cons, List.length_nil, true_and, and_true, and_self, true_implies, eq_self, not_true_eq_false, not_false_eq_true, false_implies, implies_true, false_and, and_false, Bool.false_eq_true, or_true, true_or, or_false, false_or, Classical.not_not, Nat.le_refl, Nat.lt_irrefl, Bool.true_eq_false, n_lit, n_a, n_c, n_s, n_b, n_m, n_g, n_w, n_n, hM]
  refine m_lifts (n := 1) hM.2.2.2.2.2.2.2.1 (by omega) (fun I6 c6 r6 => ?_)
  simp (disch := omega) only [sw_c, sw_n, sx, sf_4, sv_i, sv_j, sv_r, sv_q1, sv_q0, sv_1i, sv_1r, sv_2, sl_i, sl_j, sl_a, sl_v, sp_p, sp_f1, sp_f2, sc_w, sc_c, sc_r, sc_f, sc_a, sc_k, pp_in, pp_al, ↓reduceIte, Nat.reduceEqDiff, Nat.reduceLT, Nat.reduceLeDiff, Nat.reduceAdd, Nat.reduceSub, Nat.reduceMul, List.length_cons, List.length_nil, true_and, and_true, and_self, true_implies, eq_self, not_true_eq_false, not_false_eq_true, false_implies, implies_true, false_and, and_false, Bool.false_eq_true, or_true, true_or, or_false, false_or, Classical.not_not, Nat.le_refl, Nat.lt_irrefl, Bool.true_eq_false, n_lit, n_a, n_c, n_s, n_b, n_m, n_g, n_w, n_n, hM]
  refine m_lifts (n := 720) hM.2.2.2.2.2.2.2.2.1 (by omega) (fun I7 c7 r7 => ?_)
  simp (disch := omega) only [sw_c, sw_n, sx, sf_4, sv_i, sv_j, sv_r, sv_q1, sv_q0, sv_1i, sv_1r, sv_2, sl_i, sl_j, sl_a, sl_v, sp_p, sp_f1, sp_f2, sc_w, sc_c, sc_r, sc_f, sc_a, sc_k, pp_in, pp_al, ↓reduceIte, Nat.reduceEqDiff, Nat.reduceLT, Nat.reduceLeDiff, Nat.reduceAdd, Nat.reduceSub, Nat.reduceMul, List.length_cons, List.length_nil, true_and, and_true, and_self, true_implies, eq_self, not_true_eq_false, not_false_eq_true, false_implies, implies_true, false_and, and_false, Bool.false_eq_true, or_true, true_or, or_false, false_or, Classical.not_not, Nat.le_refl, Nat.lt_irrefl, Bool.true_eq_false, n_lit, n_a, n_c, n_s, n_b, n_m, n_g, n_w, n_n, hM]
  refine hP I7 (fun c hc => ?_) (fun i hi => ?_) (fun i hi => ?_) (fun i hi => ?_) (fun i hi => ?_) (fun i hi => ?_) ?_ (fun i hi => ?_)
  · rw [c7 c (by omega), c6 c (by omega), c5 c (by omega), c4 c (by omega), c3 c (by omega), c2 c (by omega), c1 c (by omega)]
  · rw [c7 123 (by omega), c6 123 (by omega), c5 123 (by omega), c4 123 (by omega), c3 123 (by omega), c2 123 (by omega), r1, if_pos hi]
  · rw [c7 124 (by omega), c6 124 (by omega), c5 124 (by omega), c4 124 (by omega), c3 124 (by omega), r2, if_pos hi, c1 124 (by omega)]
  · rw [c7 125 (by omega), c6 125 (by omega), c5 125 (by omega), c4 125 (by omega), r3, if_pos hi, c2 125 (by omega), c1 125 (by omega)]
  · rw [c7 126 (by omega), c6 126 (by omega), c5 126 (by omega), r4, if_pos hi, c3 126 (by omega), c2 126 (by omega), c1 126 (by omega)]
  · rw [c7 127 (by omega), c6 127 (by omega), r5, if_pos hi, c4 127 (by omega), c3 127 (by omega), c2 127 (by omega), c1 127 (by omega)]
  · rw [c7 128 (by omega), r6, if_pos (by omega), c5 128 (by omega), c4 128 (by omega), c3 128 (by omega), c2 128 (by omega), c1 128 (by omega)]
  · rw [r7, if_pos hi, c6 129 (by omega), c5 129 (by omega), c4 129 (by omega), c3 129 (by omega), c2 129 (by omega), c1 129 (by omega)]
theorem m_bg_c {np : Nat} {pat : Nat → Nat} (hM : sM sh R) (hn : np ≤ 16) (h2 : I 123 2 = Int32.ofNat np) (hp : ∀ i, i < 2 * np → I 126 i = Int32.ofNat (pat i) ∧ pat i ≤ 9999)
    (K : ∀ J', (∀ a, a ≠ 122 → J' a = J a) → (∀ i, J' 122 i = if 17 ≤ i ∧ i < 17 + np then Int64.ofNat (pat (2 * (i - 17))) else if 33 ≤ i ∧ i < 33 + np then Int64.ofNat (pat (2 * (i - 33) + 1)) else J 122 i) → pp_N g h mi_X9_begins P 140 [(0, .ref 121)] [] (sh, I, J', R)) :
    ∀ f k J', f + k = np → (∀ a, a ≠ 122 → J' a = J a) → (∀ i, J' 122 i = if 17 ≤ i ∧ i < 17 + k then Int64.ofNat (pat (2 * (i - 17))) else if 33 ≤ i ∧ i < 33 + k then Int64.ofNat (pat (2 * (i - 33) + 1)) else J 122 i) → pp_N g h mi_X9_begins P 86 [(0, .ref 121), (1, .int (Int32.ofNat k))] [] (sh, I, J', R) := by
  intro f
  induction f with
  | zero =>
    intro k J' hk hf hr
    have hk : k = np := by omega
    subst hk
    refine pp_go rfl sk_X9_begins_86 ?_
    simp (disch := omega) only [sg_X9_begins_86, sw_c, sw_n, sx, sf_4, sv_i, sv_j, sv_r, sv_q1, sv_q0, sv_1i, sv_1r, sv_2, sl_i, sl_j, sl_a, sl_v, sp_p, sp_f1, sp_f2, sc_w, sc_c, sc_r, sc_f, sc_a, sc_k, pp_in, pp_al, ↓reduceIte, Nat.reduceEqDiff, Nat.reduceLT, Nat.reduceLeDiff, Nat.reduceAdd, Nat.reduceSub, Nat.reduceMul, List.length_cons, List.length_nil, true_and, and_true, and_self, true_implies, eq_self, not_true_eq_false, not_false_eq_true, false_implies, implies_true, false_and, and_false, Bool.false_eq_true, or_true, true_or, or_false, false_or, Classical.not_not, Nat.le_refl, Nat.lt_irrefl, Bool.true_eq_false, n_lit, n_a, n_c, n_s, n_b, n_m, n_g, n_w, n_n, hM, h2]
    exact pp_N.sub (K J' hf hr) (by simp)
  | succ f ih =>
    intro k J' hk hf hr
    have q1 : ¬ np ≤ k := by omega
    have p1 := hp (2 * k) (by omega)
    have p2 := hp (2 * k + 1) (by omega)
    refine pp_go rfl sk_X9_begins_86 ?_
    simp (disch := omega) only [sg_X9_begins_86, sw_c, sw_n, sx, sf_4, sv_i, sv_j, sv_r, sv_q1, sv_q0, sv_1i, sv_1r, sv_2, sl_i, sl_j, sl_a, sl_v, sp_p, sp_f1, sp_f2, sc_w, sc_c, sc_r, sc_f, sc_a, sc_k, pp_in, pp_al, ↓reduceIte, Nat.reduceEqDiff, Nat.reduceLT, Nat.reduceLeDiff, Nat.reduceAdd, Nat.reduceSub, Nat.reduceMul, List.length_cons, List.length_nil, true_and, and_true, and_self, true_implies, eq_self, not_true_eq_false, not_false_eq_true, false_implies, implies_true, false_and, and_false, Bool.false_eq_true, or_true, true_or, or_false, false_or, Classical.not_not, Nat.le_refl, Nat.lt_irrefl, Bool.true_eq_false, n_lit, n_a, n_c, n_s, n_b, n_m, n_g, n_w, n_n, hM, h2, q1, p1.1, p2.1]
    refine ih (k + 1) _ (by omega) (fun c hc => ?_) (fun i => ?_)
    · rw [pp_s_ne _ _ hc]; exact hf c hc
    · simp only [n_m, ↓reduceIte]
      by_cases e : i = 33 + k
      · rw [if_pos e, if_neg (by omega), if_pos (by omega), e, show 2 * (33 + k - 33) + 1 = 2 * k + 1 by omega]
      · rw [if_neg e]
        by_cases e2 : i = 17 + k
        · rw [if_pos e2, if_pos (by omega), e2, show 2 * (17 + k - 17) = 2 * k by omega]
        · rw [if_neg e2, hr]
          by_cases c : 17 ≤ i ∧ i < 17 + k
          · rw [if_pos c, if_pos (by omega)]
          · rw [if_neg c]
            by_cases c2 : 33 ≤ i ∧ i < 33 + k
            · rw [if_pos c2, if_neg (by omega), if_pos (by omega)]
            · rw [if_neg c2, if_neg (by omega), if_neg (by omega)]
theorem m_bg_b {nm : Nat} {mem : Nat → Nat} (hM : sM sh R) (hn : nm ≤ 8) (h2 : I 123 0 = Int32.ofNat nm) (hp : ∀ i, i < nm → I 124 i = Int32.ofNat (mem i) ∧ mem i ≤ 9999)
    (K : ∀ J', (∀ a, a ≠ 122 → J' a = J a) → (∀ i, J' 122 i = if 9 ≤ i ∧ i < 9 + nm then Int64.ofNat (mem (i - 9)) else J 122 i) → pp_N g h mi_X9_begins P 84 [(0, .ref 121)] [] (sh, I, J', R)) :
    ∀ f k J', f + k = nm → (∀ a, a ≠ 122 → J' a = J a) → (∀ i, J' 122 i = if 9 ≤ i ∧ i < 9 + k then Int64.ofNat (mem (i - 9)) else J 122 i) → pp_N g h mi_X9_begins P 52 [(0, .ref 121), (1, .int (Int32.ofNat k))] [] (sh, I, J', R) := by
  intro f
  induction f with
  | zero =>
    intro k J' hk hf hr
    have hk : k = nm := by omega
    subst hk
    refine pp_go rfl sk_X9_begins_52 ?_
    simp (disch := omega) only [sg_X9_begins_52, sw_c, sw_n, sx, sf_4, sv_i, sv_j, sv_r, sv_q1, sv_q0, sv_1i, sv_1r, sv_2, sl_i, sl_j, sl_a, sl_v, sp_p, sp_f1, sp_f2, sc_w, sc_c, sc_r, sc_f, sc_a, sc_k, pp_in, pp_al, ↓reduceIte, Nat.reduceEqDiff, Nat.reduceLT, Nat.reduceLeDiff, Nat.reduceAdd, Nat.reduceSub, Nat.reduceMul, List.length_cons, List.length_nil, true_and, and_true, and_self, true_implies, eq_self, not_true_eq_false, not_false_eq_true, false_implies, implies_true, false_and, and_false, Bool.false_eq_true, or_true, true_or, or_false, false_or, Classical.not_not, Nat.le_refl, Nat.lt_irrefl, Bool.true_eq_false, n_lit, n_a, n_c, n_s, n_b, n_m, n_g, n_w, n_n, hM, h2]
    exact pp_N.sub (K J' hf hr) (by simp)
  | succ f ih =>
    intro k J' hk hf hr
    have q1 : ¬ nm ≤ k := by omega
    have p1 := hp k (by omega)
    refine pp_go rfl sk_X9_begins_52 ?_
    simp (disch := omega) only [sg_X9_begins_52, sw_c, sw_n, sx, sf_4, sv_i, sv_j, sv_r, sv_q1, sv_q0, sv_1i, sv_1r, sv_2, sl_i, sl_j, sl_a, sl_v, sp_p, sp_f1, sp_f2, sc_w, sc_c, sc_r, sc_f, sc_a, sc_k, pp_in, pp_al, ↓reduceIte, Nat.reduceEqDiff, Nat.reduceLT, Nat.reduceLeDiff, Nat.reduceAdd, Nat.reduceSub, Nat.reduceMul, List.length_cons, List.length_nil, true_and, and_true, and_self, true_implies, eq_self, not_true_eq_false, not_false_eq_true, false_implies, implies_true, false_and, and_false, Bool.false_eq_true, or_true, true_or, or_false, false_or, Classical.not_not, Nat.le_refl, Nat.lt_irrefl, Bool.true_eq_false, n_lit, n_a, n_c, n_s, n_b, n_m, n_g, n_w, n_n, hM, h2, q1, p1.1]
    refine ih (k + 1) _ (by omega) (fun c hc => ?_) (fun i => ?_)
    · rw [pp_s_ne _ _ hc]; exact hf c hc
    · simp only [n_m, ↓reduceIte]
      by_cases e : i = 9 + k
      · rw [if_pos e, if_pos (by omega), e, show 9 + k - 9 = k by omega]
      · rw [if_neg e, hr]
        by_cases c : 9 ≤ i ∧ i < 9 + k
        · rw [if_pos c, if_pos (by omega)]
        · rw [if_neg c, if_neg (by omega)]
theorem m_bg_a (hM : sM sh R) (K : ∀ J', (∀ a, a ≠ 122 → J' a = J a) → (∀ i, J' 122 i = if i < 229 then Int64.ofNat 0 else J 122 i) → pp_N g h mi_X9_begins P 22 [(0, .ref 121)] [] (sh, I, J', R)) :
    ∀ f k J', f + k = 229 → (∀ a, a ≠ 122 → J' a = J a) → (∀ i, J' 122 i = if i < k then Int64.ofNat 0 else J 122 i) → pp_N g h mi_X9_begins P 2 [(0, .ref 121), (1, .int (Int32.ofNat k))] [] (sh, I, J', R) := by
  intro f
  induction f with
  | zero =>
    intro k J' hk hf hr
    have hk : k = 229 := by omega
    subst hk
    refine pp_go rfl sk_X9_begins_2 ?_
    simp (disch := omega) only [sg_X9_begins_2, sw_c, sw_n, sx, sf_4, sv_i, sv_j, sv_r, sv_q1, sv_q0, sv_1i, sv_1r, sv_2, sl_i, sl_j, sl_a, sl_v, sp_p, sp_f1, sp_f2, sc_w, sc_c, sc_r, sc_f, sc_a, sc_k, pp_in, pp_al, ↓reduceIte, Nat.reduceEqDiff, Nat.reduceLT, Nat.reduceLeDiff, Nat.reduceAdd, Nat.reduceSub, Nat.reduceMul, List.length_cons, List.length_nil, true_and, and_true, and_self, true_implies, eq_self, not_true_eq_false, not_false_eq_true, false_implies, implies_true, false_and, and_false, Bool.false_eq_true, or_true, true_or, or_false, false_or, Classical.not_not, Nat.le_refl, Nat.lt_irrefl, Bool.true_eq_false, n_lit, n_a, n_c, n_s, n_b, n_m, n_g, n_w, n_n]
    exact pp_N.sub (K J' hf hr) (by simp)
  | succ f ih =>
    intro k J' hk hf hr
    have q1 : ¬ 229 ≤ k := by omega
    refine pp_go rfl sk_X9_begins_2 ?_
    simp (disch := omega) only [sg_X9_begins_2, sw_c, sw_n, sx, sf_4, sv_i, sv_j, sv_r, sv_q1, sv_q0, sv_1i, sv_1r, sv_2, sl_i, sl_j, sl_a, sl_v, sp_p, sp_f1, sp_f2, sc_w, sc_c, sc_r, sc_f, sc_a, sc_k, pp_in, pp_al, ↓reduceIte, Nat.reduceEqDiff, Nat.reduceLT, Nat.reduceLeDiff, Nat.reduceAdd, Nat.reduceSub, Nat.reduceMul, List.length_cons, List.length_nil, true_and, and_true, and_self, true_implies, eq_self, not_true_eq_false, not_false_eq_true, false_implies, implies_true, false_and, and_false, Bool.false_eq_true, or_true, true_or, or_false, false_or, Classical.not_not, Nat.le_refl, Nat.lt_irrefl, Bool.true_eq_false, n_lit, n_a, n_c, n_s, n_b, n_m, n_g, n_w, n_n, hM, q1]
    refine ih (k + 1) _ (by omega) (fun c hc => ?_) (fun i => ?_)
    · rw [pp_s_ne _ _ hc]; exact hf c hc
    · simp only [n_m, ↓reduceIte]
      by_cases e : i = k
      · rw [if_pos e, if_pos (by omega)]
      · rw [if_neg e, hr]
        by_cases c : i < k
        · rw [if_pos c, if_pos (by omega)]
        · rw [if_neg c, if_neg (by omega)]
theorem m_begins {D : DR} (hM : sM sh R) (hw : wfD D) (h123 : ∀ i, i < 14 → I 123 i = Int32.ofNat (D.1 i)) (h124 : ∀ i, i < D.1 0 → I 124 i = Int32.ofNat (D.2.1 i)) (h126 : ∀ i, i < 2 * D.1 2 → I 126 i = Int32.ofNat (D.2.2.2.1 i))
    (hP : ∀ I' J', (∀ a, a ≠ 121 → a ≠ 139 → I' a = I a) → (∀ k, k ≠ 27 → I' 121 k = I 121 k) → I' 121 27 = Int32.ofNat 0 → I' 139 0 = Int32.ofNat 0 → I' 139 1 = Int32.ofNat 0 → (∀ a, a ≠ 122 → J' a = J a) → rN (J' 122) (dG D) → P (.inl none) (sh, I', J', R)) : pp_MW g (h + 1) mi_X9_begins [.ref 121] (sh, I, J, R) P := by
  refine pp_st0 [(0, .ref 121)] ok_X9_begins rfl (Nat.le_of_ble_eq_true rfl) rfl ?_
  have w0 : D.1 0 ≤ 8 := hw.1
  have w2 : D.1 2 ≤ 16 := hw.2.2.1
  have xm : ∀ i, i < D.1 0 → D.2.1 i ≤ 9999 := hw.2.2.2.2.2.2.2.2.2.2.2.2.2.2.1
  have xp : ∀ i, i < 2 * D.1 2 → D.2.2.2.1 i ≤ 9999 := hw.2.2.2.2.2.2.2.2.2.2.2.2.2.2.2.2.1
  have k0 := h123 0 (by omega)
  have k2 := h123 2 (by omega)
  refine pp_go rfl sk_X9_begins_0 ?_
  simp (disch := omega) only [sg_X9_begins_0, sw_c, sw_n, sx, sf_4, sv_i, sv_j, sv_r, sv_q1, sv_q0, sv_1i, sv_1r, sv_2, sl_i, sl_j, sl_a, sl_v, sp_p, sp_f1, sp_f2, sc_w, sc_c, sc_r, sc_f, sc_a, sc_k, pp_in, pp_al, ↓reduceIte, Nat.reduceEqDiff, Nat.reduceLT, Nat.reduceLeDiff, Nat.reduceAdd, Nat.reduceSub, Nat.reduceMul, List.length_cons, List.length_nil, true_and, and_true, and_self, true_implies, eq_self, not_true_eq_false, not_false_eq_true, false_implies, implies_true, false_and, and_false, Bool.false_eq_true, or_true, true_or, or_false, false_or, Classical.not_not, Nat.le_refl, Nat.lt_irrefl, Bool.true_eq_false, n_lit, n_a, n_c, n_s, n_b, n_m, n_g, n_w, n_n]
  refine m_bg_a (J := J) hM (fun J1 f1 r1 => ?_) 229 0 J (by omega) (fun _ _ => rfl) (fun i => by rw [if_neg (by omega)])
  refine pp_go rfl sk_X9_begins_22 ?_
  simp (disch := omega) only [sg_X9_begins_22, sw_c, sw_n, sx, sf_4, sv_i, sv_j, sv_r, sv_q1, sv_q0, sv_1i, sv_1r, sv_2, sl_i, sl_j, sl_a, sl_v, sp_p, sp_f1, sp_f2, sc_w, sc_c, sc_r, sc_f, sc_a, sc_k, pp_in, pp_al, ↓reduceIte, Nat.reduceEqDiff, Nat.reduceLT, Nat.reduceLeDiff, Nat.reduceAdd, Nat.reduceSub, Nat.reduceMul, List.length_cons, List.length_nil, true_and, and_true, and_self, true_implies, eq_self, not_true_eq_false, not_false_eq_true, false_implies, implies_true, false_and, and_false, Bool.false_eq_true, or_true, true_or, or_false, false_or, Classical.not_not, Nat.le_refl, Nat.lt_irrefl, Bool.true_eq_false, n_lit, n_a, n_c, n_s, n_b, n_m, n_g, n_w, n_n, hM, k0, k2]
  refine m_bg_b (nm := D.1 0) (mem := D.2.1) hM w0 k0 (fun i hi => ⟨h124 i hi, xm i hi⟩) (fun J2 f2 r2 => ?_) (D.1 0) 0 _ (by omega) (fun _ _ => rfl) (fun i => by rw [if_neg (by omega)])
  refine pp_go rfl sk_X9_begins_84 ?_
  simp (disch := omega) only [sg_X9_begins_84, sw_c, sw_n, sx, sf_4, sv_i, sv_j, sv_r, sv_q1, sv_q0, sv_1i, sv_1r, sv_2, sl_i, sl_j, sl_a, sl_v, sp_p, sp_f1, sp_f2, sc_w, sc_c, sc_r, sc_f, sc_a, sc_k, pp_in, pp_al, ↓reduceIte, Nat.reduceEqDiff, Nat.reduceLT, Nat.reduceLeDiff, Nat.reduceAdd, Nat.reduceSub, Nat.reduceMul, List.length_cons, List.length_nil, true_and, and_true, and_self, true_implies, eq_self, not_true_eq_false, not_false_eq_true, false_implies, implies_true, false_and, and_false, Bool.false_eq_true, or_true, true_or, or_false, false_or, Classical.not_not, Nat.le_refl, Nat.lt_irrefl, Bool.true_eq_false, n_lit, n_a, n_c, n_s, n_b, n_m, n_g, n_w, n_n]
  refine m_bg_c (np := D.1 2) (pat := D.2.2.2.1) hM w2 k2 (fun i hi => ⟨h126 i hi, xp i hi⟩) (fun J3 f3 r3 => ?_) (D.1 2) 0 _ (by omega) (fun _ _ => rfl) (fun i => by rw [if_neg (by omega), if_neg (by omega)])
  refine pp_go rfl sk_X9_begins_140 ?_
  simp (disch := omega) only [sg_X9_begins_140, sw_c, sw_n, sx, sf_4, sv_i, sv_j, sv_r, sv_q1, sv_q0, sv_1i, sv_1r, sv_2, sl_i, sl_j, sl_a, sl_v, sp_p, sp_f1, sp_f2, sc_w, sc_c, sc_r, sc_f, sc_a, sc_k, pp_in, pp_al, ↓reduceIte, Nat.reduceEqDiff, Nat.reduceLT, Nat.reduceLeDiff, Nat.reduceAdd, Nat.reduceSub, Nat.reduceMul, List.length_cons, List.length_nil, true_and, and_true, and_self, true_implies, eq_self, not_true_eq_false, not_false_eq_true, false_implies, implies_true, false_and, and_false, Bool.false_eq_true, or_true, true_or, or_false, false_or, Classical.not_not, Nat.le_refl, Nat.lt_irrefl, Bool.true_eq_false, n_lit, n_a, n_c, n_s, n_b, n_m, n_g, n_w, n_n, hM]
  have al : ∀ i, i < 229 → J3 122 i = if i = 7 then Int64.ofNat (D.1 0) else if i = 8 then Int64.ofNat (D.1 2) else if 9 ≤ i ∧ i < 9 + D.1 0 then Int64.ofNat (D.2.1 (i - 9)) else if 17 ≤ i ∧ i < 17 + D.1 2 then Int64.ofNat (D.2.2.2.1 (2 * (i - 17))) else if 33 ≤ i ∧ i < 33 + D.1 2 then Int64.ofNat (D.2.2.2.1 (2 * (i - 33) + 1)) else Int64.ofNat 0 := by
    intro i hi
    rw [r3]
    by_cases c7 : i = 7
    · rw [if_neg (by omega), if_neg (by omega), r2, if_neg (by omega), if_pos c7]
      simp only [n_m, ↓reduceIte, c7, Nat.reduceEqDiff]
    · rw [if_neg c7]
      by_cases c8 : i = 8
      · rw [if_neg (by omega), if_neg (by omega), r2, if_neg (by omega), if_pos c8]
        simp only [n_m, ↓reduceIte, c8]
      · rw [if_neg c8]
        by_cases c9 : 9 ≤ i ∧ i < 9 + D.1 0
        · rw [if_neg (by omega), if_neg (by omega), r2, if_pos c9, if_pos c9]
        · rw [if_neg c9]
          by_cases c17 : 17 ≤ i ∧ i < 17 + D.1 2
          · rw [if_pos c17, if_pos c17]
          · rw [if_neg c17, if_neg c17]
            by_cases c33 : 33 ≤ i ∧ i < 33 + D.1 2
            · rw [if_pos c33, if_pos c33]
            · rw [if_neg c33, if_neg c33, r2, if_neg c9]
              simp only [n_m, ↓reduceIte]
              rw [if_neg c8, if_neg c7, r1, if_pos hi]
  refine hP _ J3 (fun a x1 x2 => ?_) (fun k hk => ?_) ?_ ?_ ?_ (fun a ha => ?_) ⟨fun i hi => ?_, fun i hi => ?_⟩
  · simp only [n_m]; rw [if_neg x2, if_neg x1]
  · simp only [n_m, ↓reduceIte, Nat.reduceEqDiff]; rw [if_neg hk]
  · simp only [n_m, ↓reduceIte, Nat.reduceEqDiff]
  · simp only [n_m, ↓reduceIte, Nat.reduceEqDiff]
  · simp only [n_m, ↓reduceIte, Nat.reduceEqDiff]
  · rw [f3 a ha, f2 a ha, pp_s_ne _ _ ha, f1 a ha]
  · rw [al i (by omega)]
    simp only [dG]
    repeat' split
    all_goals rfl
  · rw [al i (by omega)]
    simp only [dG]
    rw [if_neg (by omega), if_neg (by omega), if_neg (by omega), if_neg (by omega), if_neg (by omega)]
/-- the loop over statements -/
theorem m_pl {b : Nat → Nat} {m : Nat} {p : Int32} (hM : sM sh R) (hm : m ≤ 700) :
    ∀ (f : Nat) (I : Nat → Nat → Int32) (t : TK) (D : DR), m ≤ f + t.2.1 → PM9 b m I t D → wfD D →
      (∀ e, lps b m f t D = .inl e → ∀ I', fP I I' → I' 121 16 = Int32.ofNat e.1 → I' 121 17 = Int32.ofNat e.2 → P (.inl (some (.int (Int32.ofNat e.1)))) (sh, I', J, R)) →
      (∀ t' D', lps b m f t D = .inr (t', D') → ∀ I', fP I I' → PM9 b m I' t' D' → wfD D' → pp_N g (h + 25) mi_X9_parse P 119 [(0, .ref 121), (1, .int p), (2, .int (Int32.ofNat 1))] [] (sh, I', J, R)) →
      pp_N g (h + 25) mi_X9_parse P 74 [(0, .ref 121), (1, .int p), (2, .int (Int32.ofNat 1))] [] (sh, I, J, R) := by
  intro f
  induction f with
  | zero =>
    intro I t D hf hp hw hE hK
    have tb := tk_b hp.1.2.1.1
    have t0 : t.1 = 0 := by
      by_cases z : t.1 = 0
      · exact z
      · have := tb.2.2.1 z; omega
    have e14 := hp.1.2.1.2.1
    rw [t0] at e14
    refine pp_go rfl sk_X9_parse_74 ?_
    simp (disch := omega) only [sg_X9_parse_74, sw_c, sw_n, sx, sf_4, sv_i, sv_j, sv_r, sv_q1, sv_q0, sv_1i, sv_1r, sv_2, sl_i, sl_j, sl_a, sl_v, sp_p, sp_f1, sp_f2, sc_w, sc_c, sc_r, sc_f, sc_a, sc_k, pp_in, pp_al, ↓reduceIte, Nat.reduceEqDiff, Nat.reduceLT, Nat.reduceLeDiff, Nat.reduceAdd, Nat.reduceSub, Nat.reduceMul, List.length_cons, List.length_nil, true_and, and_true, and_self, true_implies, eq_self, not_true_eq_false, not_false_eq_true, false_implies, implies_true, false_and, and_false, Bool.false_eq_true, or_true, true_or, or_false, false_or, Classical.not_not, Nat.le_refl, Nat.lt_irrefl, Bool.true_eq_false, n_lit, n_a, n_c, n_s, n_b, n_m, n_g, n_w, n_n, rk_X9_parse, hM, e14]
    refine pp_go rfl sk_X9_parse_110 ?_
    simp (disch := omega) only [sg_X9_parse_110, sw_c, sw_n, sx, sf_4, sv_i, sv_j, sv_r, sv_q1, sv_q0, sv_1i, sv_1r, sv_2, sl_i, sl_j, sl_a, sl_v, sp_p, sp_f1, sp_f2, sc_w, sc_c, sc_r, sc_f, sc_a, sc_k, pp_in, pp_al, ↓reduceIte, Nat.reduceEqDiff, Nat.reduceLT, Nat.reduceLeDiff, Nat.reduceAdd, Nat.reduceSub, Nat.reduceMul, List.length_cons, List.length_nil, true_and, and_true, and_self, true_implies, eq_self, not_true_eq_false, not_false_eq_true, false_implies, implies_true, false_and, and_false, Bool.false_eq_true, or_true, true_or, or_false, false_or, Classical.not_not, Nat.le_refl, Nat.lt_irrefl, Bool.true_eq_false, n_lit, n_a, n_c, n_s, n_b, n_m, n_g, n_w, n_n, rk_X9_parse]
    exact hK t D rfl I (fP.refl I) hp hw
  | succ f ih =>
    intro I t D hf hp hw hE hK
    have tb := tk_b hp.1.2.1.1
    have e14 := hp.1.2.1.2.1
    rw [lps] at hE hK
    by_cases t0 : t.1 = 0
    · rw [if_pos t0] at hE hK
      refine pp_go rfl sk_X9_parse_74 ?_
      simp (disch := omega) only [sg_X9_parse_74, sw_c, sw_n, sx, sf_4, sv_i, sv_j, sv_r, sv_q1, sv_q0, sv_1i, sv_1r, sv_2, sl_i, sl_j, sl_a, sl_v, sp_p, sp_f1, sp_f2, sc_w, sc_c, sc_r, sc_f, sc_a, sc_k, pp_in, pp_al, ↓reduceIte, Nat.reduceEqDiff, Nat.reduceLT, Nat.reduceLeDiff, Nat.reduceAdd, Nat.reduceSub, Nat.reduceMul, List.length_cons, List.length_nil, true_and, and_true, and_self, true_implies, eq_self, not_true_eq_false, not_false_eq_true, false_implies, implies_true, false_and, and_false, Bool.false_eq_true, or_true, true_or, or_false, false_or, Classical.not_not, Nat.le_refl, Nat.lt_irrefl, Bool.true_eq_false, n_lit, n_a, n_c, n_s, n_b, n_m, n_g, n_w, n_n, rk_X9_parse, hM, e14, t0]
      refine pp_go rfl sk_X9_parse_110 ?_
      simp (disch := omega) only [sg_X9_parse_110, sw_c, sw_n, sx, sf_4, sv_i, sv_j, sv_r, sv_q1, sv_q0, sv_1i, sv_1r, sv_2, sl_i, sl_j, sl_a, sl_v, sp_p, sp_f1, sp_f2, sc_w, sc_c, sc_r, sc_f, sc_a, sc_k, pp_in, pp_al, ↓reduceIte, Nat.reduceEqDiff, Nat.reduceLT, Nat.reduceLeDiff, Nat.reduceAdd, Nat.reduceSub, Nat.reduceMul, List.length_cons, List.length_nil, true_and, and_true, and_self, true_implies, eq_self, not_true_eq_false, not_false_eq_true, false_implies, implies_true, false_and, and_false, Bool.false_eq_true, or_true, true_or, or_false, false_or, Classical.not_not, Nat.le_refl, Nat.lt_irrefl, Bool.true_eq_false, n_lit, n_a, n_c, n_s, n_b, n_m, n_g, n_w, n_n, rk_X9_parse]
      exact hK t D rfl I (fP.refl I) hp hw
    · rw [if_neg t0] at hE hK
      have KF : ∀ (I' : Nat → Nat → Int32) (e : ER), stc b m t D = .inl e → fP I I' → I' 121 16 = Int32.ofNat e.1 → I' 121 17 = Int32.ofNat e.2 → pp_N g (h + 25) mi_X9_parse P 105 [(0, .ref 121), (1, .int p), (2, .int (Int32.ofNat 1))] [] (sh, I', J, R) := by
        intro I' e he a1 a2 a3
        rw [he] at hE
        repeat' (first | ((with_reducible refine pp_go (pc := 105) (seg := sg_X9_parse_105) hh_X9_parse sk_X9_parse_105 ?_); simp (disch := omega) only [sg_X9_parse_105, sw_c, sw_n, sx, sf_4, sv_i, sv_j, sv_r, sv_q1, sv_q0, sv_1i, sv_1r, sv_2, sl_i, sl_j, sl_a, sl_v, sp_p, sp_f1, sp_f2, sc_w, sc_c, sc_r, sc_f, sc_a, sc_k, pp_in, pp_al, ↓reduceIte, Nat.reduceEqDiff, Nat.reduceLT, Nat.reduceLeDiff, Nat.reduceAdd, Nat.reduceSub, Nat.reduceMul, List.length_cons, List.length_nil, true_and, and_true, and_self, true_implies, eq_self, not_true_eq_false, not_false_eq_true, false_implies, implies_true, false_and, and_false, Bool.false_eq_true, or_true, true_or, or_false, false_or, Classical.not_not, Nat.le_refl, Nat.lt_irrefl, Bool.true_eq_false, n_lit, n_a, n_c, n_s, n_b, n_m, n_g, n_w, n_n, rk_X9_parse]) | ((with_reducible refine pp_go (pc := 106) (seg := sg_X9_parse_106) hh_X9_parse sk_X9_parse_106 ?_); simp (disch := omega) only [sg_X9_parse_106, sw_c, sw_n, sx, sf_4, sv_i, sv_j, sv_r, sv_q1, sv_q0, sv_1i, sv_1r, sv_2, sl_i, sl_j, sl_a, sl_v, sp_p, sp_f1, sp_f2, sc_w, sc_c, sc_r, sc_f, sc_a, sc_k, pp_in, pp_al, ↓reduceIte, Nat.reduceEqDiff, Nat.reduceLT, Nat.reduceLeDiff, Nat.reduceAdd, Nat.reduceSub, Nat.reduceMul, List.length_cons, List.length_nil, true_and, and_true, and_self, true_implies, eq_self, not_true_eq_false, not_false_eq_true, false_implies, implies_true, false_and, and_false, Bool.false_eq_true, or_true, true_or, or_false, false_or, Classical.not_not, Nat.le_refl, Nat.lt_irrefl, Bool.true_eq_false, n_lit, n_a, n_c, n_s, n_b, n_m, n_g, n_w, n_n, rk_X9_parse]) | (refine ⟨fun _ => ?_, fun _ => ?_⟩ <;> try (exfalso; omega)) | fail)
        refine pp_go rfl sk_X9_parse_74 ?_
        simp (disch := omega) only [sg_X9_parse_74, sw_c, sw_n, sx, sf_4, sv_i, sv_j, sv_r, sv_q1, sv_q0, sv_1i, sv_1r, sv_2, sl_i, sl_j, sl_a, sl_v, sp_p, sp_f1, sp_f2, sc_w, sc_c, sc_r, sc_f, sc_a, sc_k, pp_in, pp_al, ↓reduceIte, Nat.reduceEqDiff, Nat.reduceLT, Nat.reduceLeDiff, Nat.reduceAdd, Nat.reduceSub, Nat.reduceMul, List.length_cons, List.length_nil, true_and, and_true, and_self, true_implies, eq_self, not_true_eq_false, not_false_eq_true, false_implies, implies_true, false_and, and_false, Bool.false_eq_true, or_true, true_or, or_false, false_or, Classical.not_not, Nat.le_refl, Nat.lt_irrefl, Bool.true_eq_false, n_lit, n_a, n_c, n_s, n_b, n_m, n_g, n_w, n_n, rk_X9_parse]
        refine pp_go rfl sk_X9_parse_110 ?_
        simp (disch := omega) only [sg_X9_parse_110, sw_c, sw_n, sx, sf_4, sv_i, sv_j, sv_r, sv_q1, sv_q0, sv_1i, sv_1r, sv_2, sl_i, sl_j, sl_a, sl_v, sp_p, sp_f1, sp_f2, sc_w, sc_c, sc_r, sc_f, sc_a, sc_k, pp_in, pp_al, ↓reduceIte, Nat.reduceEqDiff, Nat.reduceLT, Nat.reduceLeDiff, Nat.reduceAdd, Nat.reduceSub, Nat.reduceMul, List.length_cons, List.length_nil, true_and, and_true, and_self, true_implies, eq_self, not_true_eq_false, not_false_eq_true, false_implies, implies_true, false_and, and_false, Bool.false_eq_true, or_true, true_or, or_false, false_or, Classical.not_not, Nat.le_refl, Nat.lt_irrefl, Bool.true_eq_false, n_lit, n_a, n_c, n_s, n_b, n_m, n_g, n_w, n_n, rk_X9_parse, hM, a2]
        exact hE e rfl I' a1 a2 a3
      refine pp_go rfl sk_X9_parse_74 ?_
      simp (disch := omega) only [sg_X9_parse_74, sw_c, sw_n, sx, sf_4, sv_i, sv_j, sv_r, sv_q1, sv_q0, sv_1i, sv_1r, sv_2, sl_i, sl_j, sl_a, sl_v, sp_p, sp_f1, sp_f2, sc_w, sc_c, sc_r, sc_f, sc_a, sc_k, pp_in, pp_al, ↓reduceIte, Nat.reduceEqDiff, Nat.reduceLT, Nat.reduceLeDiff, Nat.reduceAdd, Nat.reduceSub, Nat.reduceMul, List.length_cons, List.length_nil, true_and, and_true, and_self, true_implies, eq_self, not_true_eq_false, not_false_eq_true, false_implies, implies_true, false_and, and_false, Bool.false_eq_true, or_true, true_or, or_false, false_or, Classical.not_not, Nat.le_refl, Nat.lt_irrefl, Bool.true_eq_false, n_lit, n_a, n_c, n_s, n_b, n_m, n_g, n_w, n_n, rk_X9_parse, hM, e14, t0]
      refine m_statement hM hp ?_
      have hc : stc b m t D = (match stm b m t D with
        | .inl e => .inl e
        | .inr (t', D') => if sgP t' 59 then .inr (nxt b m t', D') else .inl (1, t'.2.1)) := rfl
      cases hr : stm b m t D with
      | inl e =>
        rw [hr] at hc
        intro I' a1 a2 a3
        simp (disch := omega) only [sw_c, sw_n, sx, sf_4, sv_i, sv_j, sv_r, sv_q1, sv_q0, sv_1i, sv_1r, sv_2, sl_i, sl_j, sl_a, sl_v, sp_p, sp_f1, sp_f2, sc_w, sc_c, sc_r, sc_f, sc_a, sc_k, pp_in, pp_al, ↓reduceIte, Nat.reduceEqDiff, Nat.reduceLT, Nat.reduceLeDiff, Nat.reduceAdd, Nat.reduceSub, Nat.reduceMul, List.length_cons, List.length_nil, true_and, and_true, and_self, true_implies, eq_self, not_true_eq_false, not_false_eq_true, false_implies, implies_true, false_and, and_false, Bool.false_eq_true, or_true, true_or, or_false, false_or, Classical.not_not, Nat.le_refl, Nat.lt_irrefl, Bool.true_eq_false, n_lit, n_a, n_c, n_s, n_b, n_m, n_g, n_w, n_n, rk_X9_parse]
        exact KF I' e hc a1 a2 a3
      | inr q =>
        obtain ⟨t1, D1⟩ := q
        rw [hr] at hc
        dsimp only at hc
        have g1 := stm_g hm hp.1.2.1.1 hw hr
        intro I1 f1 p1
        simp (disch := omega) only [sw_c, sw_n, sx, sf_4, sv_i, sv_j, sv_r, sv_q1, sv_q0, sv_1i, sv_1r, sv_2, sl_i, sl_j, sl_a, sl_v, sp_p, sp_f1, sp_f2, sc_w, sc_c, sc_r, sc_f, sc_a, sc_k, pp_in, pp_al, ↓reduceIte, Nat.reduceEqDiff, Nat.reduceLT, Nat.reduceLeDiff, Nat.reduceAdd, Nat.reduceSub, Nat.reduceMul, List.length_cons, List.length_nil, true_and, and_true, and_self, true_implies, eq_self, not_true_eq_false, not_false_eq_true, false_implies, implies_true, false_and, and_false, Bool.false_eq_true, or_true, true_or, or_false, false_or, Classical.not_not, Nat.le_refl, Nat.lt_irrefl, Bool.true_eq_false, n_lit, n_a, n_c, n_s, n_b, n_m, n_g, n_w, n_n, rk_X9_parse, hM]
        refine m_closes hM p1.1.1 p1.1.2.1 p1.1.2.2.1 (by omega) (fun q3 I3 b1 b2 b3 => ?_) (fun q3 I3 b1 b2 => ?_)
        · rw [if_neg q3] at hc
          simp (disch := omega) only [sw_c, sw_n, sx, sf_4, sv_i, sv_j, sv_r, sv_q1, sv_q0, sv_1i, sv_1r, sv_2, sl_i, sl_j, sl_a, sl_v, sp_p, sp_f1, sp_f2, sc_w, sc_c, sc_r, sc_f, sc_a, sc_k, pp_in, pp_al, ↓reduceIte, Nat.reduceEqDiff, Nat.reduceLT, Nat.reduceLeDiff, Nat.reduceAdd, Nat.reduceSub, Nat.reduceMul, List.length_cons, List.length_nil, true_and, and_true, and_self, true_implies, eq_self, not_true_eq_false, not_false_eq_true, false_implies, implies_true, false_and, and_false, Bool.false_eq_true, or_true, true_or, or_false, false_or, Classical.not_not, Nat.le_refl, Nat.lt_irrefl, Bool.true_eq_false, n_lit, n_a, n_c, n_s, n_b, n_m, n_g, n_w, n_n, rk_X9_parse]
          exact KF I3 _ hc (fP.trans f1 b1) b2 b3
        · rw [if_pos q3] at hc
          rw [hc] at hE hK
          have p3 := PM_A p1 b1 b2
          have nb := nx_s g1.1
          have f13 := fP.trans f1 (fF_P (fF_A b1))
          simp (disch := omega) only [sw_c, sw_n, sx, sf_4, sv_i, sv_j, sv_r, sv_q1, sv_q0, sv_1i, sv_1r, sv_2, sl_i, sl_j, sl_a, sl_v, sp_p, sp_f1, sp_f2, sc_w, sc_c, sc_r, sc_f, sc_a, sc_k, pp_in, pp_al, ↓reduceIte, Nat.reduceEqDiff, Nat.reduceLT, Nat.reduceLeDiff, Nat.reduceAdd, Nat.reduceSub, Nat.reduceMul, List.length_cons, List.length_nil, true_and, and_true, and_self, true_implies, eq_self, not_true_eq_false, not_false_eq_true, false_implies, implies_true, false_and, and_false, Bool.false_eq_true, or_true, true_or, or_false, false_or, Classical.not_not, Nat.le_refl, Nat.lt_irrefl, Bool.true_eq_false, n_lit, n_a, n_c, n_s, n_b, n_m, n_g, n_w, n_n, rk_X9_parse]
          refine pp_go rfl sk_X9_parse_106 ?_
          simp (disch := omega) only [sg_X9_parse_106, sw_c, sw_n, sx, sf_4, sv_i, sv_j, sv_r, sv_q1, sv_q0, sv_1i, sv_1r, sv_2, sl_i, sl_j, sl_a, sl_v, sp_p, sp_f1, sp_f2, sc_w, sc_c, sc_r, sc_f, sc_a, sc_k, pp_in, pp_al, ↓reduceIte, Nat.reduceEqDiff, Nat.reduceLT, Nat.reduceLeDiff, Nat.reduceAdd, Nat.reduceSub, Nat.reduceMul, List.length_cons, List.length_nil, true_and, and_true, and_self, true_implies, eq_self, not_true_eq_false, not_false_eq_true, false_implies, implies_true, false_and, and_false, Bool.false_eq_true, or_true, true_or, or_false, false_or, Classical.not_not, Nat.le_refl, Nat.lt_irrefl, Bool.true_eq_false, n_lit, n_a, n_c, n_s, n_b, n_m, n_g, n_w, n_n, rk_X9_parse]
          refine ih I3 (nxt b m t1) D1 (by have := g1.2.1; have := nb.2.1; dsimp only at *; omega) p3 g1.2.2 (fun e he I' a1 a2 a3 => hE e he I' (fP.trans f13 a1) a2 a3) (fun t' D' he I' a1 a2 a3 => hK t' D' he I' (fP.trans f13 a1) a2 a3)
theorem m_parse {p : Int32} (hM : sM sh R) (hA : RM A I J) (wT : wfT (aT A)) (hN : aN A ≤ 700) (hP : ∀ I' J', RM (o_parse A p).2.2 I' J' → fO I I' J J' → I' 121 0 = Int32.ofNat (o_parse A p).1 → P (.inl (some (.int (o_parse A p).2.1))) (sh, I', J', R)) : pp_MW g (h + 26) mi_X9_parse [.ref 121, .int p] (sh, I, J, R) P := by
  refine pp_st0 [(0, .ref 121), (1, .int p)] ok_X9_parse rfl (Nat.le_of_ble_eq_true rfl) rfl ?_
  obtain ⟨a1, a2, a3, a4, a5, a6, a7⟩ := hA
  refine pp_go rfl sk_X9_parse_0 ?_
  simp (disch := omega) only [sg_X9_parse_0, sw_c, sw_n, sx, sf_4, sv_i, sv_j, sv_r, sv_q1, sv_q0, sv_1i, sv_1r, sv_2, sl_i, sl_j, sl_a, sl_v, sp_p, sp_f1, sp_f2, sc_w, sc_c, sc_r, sc_f, sc_a, sc_k, pp_in, pp_al, ↓reduceIte, Nat.reduceEqDiff, Nat.reduceLT, Nat.reduceLeDiff, Nat.reduceAdd, Nat.reduceSub, Nat.reduceMul, List.length_cons, List.length_nil, true_and, and_true, and_self, true_implies, eq_self, not_true_eq_false, not_false_eq_true, false_implies, implies_true, false_and, and_false, Bool.false_eq_true, or_true, true_or, or_false, false_or, Classical.not_not, Nat.le_refl, Nat.lt_irrefl, Bool.true_eq_false, n_lit, n_a, n_c, n_s, n_b, n_m, n_g, n_w, n_n, rk_X9_parse, hM, a4]
  rcases idx_cases p (aN A + 1) (by omega) with ⟨k, k1, rfl, e1⟩ | ⟨ho, e1⟩
  · simp only [o_parse, e1] at hP
    have q : Int64.ofNat 0 ≤ Int64.ofNat k ∧ Int64.ofNat k ≤ Int64.ofNat (aN A) := n_ri (by omega) (by omega) (by omega)
    simp (disch := omega) only [sw_c, sw_n, sx, sf_4, sv_i, sv_j, sv_r, sv_q1, sv_q0, sv_1i, sv_1r, sv_2, sl_i, sl_j, sl_a, sl_v, sp_p, sp_f1, sp_f2, sc_w, sc_c, sc_r, sc_f, sc_a, sc_k, pp_in, pp_al, ↓reduceIte, Nat.reduceEqDiff, Nat.reduceLT, Nat.reduceLeDiff, Nat.reduceAdd, Nat.reduceSub, Nat.reduceMul, List.length_cons, List.length_nil, true_and, and_true, and_self, true_implies, eq_self, not_true_eq_false, not_false_eq_true, false_implies, implies_true, false_and, and_false, Bool.false_eq_true, or_true, true_or, or_false, false_or, Classical.not_not, Nat.le_refl, Nat.lt_irrefl, Bool.true_eq_false, n_lit, n_a, n_c, n_s, n_b, n_m, n_g, n_w, n_n, rk_X9_parse]
    refine m_within ?_
    simp (disch := omega) only [sw_c, sw_n, sx, sf_4, sv_i, sv_j, sv_r, sv_q1, sv_q0, sv_1i, sv_1r, sv_2, sl_i, sl_j, sl_a, sl_v, sp_p, sp_f1, sp_f2, sc_w, sc_c, sc_r, sc_f, sc_a, sc_k, pp_in, pp_al, ↓reduceIte, Nat.reduceEqDiff, Nat.reduceLT, Nat.reduceLeDiff, Nat.reduceAdd, Nat.reduceSub, Nat.reduceMul, List.length_cons, List.length_nil, true_and, and_true, and_self, true_implies, eq_self, not_true_eq_false, not_false_eq_true, false_implies, implies_true, false_and, and_false, Bool.false_eq_true, or_true, true_or, or_false, false_or, Classical.not_not, Nat.le_refl, Nat.lt_irrefl, Bool.true_eq_false, n_lit, n_a, n_c, n_s, n_b, n_m, n_g, n_w, n_n, rk_X9_parse, q]
    refine pp_go rfl sk_X9_parse_24 ?_
    simp (disch := omega) only [sg_X9_parse_24, sw_c, sw_n, sx, sf_4, sv_i, sv_j, sv_r, sv_q1, sv_q0, sv_1i, sv_1r, sv_2, sl_i, sl_j, sl_a, sl_v, sp_p, sp_f1, sp_f2, sc_w, sc_c, sc_r, sc_f, sc_a, sc_k, pp_in, pp_al, ↓reduceIte, Nat.reduceEqDiff, Nat.reduceLT, Nat.reduceLeDiff, Nat.reduceAdd, Nat.reduceSub, Nat.reduceMul, List.length_cons, List.length_nil, true_and, and_true, and_self, true_implies, eq_self, not_true_eq_false, not_false_eq_true, false_implies, implies_true, false_and, and_false, Bool.false_eq_true, or_true, true_or, or_false, false_or, Classical.not_not, Nat.le_refl, Nat.lt_irrefl, Bool.true_eq_false, n_lit, n_a, n_c, n_s, n_b, n_m, n_g, n_w, n_n, rk_X9_parse]
    refine pp_go rfl sk_X9_parse_25 ?_
    simp (disch := omega) only [sg_X9_parse_25, sw_c, sw_n, sx, sf_4, sv_i, sv_j, sv_r, sv_q1, sv_q0, sv_1i, sv_1r, sv_2, sl_i, sl_j, sl_a, sl_v, sp_p, sp_f1, sp_f2, sc_w, sc_c, sc_r, sc_f, sc_a, sc_k, pp_in, pp_al, ↓reduceIte, Nat.reduceEqDiff, Nat.reduceLT, Nat.reduceLeDiff, Nat.reduceAdd, Nat.reduceSub, Nat.reduceMul, List.length_cons, List.length_nil, true_and, and_true, and_self, true_implies, eq_self, not_true_eq_false, not_false_eq_true, false_implies, implies_true, false_and, and_false, Bool.false_eq_true, or_true, true_or, or_false, false_or, Classical.not_not, Nat.le_refl, Nat.lt_irrefl, Bool.true_eq_false, n_lit, n_a, n_c, n_s, n_b, n_m, n_g, n_w, n_n, rk_X9_parse, hM]
    refine m_thr0 hM rfl ?_
    simp (disch := omega) only [sw_c, sw_n, sx, sf_4, sv_i, sv_j, sv_r, sv_q1, sv_q0, sv_1i, sv_1r, sv_2, sl_i, sl_j, sl_a, sl_v, sp_p, sp_f1, sp_f2, sc_w, sc_c, sc_r, sc_f, sc_a, sc_k, pp_in, pp_al, ↓reduceIte, Nat.reduceEqDiff, Nat.reduceLT, Nat.reduceLeDiff, Nat.reduceAdd, Nat.reduceSub, Nat.reduceMul, List.length_cons, List.length_nil, true_and, and_true, and_self, true_implies, eq_self, not_true_eq_false, not_false_eq_true, false_implies, implies_true, false_and, and_false, Bool.false_eq_true, or_true, true_or, or_false, false_or, Classical.not_not, Nat.le_refl, Nat.lt_irrefl, Bool.true_eq_false, n_lit, n_a, n_c, n_s, n_b, n_m, n_g, n_w, n_n, rk_X9_parse, hM]
    refine pp_go rfl sk_X9_parse_34 ?_
    simp only [sg_X9_parse_34, sw_c, sw_n, sx, sf_4, sv_i, sv_j, sv_r, sv_q1, sv_q0, sv_1i, sv_1r, sv_2, sl_i, sl_j, sl_a, sl_v, sp_p, sp_f1, sp_f2, sc_w, sc_c, sc_r, sc_f, sc_a, sc_k, pp_in, pp_al, ↓reduceIte, Nat.reduceEqDiff, Nat.reduceLT, Nat.reduceLeDiff, Nat.reduceAdd, Nat.reduceSub, Nat.reduceMul, List.length_cons, List.length_nil, true_and, and_true, and_self, true_implies, eq_self, not_true_eq_false, not_false_eq_true, false_implies, implies_true, false_and, and_false, Bool.false_eq_true, or_true, true_or, or_false, false_or, Classical.not_not, Nat.le_refl, Nat.lt_irrefl, Bool.true_eq_false, n_lit, n_a, n_c, n_s, n_b, n_m, n_g, n_w, n_n, rk_X9_parse, hM]
    refine m_clearDraft hM (fun I1 c1 c2 c3 => ?_)
    have e121 := c1.1 121 (by omega) (by omega) (by omega)
    have x1 : xM I1 (cod (aB A)) k := ⟨by rw [e121]; simp only [n_m, ↓reduceIte, Nat.reduceEqDiff], fun i hi => by rw [c1.1 130 (by omega) (by omega) (by omega)]; simp only [n_m, ↓reduceIte, Nat.reduceEqDiff]; rw [a3 i hi]; exact cod_sgn _ _, by omega, fun i => cod_lt _ _⟩
    simp (disch := omega) only [sw_c, sw_n, sx, sf_4, sv_i, sv_j, sv_r, sv_q1, sv_q0, sv_1i, sv_1r, sv_2, sl_i, sl_j, sl_a, sl_v, sp_p, sp_f1, sp_f2, sc_w, sc_c, sc_r, sc_f, sc_a, sc_k, pp_in, pp_al, ↓reduceIte, Nat.reduceEqDiff, Nat.reduceLT, Nat.reduceLeDiff, Nat.reduceAdd, Nat.reduceSub, Nat.reduceMul, List.length_cons, List.length_nil, true_and, and_true, and_self, true_implies, eq_self, not_true_eq_false, not_false_eq_true, false_implies, implies_true, false_and, and_false, Bool.false_eq_true, or_true, true_or, or_false, false_or, Classical.not_not, Nat.le_refl, Nat.lt_irrefl, Bool.true_eq_false, n_lit, n_a, n_c, n_s, n_b, n_m, n_g, n_w, n_n, rk_X9_parse, hM]
    refine m_adv (p := 0) hM x1 (by omega) (by rw [e121]; simp only [n_m, ↓reduceIte, Nat.reduceEqDiff]) (fun I2 f2 t2 => ?_)
    have p2 : PM9 (cod (aB A)) k I2 (tok (cod (aB A)) k 0) D00 := by
      refine ⟨⟨xM_fr x1 (f2.2 11 (by omega)) (f2.1 130 (by omega)), t2, ?_, sD_cg c2 (fun a _ _ => f2.1 a (by omega)), cM_cg c3 (f2.1 128 (by omega)) (f2.1 129 (by omega)), ⟨0, by omega, ?_, fun i _ => by simp [bit, D00]⟩⟩, ?_⟩
      · rw [f2.2 16 (by omega), e121]; simp only [n_m, ↓reduceIte, Nat.reduceEqDiff]
      · rw [f2.2 19 (by omega), e121]; simp only [n_m, ↓reduceIte, Nat.reduceEqDiff]
      · rw [f2.2 17 (by omega), e121]; simp only [n_m, ↓reduceIte, Nat.reduceEqDiff]; rfl
    have fr2 : (∀ a, (a < 123 ∧ a ≠ 121) ∨ 130 ≤ a → I2 a = I a) ∧ (∀ i, i < 14 → I2 123 i = I 123 i) ∧ (∀ i, I2 125 i = I 125 i) ∧ (∀ i, I2 127 i = I 127 i) ∧ I2 128 0 = I 128 0 ∧ (∀ i, i < 720 → I2 129 i = I 129 i) ∧ (∀ j, j = 0 ∨ j = 10 → I2 121 j = Int32.ofNat 0) ∧ I2 121 27 = I 121 27 := by
      refine ⟨fun a ha => ?_, fun i hi => ?_, fun i => ?_, fun i => ?_, ?_, fun i hi => ?_, fun j hj => ?_, ?_⟩
      · rw [f2.1 a (by omega), c1.1 a (by omega) (by omega) (by omega)]; simp only [n_m]; rw [if_neg (by omega)]
      · rw [f2.1 123 (by omega), c1.2.1 i hi]; simp only [n_m, ↓reduceIte, Nat.reduceEqDiff]
      · rw [f2.1 125 (by omega), c1.1 125 (by omega) (by omega) (by omega)]; simp only [n_m, ↓reduceIte, Nat.reduceEqDiff]
      · rw [f2.1 127 (by omega), c1.1 127 (by omega) (by omega) (by omega)]; simp only [n_m, ↓reduceIte, Nat.reduceEqDiff]
      · rw [f2.1 128 (by omega), c1.2.2.1]; simp only [n_m, ↓reduceIte, Nat.reduceEqDiff]
      · rw [f2.1 129 (by omega), c1.2.2.2 i hi]; simp only [n_m, ↓reduceIte, Nat.reduceEqDiff]
      · rw [f2.2 j (by omega), e121]
        rcases hj with rfl | rfl <;> simp only [n_m, ↓reduceIte, Nat.reduceEqDiff]
      · rw [f2.2 27 (by omega), e121]; simp only [n_m, ↓reduceIte, Nat.reduceEqDiff]
    have tx : txt (cod (aB A)) k = (match lps (cod (aB A)) k 700 (tok (cod (aB A)) k 0) D00 with
      | .inl e => .inl e
      | .inr (_, D) => .inr D) := rfl
    simp (disch := omega) only [sw_c, sw_n, sx, sf_4, sv_i, sv_j, sv_r, sv_q1, sv_q0, sv_1i, sv_1r, sv_2, sl_i, sl_j, sl_a, sl_v, sp_p, sp_f1, sp_f2, sc_w, sc_c, sc_r, sc_f, sc_a, sc_k, pp_in, pp_al, ↓reduceIte, Nat.reduceEqDiff, Nat.reduceLT, Nat.reduceLeDiff, Nat.reduceAdd, Nat.reduceSub, Nat.reduceMul, List.length_cons, List.length_nil, true_and, and_true, and_self, true_implies, eq_self, not_true_eq_false, not_false_eq_true, false_implies, implies_true, false_and, and_false, Bool.false_eq_true, or_true, true_or, or_false, false_or, Classical.not_not, Nat.le_refl, Nat.lt_irrefl, Bool.true_eq_false, n_lit, n_a, n_c, n_s, n_b, n_m, n_g, n_w, n_n, rk_X9_parse]
    refine m_pl (b := cod (aB A)) (m := k) hM (by omega) 700 I2 (tok (cod (aB A)) k 0) D00 (by omega) p2 D00_g (fun e he I3 b1 b2 b3 => ?_) (fun t' D' he I3 b1 b2 b3 => ?_)
    · rw [he] at tx
      rw [tx] at hP
      dsimp only at hP
      refine hP I3 J ⟨a1, ⟨fun i hi => ?_, fun i hi => ?_, fun i hi => ?_, ?_, fun i hi => ?_⟩, fun i hi => ?_, ?_, b3, ⟨?_, a6.2⟩, fun s hs => ⟨?_, (a7 s hs).2⟩⟩ (fun a ha => ⟨?_, rfl⟩) ?_
      · rw [b1.2.1 i hi, fr2.2.1 i hi]; exact a2.1 i hi
      · have hi : i < 2 * (aT A).1 1 := hi
        rw [b1.2.2.1 i (by omega), fr2.2.2.1]; exact a2.2.1 i hi
      · have hi : i < (aT A).1 3 := hi
        rw [b1.2.2.2.1 i (by omega), fr2.2.2.2.1]; exact a2.2.2.1 i hi
      · rw [b1.2.2.2.2.1, fr2.2.2.2.2.1]; exact a2.2.2.2.1
      · have hi : i < (aT A).2.2.2.length := hi
        have := wT.2.2.2.2.2.2.2.2.2.2.2.2.2.2.1
        rw [b1.2.2.2.2.2.1 i (by omega), fr2.2.2.2.2.2.1 i (by omega)]; exact a2.2.2.2.2 i hi
      · rw [b1.1 130 (by omega), fr2.1 130 (by omega)]; exact a3 i hi
      · rw [b1.2.2.2.2.2.2 10 (by omega), fr2.2.2.2.2.2.2.1 10 (by omega)]
      · rw [b1.2.2.2.2.2.2 27 (by omega), fr2.2.2.2.2.2.2.2]; exact a6.1
      · rw [b1.1 139 (by omega), fr2.1 139 (by omega)]; exact (a7 s hs).1
      · rw [b1.1 a (by omega), fr2.1 a (by omega)]
      · rw [b1.2.2.2.2.2.2 0 (by omega), fr2.2.2.2.2.2.2.1 0 (by omega)]
    · rw [he] at tx
      rw [tx] at hP
      dsimp only at hP
      have s3 := b2.1.2.2.2.1
      have c3 := b2.1.2.2.2.2.1
      refine pp_go rfl sk_X9_parse_119 ?_
      simp (disch := omega) only [sg_X9_parse_119, sw_c, sw_n, sx, sf_4, sv_i, sv_j, sv_r, sv_q1, sv_q0, sv_1i, sv_1r, sv_2, sl_i, sl_j, sl_a, sl_v, sp_p, sp_f1, sp_f2, sc_w, sc_c, sc_r, sc_f, sc_a, sc_k, pp_in, pp_al, ↓reduceIte, Nat.reduceEqDiff, Nat.reduceLT, Nat.reduceLeDiff, Nat.reduceAdd, Nat.reduceSub, Nat.reduceMul, List.length_cons, List.length_nil, true_and, and_true, and_self, true_implies, eq_self, not_true_eq_false, not_false_eq_true, false_implies, implies_true, false_and, and_false, Bool.false_eq_true, or_true, true_or, or_false, false_or, Classical.not_not, Nat.le_refl, Nat.lt_irrefl, Bool.true_eq_false, n_lit, n_a, n_c, n_s, n_b, n_m, n_g, n_w, n_n, rk_X9_parse, hM]
      refine m_liftsAll hM (fun I4 l0 l1 l2 l3 l4 l5 l6 l7 => ?_)
      simp (disch := omega) only [sw_c, sw_n, sx, sf_4, sv_i, sv_j, sv_r, sv_q1, sv_q0, sv_1i, sv_1r, sv_2, sl_i, sl_j, sl_a, sl_v, sp_p, sp_f1, sp_f2, sc_w, sc_c, sc_r, sc_f, sc_a, sc_k, pp_in, pp_al, ↓reduceIte, Nat.reduceEqDiff, Nat.reduceLT, Nat.reduceLeDiff, Nat.reduceAdd, Nat.reduceSub, Nat.reduceMul, List.length_cons, List.length_nil, true_and, and_true, and_self, true_implies, eq_self, not_true_eq_false, not_false_eq_true, false_implies, implies_true, false_and, and_false, Bool.false_eq_true, or_true, true_or, or_false, false_or, Classical.not_not, Nat.le_refl, Nat.lt_irrefl, Bool.true_eq_false, n_lit, n_a, n_c, n_s, n_b, n_m, n_g, n_w, n_n, rk_X9_parse, hM]
      refine m_begins (D := D') hM b3 (fun i hi => (l1 i hi).trans (s3.1 i hi)) (fun i hi => (l2 i (by omega)).trans (s3.2.1 i hi)) (fun i hi => (l4 i (by omega)).trans (s3.2.2.2.1 i hi)) (fun I5 J5 n0 n1 n2 n3 n4 n5 n6 => ?_)
      simp (disch := omega) only [sw_c, sw_n, sx, sf_4, sv_i, sv_j, sv_r, sv_q1, sv_q0, sv_1i, sv_1r, sv_2, sl_i, sl_j, sl_a, sl_v, sp_p, sp_f1, sp_f2, sc_w, sc_c, sc_r, sc_f, sc_a, sc_k, pp_in, pp_al, ↓reduceIte, Nat.reduceEqDiff, Nat.reduceLT, Nat.reduceLeDiff, Nat.reduceAdd, Nat.reduceSub, Nat.reduceMul, List.length_cons, List.length_nil, true_and, and_true, and_self, true_implies, eq_self, not_true_eq_false, not_false_eq_true, false_implies, implies_true, false_and, and_false, Bool.false_eq_true, or_true, true_or, or_false, false_or, Classical.not_not, Nat.le_refl, Nat.lt_irrefl, Bool.true_eq_false, n_lit, n_a, n_c, n_s, n_b, n_m, n_g, n_w, n_n, rk_X9_parse]
      refine hP I5 J5 ⟨n6, ⟨fun i hi => ?_, fun i hi => ?_, fun i hi => ?_, ?_, fun i hi => ?_⟩, fun i hi => ?_, ?_, ?_, ⟨n2, Nat.zero_le _, fun i hi => absurd hi (Nat.not_lt_zero _)⟩, fun s hs => ⟨?_, fun G hG => by cases hG⟩⟩ (fun a ha => ⟨?_, n5 a (by omega)⟩) ?_
      · rw [n0 123 (by omega) (by omega), l1 i hi]; exact s3.1 i hi
      · have hi : i < 2 * D'.1 1 := hi
        rw [n0 125 (by omega) (by omega), l3 i (by omega)]; exact s3.2.2.1 i hi
      · have hi : i < D'.1 3 := hi
        rw [n0 127 (by omega) (by omega), l5 i (by omega)]; exact s3.2.2.2.2.1 i hi
      · rw [n0 128 (by omega) (by omega), l6]; exact c3.1
      · have hi : i < D'.2.2.2.2.2.1.length := hi
        rw [n0 129 (by omega) (by omega), l7 i (by omega)]; exact c3.2.1 i hi
      · rw [n0 130 (by omega) (by omega), l0 130 (by omega), b1.1 130 (by omega), fr2.1 130 (by omega)]; exact a3 i hi
      · rw [n1 10 (by omega), l0 121 (by omega), b1.2.2.2.2.2.2 10 (by omega), fr2.2.2.2.2.2.2.1 10 (by omega)]
      · rw [n1 17 (by omega), l0 121 (by omega)]; exact b2.2
      · have : s = 0 ∨ s = 1 := by omega
        rcases this with rfl | rfl
        · exact n3
        · exact n4
      · rw [n0 a (by omega) (by omega), l0 a (by omega), b1.1 a (by omega), fr2.1 a (by omega)]
      · rw [n1 0 (by omega), l0 121 (by omega), b1.2.2.2.2.2.2 0 (by omega), fr2.2.2.2.2.2.2.1 0 (by omega)]
  · simp only [o_parse, e1] at hP
    have q : ¬ (Int64.ofNat 0 ≤ p.toInt64 ∧ p.toInt64 ≤ Int64.ofNat (aN A)) := n_ro (lo := 0) (by omega) (by omega) (by omega)
    refine m_within ?_
    simp (disch := omega) only [sw_c, sw_n, sx, sf_4, sv_i, sv_j, sv_r, sv_q1, sv_q0, sv_1i, sv_1r, sv_2, sl_i, sl_j, sl_a, sl_v, sp_p, sp_f1, sp_f2, sc_w, sc_c, sc_r, sc_f, sc_a, sc_k, pp_in, pp_al, ↓reduceIte, Nat.reduceEqDiff, Nat.reduceLT, Nat.reduceLeDiff, Nat.reduceAdd, Nat.reduceSub, Nat.reduceMul, List.length_cons, List.length_nil, true_and, and_true, and_self, true_implies, eq_self, not_true_eq_false, not_false_eq_true, false_implies, implies_true, false_and, and_false, Bool.false_eq_true, or_true, true_or, or_false, false_or, Classical.not_not, Nat.le_refl, Nat.lt_irrefl, Bool.true_eq_false, n_lit, n_a, n_c, n_s, n_b, n_m, n_g, n_w, n_n, rk_X9_parse, q]
    refine pp_go rfl sk_X9_parse_25 ?_
    simp (disch := omega) only [sg_X9_parse_25, sw_c, sw_n, sx, sf_4, sv_i, sv_j, sv_r, sv_q1, sv_q0, sv_1i, sv_1r, sv_2, sl_i, sl_j, sl_a, sl_v, sp_p, sp_f1, sp_f2, sc_w, sc_c, sc_r, sc_f, sc_a, sc_k, pp_in, pp_al, ↓reduceIte, Nat.reduceEqDiff, Nat.reduceLT, Nat.reduceLeDiff, Nat.reduceAdd, Nat.reduceSub, Nat.reduceMul, List.length_cons, List.length_nil, true_and, and_true, and_self, true_implies, eq_self, not_true_eq_false, not_false_eq_true, false_implies, implies_true, false_and, and_false, Bool.false_eq_true, or_true, true_or, or_false, false_or, Classical.not_not, Nat.le_refl, Nat.lt_irrefl, Bool.true_eq_false, n_lit, n_a, n_c, n_s, n_b, n_m, n_g, n_w, n_n, rk_X9_parse, hM]
    refine m_thr1 hM rfl (by omega) ?_
    simp (disch := omega) only [sw_c, sw_n, sx, sf_4, sv_i, sv_j, sv_r, sv_q1, sv_q0, sv_1i, sv_1r, sv_2, sl_i, sl_j, sl_a, sl_v, sp_p, sp_f1, sp_f2, sc_w, sc_c, sc_r, sc_f, sc_a, sc_k, pp_in, pp_al, ↓reduceIte, Nat.reduceEqDiff, Nat.reduceLT, Nat.reduceLeDiff, Nat.reduceAdd, Nat.reduceSub, Nat.reduceMul, List.length_cons, List.length_nil, true_and, and_true, and_self, true_implies, eq_self, not_true_eq_false, not_false_eq_true, false_implies, implies_true, false_and, and_false, Bool.false_eq_true, or_true, true_or, or_false, false_or, Classical.not_not, Nat.le_refl, Nat.lt_irrefl, Bool.true_eq_false, n_lit, n_a, n_c, n_s, n_b, n_m, n_g, n_w, n_n, rk_X9_parse, hM]
    have z := RM_tI (x := 1) (A := A) (I := I) (J := J) ⟨a1, a2, a3, a4, a5, a6, a7⟩
    exact hP _ J z.1 z.2 rfl
end
