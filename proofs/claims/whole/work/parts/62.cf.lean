/-! THE CLASS, 15: tokens -/
set_option maxHeartbeats 2000000
set_option maxRecDepth 100000
abbrev xC (I : Nat → Nat → Int32) (b : Nat → Nat) (n : Nat) : Prop := I 94 1 = Int32.ofNat n ∧ (∀ i, i < 700 → I 65 i = sgn8 (b i)) ∧ n ≤ 700 ∧ (∀ i, b i < 256)
abbrev tC (I : Nat → Nat → Int32) (b : Nat → Nat) (n : Nat) (t : TK) : Prop := tkok b n t ∧ I 94 3 = Int32.ofNat t.1 ∧ I 94 4 = Int32.ofNat t.2.1 ∧ I 94 2 = Int32.ofNat t.2.2.1 ∧ (t.1 = 2 ∨ t.1 = 3 → I 94 5 = Int32.ofNat t.2.2.2)
abbrev fB (I I' : Nat → Nat → Int32) : Prop := (∀ a, a ≠ 94 → I' a = I a) ∧ I' 94 1 = I 94 1
theorem xC_fr {I I' : Nat → Nat → Int32} {b : Nat → Nat} {n : Nat} (h : xC I b n) (h1 : I' 94 1 = I 94 1) (h2 : I' 65 = I 65) : xC I' b n := by
  simpa only [xC, h1, h2] using h
section
variable {g : pp_G} {h : Nat} {sh : List (Nat × Nat)} {I : Nat → Nat → Int32} {J : Nat → Nat → Int64} {R : Nat → Nat → Option Nat} {w : pp_W} {P : pp_R → pp_W → Prop} {b : Nat → Nat} {n : Nat} {t : TK}
theorem c_eor {lo hi s : Nat} (hC : sC sh R) (hx : xC I b n) (hs : s ≤ n) (h4 : I 94 4 = Int32.ofNat s) (hl : lo < 128) (hh : hi < 128) (hP : P (.inl (some (.int (Int32.ofNat (rnn lo hi b n (n - s) s))))) (sh, I, J, R)) : pp_MW g (h + 1) mi_X7_endOfRun [.ref 94, .int (Int32.ofNat lo), .int (Int32.ofNat hi)] (sh, I, J, R) P := by
  refine pp_st0 [(0, .ref 94), (1, .int (Int32.ofNat lo)), (2, .int (Int32.ofNat hi))] ok_X7_endOfRun rfl (Nat.le_of_ble_eq_true rfl) rfl ?_
  have h7 := hx.2.2.1
  have L : ∀ f p, f + p = n → P (.inl (some (.int (Int32.ofNat (rnn lo hi b n f p))))) (sh, I, J, R) → pp_N g h mi_X7_endOfRun P 5 [(0, .ref 94), (1, .int (Int32.ofNat lo)), (2, .int (Int32.ofNat hi)), (3, .int (Int32.ofNat p))] [] (sh, I, J, R) := by
    intro f
    induction f with
    | zero =>
      intro p hp hP
      have q : n ≤ p := by omega
      refine pp_go rfl sk_X7_endOfRun_5 ?_
      simp (disch := omega) only [sg_X7_endOfRun_5, sw_c, sw_n, sx, sf_4, sv_i, sv_j, sv_r, sv_q1, sv_q0, sv_1i, sv_1r, sv_2, sl_i, sl_j, sl_a, sl_v, sp_p, sp_f1, sp_f2, sc_w, sc_c, sc_r, sc_f, sc_a, sc_k, pp_in, pp_al, ↓reduceIte, Nat.reduceEqDiff, Nat.reduceLT, Nat.reduceLeDiff, Nat.reduceAdd, Nat.reduceSub, Nat.reduceMul, List.length_cons, List.length_nil, true_and, and_true, and_self, true_implies, eq_self, not_true_eq_false, not_false_eq_true, false_implies, implies_true, false_and, and_false, Bool.false_eq_true, or_true, true_or, or_false, false_or, Classical.not_not, Nat.le_refl, Nat.lt_irrefl, Bool.true_eq_false, n_lit, n_a, n_c, n_s, n_b, n_m, n_g, n_w, n_n, rk_X7_endOfRun, hC, hx.1, q]
      refine pp_go rfl sk_X7_endOfRun_39 ?_
      simp (disch := omega) only [sg_X7_endOfRun_39, sw_c, sw_n, sx, sf_4, sv_i, sv_j, sv_r, sv_q1, sv_q0, sv_1i, sv_1r, sv_2, sl_i, sl_j, sl_a, sl_v, sp_p, sp_f1, sp_f2, sc_w, sc_c, sc_r, sc_f, sc_a, sc_k, pp_in, pp_al, ↓reduceIte, Nat.reduceEqDiff, Nat.reduceLT, Nat.reduceLeDiff, Nat.reduceAdd, Nat.reduceSub, Nat.reduceMul, List.length_cons, List.length_nil, true_and, and_true, and_self, true_implies, eq_self, not_true_eq_false, not_false_eq_true, false_implies, implies_true, false_and, and_false, Bool.false_eq_true, or_true, true_or, or_false, false_or, Classical.not_not, Nat.le_refl, Nat.lt_irrefl, Bool.true_eq_false, n_lit, n_a, n_c, n_s, n_b, n_m, n_g, n_w, n_n, rk_X7_endOfRun]
      exact hP
    | succ f ih =>
      intro p hp hP
      have q : ¬ n ≤ p := by omega
      have e := hx.2.1 p (by omega)
      have s1 := sgn_le (b p) lo (hx.2.2.2 p) hl
      have s2 := sgn_le (b p) hi (hx.2.2.2 p) hh
      rw [rnn] at hP
      by_cases c : p < n ∧ lo ≤ b p ∧ b p ≤ hi
      · rw [if_pos c] at hP
        have c1 : ¬ (b p < lo ∨ 128 ≤ b p) := by omega
        have c2 : ¬ (hi < b p ∧ b p < 128) := by omega
        refine pp_go rfl sk_X7_endOfRun_5 ?_
        simp (disch := omega) only [sg_X7_endOfRun_5, sw_c, sw_n, sx, sf_4, sv_i, sv_j, sv_r, sv_q1, sv_q0, sv_1i, sv_1r, sv_2, sl_i, sl_j, sl_a, sl_v, sp_p, sp_f1, sp_f2, sc_w, sc_c, sc_r, sc_f, sc_a, sc_k, pp_in, pp_al, ↓reduceIte, Nat.reduceEqDiff, Nat.reduceLT, Nat.reduceLeDiff, Nat.reduceAdd, Nat.reduceSub, Nat.reduceMul, List.length_cons, List.length_nil, true_and, and_true, and_self, true_implies, eq_self, not_true_eq_false, not_false_eq_true, false_implies, implies_true, false_and, and_false, Bool.false_eq_true, or_true, true_or, or_false, false_or, Classical.not_not, Nat.le_refl, Nat.lt_irrefl, Bool.true_eq_false, n_lit, n_a, n_c, n_s, n_b, n_m, n_g, n_w, n_n, rk_X7_endOfRun, hC, hx.1, q, e, s1.2.2.1, s2.2.2.2.1, c1, c2]
        exact ih (p + 1) (by omega) hP
      · rw [if_neg c] at hP
        refine pp_go rfl sk_X7_endOfRun_5 ?_
        simp (disch := omega) only [sg_X7_endOfRun_5, sw_c, sw_n, sx, sf_4, sv_i, sv_j, sv_r, sv_q1, sv_q0, sv_1i, sv_1r, sv_2, sl_i, sl_j, sl_a, sl_v, sp_p, sp_f1, sp_f2, sc_w, sc_c, sc_r, sc_f, sc_a, sc_k, pp_in, pp_al, ↓reduceIte, Nat.reduceEqDiff, Nat.reduceLT, Nat.reduceLeDiff, Nat.reduceAdd, Nat.reduceSub, Nat.reduceMul, List.length_cons, List.length_nil, true_and, and_true, and_self, true_implies, eq_self, not_true_eq_false, not_false_eq_true, false_implies, implies_true, false_and, and_false, Bool.false_eq_true, or_true, true_or, or_false, false_or, Classical.not_not, Nat.le_refl, Nat.lt_irrefl, Bool.true_eq_false, n_lit, n_a, n_c, n_s, n_b, n_m, n_g, n_w, n_n, rk_X7_endOfRun, hC, hx.1, q, e, s1.2.2.1, s2.2.2.2.1]
        have K : pp_N g h mi_X7_endOfRun P 39 [(0, .ref 94), (1, .int (Int32.ofNat lo)), (2, .int (Int32.ofNat hi)), (3, .int (Int32.ofNat p))] [] (sh, I, J, R) := by
          refine pp_go rfl sk_X7_endOfRun_39 ?_
          simp (disch := omega) only [sg_X7_endOfRun_39, sw_c, sw_n, sx, sf_4, sv_i, sv_j, sv_r, sv_q1, sv_q0, sv_1i, sv_1r, sv_2, sl_i, sl_j, sl_a, sl_v, sp_p, sp_f1, sp_f2, sc_w, sc_c, sc_r, sc_f, sc_a, sc_k, pp_in, pp_al, ↓reduceIte, Nat.reduceEqDiff, Nat.reduceLT, Nat.reduceLeDiff, Nat.reduceAdd, Nat.reduceSub, Nat.reduceMul, List.length_cons, List.length_nil, true_and, and_true, and_self, true_implies, eq_self, not_true_eq_false, not_false_eq_true, false_implies, implies_true, false_and, and_false, Bool.false_eq_true, or_true, true_or, or_false, false_or, Classical.not_not, Nat.le_refl, Nat.lt_irrefl, Bool.true_eq_false, n_lit, n_a, n_c, n_s, n_b, n_m, n_g, n_w, n_n, rk_X7_endOfRun]
          exact hP
        refine ⟨fun _ => K, fun z => ⟨fun _ => K, fun z2 => ?_⟩⟩
        exfalso
        omega
  refine pp_go rfl sk_X7_endOfRun_0 ?_
  simp (disch := omega) only [sg_X7_endOfRun_0, sw_c, sw_n, sx, sf_4, sv_i, sv_j, sv_r, sv_q1, sv_q0, sv_1i, sv_1r, sv_2, sl_i, sl_j, sl_a, sl_v, sp_p, sp_f1, sp_f2, sc_w, sc_c, sc_r, sc_f, sc_a, sc_k, pp_in, pp_al, ↓reduceIte, Nat.reduceEqDiff, Nat.reduceLT, Nat.reduceLeDiff, Nat.reduceAdd, Nat.reduceSub, Nat.reduceMul, List.length_cons, List.length_nil, true_and, and_true, and_self, true_implies, eq_self, not_true_eq_false, not_false_eq_true, false_implies, implies_true, false_and, and_false, Bool.false_eq_true, or_true, true_or, or_false, false_or, Classical.not_not, Nat.le_refl, Nat.lt_irrefl, Bool.true_eq_false, n_lit, n_a, n_c, n_s, n_b, n_m, n_g, n_w, n_n, rk_X7_endOfRun, hC, h4]
  exact L (n - s) s (by omega) hP
theorem c_num {s e : Nat} (hC : sC sh R) (hx : xC I b n) (hs : s ≤ e) (he : e ≤ n) (h4 : I 94 4 = Int32.ofNat s) (h2 : I 94 2 = Int32.ofNat e) (h5 : e - s ≤ 4) (hd : ∀ i, s ≤ i → i < e → 48 ≤ b i ∧ b i ≤ 57) (hP : P (.inl (some (.int (Int32.ofNat (num b s (e - s)))))) (sh, I, J, R)) : pp_MW g (h + 1) mi_X7_numberAtStart [.ref 94] (sh, I, J, R) P := by
  refine pp_st0 [(0, .ref 94)] ok_X7_numberAtStart rfl (Nat.le_of_ble_eq_true rfl) rfl ?_
  have h7 := hx.2.2.1
  have L : ∀ f k, f + k = e - s → pp_N g h mi_X7_numberAtStart P 7 [(0, .ref 94), (1, .int (Int32.ofNat (num b s k))), (2, .int (Int32.ofNat (s + k)))] [] (sh, I, J, R) := by
    intro f
    induction f with
    | zero =>
      intro k hk
      have hk : k = e - s := by omega
      subst hk
      have q : e ≤ s + (e - s) := by omega
      refine pp_go rfl sk_X7_numberAtStart_7 ?_
      simp (disch := omega) only [sg_X7_numberAtStart_7, sw_c, sw_n, sx, sf_4, sv_i, sv_j, sv_r, sv_q1, sv_q0, sv_1i, sv_1r, sv_2, sl_i, sl_j, sl_a, sl_v, sp_p, sp_f1, sp_f2, sc_w, sc_c, sc_r, sc_f, sc_a, sc_k, pp_in, pp_al, ↓reduceIte, Nat.reduceEqDiff, Nat.reduceLT, Nat.reduceLeDiff, Nat.reduceAdd, Nat.reduceSub, Nat.reduceMul, List.length_cons, List.length_nil, true_and, and_true, and_self, true_implies, eq_self, not_true_eq_false, not_false_eq_true, false_implies, implies_true, false_and, and_false, Bool.false_eq_true, or_true, true_or, or_false, false_or, Classical.not_not, Nat.le_refl, Nat.lt_irrefl, Bool.true_eq_false, n_lit, n_a, n_c, n_s, n_b, n_m, n_g, n_w, n_n, rk_X7_numberAtStart, hC, h2, q]
      refine pp_go rfl sk_X7_numberAtStart_36 ?_
      simp (disch := omega) only [sg_X7_numberAtStart_36, sw_c, sw_n, sx, sf_4, sv_i, sv_j, sv_r, sv_q1, sv_q0, sv_1i, sv_1r, sv_2, sl_i, sl_j, sl_a, sl_v, sp_p, sp_f1, sp_f2, sc_w, sc_c, sc_r, sc_f, sc_a, sc_k, pp_in, pp_al, ↓reduceIte, Nat.reduceEqDiff, Nat.reduceLT, Nat.reduceLeDiff, Nat.reduceAdd, Nat.reduceSub, Nat.reduceMul, List.length_cons, List.length_nil, true_and, and_true, and_self, true_implies, eq_self, not_true_eq_false, not_false_eq_true, false_implies, implies_true, false_and, and_false, Bool.false_eq_true, or_true, true_or, or_false, false_or, Classical.not_not, Nat.le_refl, Nat.lt_irrefl, Bool.true_eq_false, n_lit, n_a, n_c, n_s, n_b, n_m, n_g, n_w, n_n, rk_X7_numberAtStart]
      exact hP
    | succ f ih =>
      intro k hk
      have nx := ih (k + 1) (by omega)
      have q : ¬ e ≤ s + k := by omega
      have d := hd (s + k) (by omega) (by omega)
      have nl := num_9 (b := b) (s := s) (k := k) (by omega) (fun i x y => hd i x (by omega))
      have ev : I 65 (s + k) = Int32.ofNat (b (s + k)) := by
        rw [hx.2.1 _ (by omega), (sgn_tab _ (hx.2.2.2 _)).1, if_pos (by omega)]
      rw [num, Nat.mul_comm 10] at nx
      refine pp_go rfl sk_X7_numberAtStart_7 ?_
      simp (disch := omega) only [sg_X7_numberAtStart_7, sw_c, sw_n, sx, sf_4, sv_i, sv_j, sv_r, sv_q1, sv_q0, sv_1i, sv_1r, sv_2, sl_i, sl_j, sl_a, sl_v, sp_p, sp_f1, sp_f2, sc_w, sc_c, sc_r, sc_f, sc_a, sc_k, pp_in, pp_al, ↓reduceIte, Nat.reduceEqDiff, Nat.reduceLT, Nat.reduceLeDiff, Nat.reduceAdd, Nat.reduceSub, Nat.reduceMul, List.length_cons, List.length_nil, true_and, and_true, and_self, true_implies, eq_self, not_true_eq_false, not_false_eq_true, false_implies, implies_true, false_and, and_false, Bool.false_eq_true, or_true, true_or, or_false, false_or, Classical.not_not, Nat.le_refl, Nat.lt_irrefl, Bool.true_eq_false, n_lit, n_a, n_c, n_s, n_b, n_m, n_g, n_w, n_n, rk_X7_numberAtStart, hC, h2, q, ev]
      exact nx
  refine pp_go rfl sk_X7_numberAtStart_0 ?_
  simp (disch := omega) only [sg_X7_numberAtStart_0, sw_c, sw_n, sx, sf_4, sv_i, sv_j, sv_r, sv_q1, sv_q0, sv_1i, sv_1r, sv_2, sl_i, sl_j, sl_a, sl_v, sp_p, sp_f1, sp_f2, sc_w, sc_c, sc_r, sc_f, sc_a, sc_k, pp_in, pp_al, ↓reduceIte, Nat.reduceEqDiff, Nat.reduceLT, Nat.reduceLeDiff, Nat.reduceAdd, Nat.reduceSub, Nat.reduceMul, List.length_cons, List.length_nil, true_and, and_true, and_self, true_implies, eq_self, not_true_eq_false, not_false_eq_true, false_implies, implies_true, false_and, and_false, Bool.false_eq_true, or_true, true_or, or_false, false_or, Classical.not_not, Nat.le_refl, Nat.lt_irrefl, Bool.true_eq_false, n_lit, n_a, n_c, n_s, n_b, n_m, n_g, n_w, n_n, rk_X7_numberAtStart, hC, h4]
  exact L (e - s) 0 (by omega)
theorem c_nx_8 (hC : sC sh R) (hx0 : xC I b n) (r : Nat) (K : ∀ I', (∀ a, a ≠ 94 → I' a = I a) → (∀ k, k ≠ 4 → I' 94 k = I 94 k) → I' 94 4 = Int32.ofNat r → pp_N g (h + 1) mi_X7_next P 60 [(0, .ref 94)] [] (sh, I', J, R)) :
    ∀ f p I', f + p = n → skp b n f p = r → (∀ a, a ≠ 94 → I' a = I a) → (∀ k, k ≠ 4 → I' 94 k = I 94 k) → I' 94 4 = Int32.ofNat p → pp_N g (h + 1) mi_X7_next P 8 [(0, .ref 94)] [] (sh, I', J, R) := by
  have h7 := hx0.2.2.1
  intro f
  induction f with
  | zero =>
    intro p I' hp hr hf hg h4
    have q : n ≤ p := by omega
    have e1 : I' 94 1 = Int32.ofNat n := (hg 1 (by omega)).trans hx0.1
    rw [skp] at hr
    refine pp_go rfl sk_X7_next_8 ?_
    simp (disch := omega) only [sg_X7_next_8, sw_c, sw_n, sx, sf_4, sv_i, sv_j, sv_r, sv_q1, sv_q0, sv_1i, sv_1r, sv_2, sl_i, sl_j, sl_a, sl_v, sp_p, sp_f1, sp_f2, sc_w, sc_c, sc_r, sc_f, sc_a, sc_k, pp_in, pp_al, ↓reduceIte, Nat.reduceEqDiff, Nat.reduceLT, Nat.reduceLeDiff, Nat.reduceAdd, Nat.reduceSub, Nat.reduceMul, List.length_cons, List.length_nil, true_and, and_true, and_self, true_implies, eq_self, not_true_eq_false, not_false_eq_true, false_implies, implies_true, false_and, and_false, Bool.false_eq_true, or_true, true_or, or_false, false_or, Classical.not_not, Nat.le_refl, Nat.lt_irrefl, Bool.true_eq_false, n_lit, n_a, n_c, n_s, n_b, n_m, n_g, n_w, n_n, hC, e1, h4, q]
    exact K I' hf hg (hr ▸ h4)
  | succ f ih =>
    intro p I' hp hr hf hg h4
    have q : ¬ n ≤ p := by omega
    have e1 : I' 94 1 = Int32.ofNat n := (hg 1 (by omega)).trans hx0.1
    have e := hx0.2.1 p (by omega)
    rw [← hf 65 (by omega)] at e
    have s1 := (sgn_le (b p) 32 (hx0.2.2.2 p) (by omega)).2.2.2.2
    have s2 := (sgn_le (b p) 10 (hx0.2.2.2 p) (by omega)).2.2.2.2
    rw [skp] at hr
    have K47 : (b p = 32 ∨ b p = 10) → pp_N g (h + 1) mi_X7_next P 47 [(0, .ref 94)] [] (sh, I', J, R) := by
      intro c
      rw [if_pos ⟨by omega, c⟩] at hr
      refine pp_go rfl sk_X7_next_47 ?_
      simp (disch := omega) only [sg_X7_next_47, sw_c, sw_n, sx, sf_4, sv_i, sv_j, sv_r, sv_q1, sv_q0, sv_1i, sv_1r, sv_2, sl_i, sl_j, sl_a, sl_v, sp_p, sp_f1, sp_f2, sc_w, sc_c, sc_r, sc_f, sc_a, sc_k, pp_in, pp_al, ↓reduceIte, Nat.reduceEqDiff, Nat.reduceLT, Nat.reduceLeDiff, Nat.reduceAdd, Nat.reduceSub, Nat.reduceMul, List.length_cons, List.length_nil, true_and, and_true, and_self, true_implies, eq_self, not_true_eq_false, not_false_eq_true, false_implies, implies_true, false_and, and_false, Bool.false_eq_true, or_true, true_or, or_false, false_or, Classical.not_not, Nat.le_refl, Nat.lt_irrefl, Bool.true_eq_false, n_lit, n_a, n_c, n_s, n_b, n_m, n_g, n_w, n_n, hC, h4]
      refine ih (p + 1) _ (by omega) hr (fun a ha => ?_) (fun k hk => ?_) ?_
      · rw [pp_s_ne _ _ ha]; exact hf a ha
      · simp only [n_m, ↓reduceIte]; rw [if_neg hk]; exact hg k hk
      · simp only [n_m, ↓reduceIte]
    refine pp_go rfl sk_X7_next_8 ?_
    simp (disch := omega) only [sg_X7_next_8, sw_c, sw_n, sx, sf_4, sv_i, sv_j, sv_r, sv_q1, sv_q0, sv_1i, sv_1r, sv_2, sl_i, sl_j, sl_a, sl_v, sp_p, sp_f1, sp_f2, sc_w, sc_c, sc_r, sc_f, sc_a, sc_k, pp_in, pp_al, ↓reduceIte, Nat.reduceEqDiff, Nat.reduceLT, Nat.reduceLeDiff, Nat.reduceAdd, Nat.reduceSub, Nat.reduceMul, List.length_cons, List.length_nil, true_and, and_true, and_self, true_implies, eq_self, not_true_eq_false, not_false_eq_true, false_implies, implies_true, false_and, and_false, Bool.false_eq_true, or_true, true_or, or_false, false_or, Classical.not_not, Nat.le_refl, Nat.lt_irrefl, Bool.true_eq_false, n_lit, n_a, n_c, n_s, n_b, n_m, n_g, n_w, n_n, hC, e1, h4, q, e, s1, s2]
    refine ⟨fun c => K47 (Or.inl c), fun c => ⟨fun d => ?_, fun d => K47 (Or.inr d)⟩⟩
    rw [if_neg (fun z => z.2.elim c d)] at hr
    exact K I' hf hg (hr ▸ h4)
theorem c_nx_60 {s : Nat} (hC : sC sh R) (hx : xC I b n) (hs : s ≤ n) (h4 : I 94 4 = Int32.ofNat s) (hP : ∀ I', fB I I' → tC I' b n (tokA b n s) → P (.inl none) (sh, I', J, R)) : pp_N g (h + 1) mi_X7_next P 60 [(0, .ref 94)] [] (sh, I, J, R) := by
  have h7 := hx.2.2.1
  have ok : tkok b n (tokA b n s) := ⟨s, hs, rfl⟩
  by_cases c0 : n ≤ s
  · have q : ¬ s < n := by omega
    have ht : tokA b n s = (0, s, s, 0) := by rw [tokA, if_pos c0]
    rw [ht] at hP ok
    refine pp_go rfl sk_X7_next_60 ?_
    simp (disch := omega) only [sg_X7_next_60, sw_c, sw_n, sx, sf_4, sv_i, sv_j, sv_r, sv_q1, sv_q0, sv_1i, sv_1r, sv_2, sl_i, sl_j, sl_a, sl_v, sp_p, sp_f1, sp_f2, sc_w, sc_c, sc_r, sc_f, sc_a, sc_k, pp_in, pp_al, ↓reduceIte, Nat.reduceEqDiff, Nat.reduceLT, Nat.reduceLeDiff, Nat.reduceAdd, Nat.reduceSub, Nat.reduceMul, List.length_cons, List.length_nil, true_and, and_true, and_self, true_implies, eq_self, not_true_eq_false, not_false_eq_true, false_implies, implies_true, false_and, and_false, Bool.false_eq_true, or_true, true_or, or_false, false_or, Classical.not_not, Nat.le_refl, Nat.lt_irrefl, Bool.true_eq_false, n_lit, n_a, n_c, n_s, n_b, n_m, n_g, n_w, n_n, hC, h4, hx.1, q]
    refine pp_go rfl sk_X7_next_320 ?_
    simp (disch := omega) only [sg_X7_next_320, sw_c, sw_n, sx, sf_4, sv_i, sv_j, sv_r, sv_q1, sv_q0, sv_1i, sv_1r, sv_2, sl_i, sl_j, sl_a, sl_v, sp_p, sp_f1, sp_f2, sc_w, sc_c, sc_r, sc_f, sc_a, sc_k, pp_in, pp_al, ↓reduceIte, Nat.reduceEqDiff, Nat.reduceLT, Nat.reduceLeDiff, Nat.reduceAdd, Nat.reduceSub, Nat.reduceMul, List.length_cons, List.length_nil, true_and, and_true, and_self, true_implies, eq_self, not_true_eq_false, not_false_eq_true, false_implies, implies_true, false_and, and_false, Bool.false_eq_true, or_true, true_or, or_false, false_or, Classical.not_not, Nat.le_refl, Nat.lt_irrefl, Bool.true_eq_false, n_lit, n_a, n_c, n_s, n_b, n_m, n_g, n_w, n_n]
    refine hP _ ⟨fun a ha => pp_s_ne _ _ ha, ?_⟩ ⟨ok, ?_, ?_, ?_, fun z => absurd z (by show ¬ ((0 : Nat) = 2 ∨ (0 : Nat) = 3); omega)⟩ <;> simp only [n_m, ↓reduceIte, Nat.reduceEqDiff]
    exact h4
  · have q : s < n := by omega
    have e := hx.2.1 s (by omega)
    have sl := fun k (hk : k < 128) => sgn_le (b s) k (hx.2.2.2 s) hk
    have s97 := (sl 97 (by omega)).2.2.1
    have s122 := (sl 122 (by omega)).2.2.2.1
    have s48 := (sl 48 (by omega)).2.2.1
    have s57 := (sl 57 (by omega)).2.2.2.1
    have bs := hx.2.2.2 s
    refine pp_go rfl sk_X7_next_60 ?_
    simp (disch := omega) only [sg_X7_next_60, sw_c, sw_n, sx, sf_4, sv_i, sv_j, sv_r, sv_q1, sv_q0, sv_1i, sv_1r, sv_2, sl_i, sl_j, sl_a, sl_v, sp_p, sp_f1, sp_f2, sc_w, sc_c, sc_r, sc_f, sc_a, sc_k, pp_in, pp_al, ↓reduceIte, Nat.reduceEqDiff, Nat.reduceLT, Nat.reduceLeDiff, Nat.reduceAdd, Nat.reduceSub, Nat.reduceMul, List.length_cons, List.length_nil, true_and, and_true, and_self, true_implies, eq_self, not_true_eq_false, not_false_eq_true, false_implies, implies_true, false_and, and_false, Bool.false_eq_true, or_true, true_or, or_false, false_or, Classical.not_not, Nat.le_refl, Nat.lt_irrefl, Bool.true_eq_false, n_lit, n_a, n_c, n_s, n_b, n_m, n_g, n_w, n_n, hC, h4, hx.1, q]
    have e92 : ∀ (I1 : Nat → Nat → Int32), (∀ a, a ≠ 94 → I1 a = I a) → I1 94 4 = Int32.ofNat s → I1 94 1 = I 94 1 → xC I1 b n := fun I1 x y z => xC_fr hx z (x 65 (by omega))
    generalize hI1 : pp_s I 94 (va_up (I 94) 5 (Int32.ofNat 0)) = I1
    have f1 : ∀ a, a ≠ 94 → I1 a = I a := fun a ha => by rw [← hI1]; exact pp_s_ne _ _ ha
    have g1 : ∀ k, k ≠ 5 → I1 94 k = I 94 k := fun k hk => by rw [← hI1]; simp only [n_m, ↓reduceIte]; rw [if_neg hk]
    have h41 : I1 94 4 = Int32.ofNat s := (g1 4 (by omega)).trans h4
    have x1 : xC I1 b n := e92 I1 f1 h41 (g1 1 (by omega))
    have e1 : I1 65 s = sgn8 (b s) := by rw [f1 65 (by omega)]; exact e
    clear hI1
    have K243 : ¬ (97 ≤ b s ∧ b s ≤ 122) → ¬ (48 ≤ b s ∧ b s ≤ 57) → pp_N g (h + 1) mi_X7_next P 243 [(0, .ref 94)] [] (sh, I1, J, R) := by
      intro z1 z2
      have ht : tokA b n s = (if sgc (b s) then 3 else 4, s, s + 1, b s) := by rw [tokA, if_neg c0, if_neg z1, if_neg z2]
      rw [ht] at hP ok
      have k59 := (sl 59 (by omega)).2.2.2.2
      have k40 := (sl 40 (by omega)).2.2.1
      have k43 := (sl 43 (by omega)).2.1
      have k45 := (sl 45 (by omega)).2.2.2.2
      have k47 := (sl 47 (by omega)).2.2.2.2
      have KY : sgc (b s) → ∀ I2 : Nat → Nat → Int32, (∀ a, a ≠ 94 → I2 a = I1 a) → I2 94 1 = I1 94 1 → I2 94 4 = Int32.ofNat s → I2 94 2 = Int32.ofNat (s + 1) → I2 94 5 = sgn8 (b s) → pp_N g (h + 1) mi_X7_next P 312 [(0, .ref 94)] [.ref 94] (sh, I2, J, R) := by
        intro z I2 a1 a2 a3 a4 a5
        rw [if_pos z] at hP ok
        refine pp_go rfl sk_X7_next_312 ?_
        simp (disch := omega) only [sg_X7_next_312, sw_c, sw_n, sx, sf_4, sv_i, sv_j, sv_r, sv_q1, sv_q0, sv_1i, sv_1r, sv_2, sl_i, sl_j, sl_a, sl_v, sp_p, sp_f1, sp_f2, sc_w, sc_c, sc_r, sc_f, sc_a, sc_k, pp_in, pp_al, ↓reduceIte, Nat.reduceEqDiff, Nat.reduceLT, Nat.reduceLeDiff, Nat.reduceAdd, Nat.reduceSub, Nat.reduceMul, List.length_cons, List.length_nil, true_and, and_true, and_self, true_implies, eq_self, not_true_eq_false, not_false_eq_true, false_implies, implies_true, false_and, and_false, Bool.false_eq_true, or_true, true_or, or_false, false_or, Classical.not_not, Nat.le_refl, Nat.lt_irrefl, Bool.true_eq_false, n_lit, n_a, n_c, n_s, n_b, n_m, n_g, n_w, n_n]
        refine pp_go rfl sk_X7_next_317 ?_
        simp (disch := omega) only [sg_X7_next_317, sw_c, sw_n, sx, sf_4, sv_i, sv_j, sv_r, sv_q1, sv_q0, sv_1i, sv_1r, sv_2, sl_i, sl_j, sl_a, sl_v, sp_p, sp_f1, sp_f2, sc_w, sc_c, sc_r, sc_f, sc_a, sc_k, pp_in, pp_al, ↓reduceIte, Nat.reduceEqDiff, Nat.reduceLT, Nat.reduceLeDiff, Nat.reduceAdd, Nat.reduceSub, Nat.reduceMul, List.length_cons, List.length_nil, true_and, and_true, and_self, true_implies, eq_self, not_true_eq_false, not_false_eq_true, false_implies, implies_true, false_and, and_false, Bool.false_eq_true, or_true, true_or, or_false, false_or, Classical.not_not, Nat.le_refl, Nat.lt_irrefl, Bool.true_eq_false, n_lit, n_a, n_c, n_s, n_b, n_m, n_g, n_w, n_n, hC]
        refine pp_go rfl sk_X7_next_320 ?_
        simp (disch := omega) only [sg_X7_next_320, sw_c, sw_n, sx, sf_4, sv_i, sv_j, sv_r, sv_q1, sv_q0, sv_1i, sv_1r, sv_2, sl_i, sl_j, sl_a, sl_v, sp_p, sp_f1, sp_f2, sc_w, sc_c, sc_r, sc_f, sc_a, sc_k, pp_in, pp_al, ↓reduceIte, Nat.reduceEqDiff, Nat.reduceLT, Nat.reduceLeDiff, Nat.reduceAdd, Nat.reduceSub, Nat.reduceMul, List.length_cons, List.length_nil, true_and, and_true, and_self, true_implies, eq_self, not_true_eq_false, not_false_eq_true, false_implies, implies_true, false_and, and_false, Bool.false_eq_true, or_true, true_or, or_false, false_or, Classical.not_not, Nat.le_refl, Nat.lt_irrefl, Bool.true_eq_false, n_lit, n_a, n_c, n_s, n_b, n_m, n_g, n_w, n_n]
        refine hP _ ⟨fun a ha => ?_, ?_⟩ ⟨ok, ?_, ?_, ?_, fun _ => ?_⟩
        · rw [pp_s_ne _ _ ha, a1 a ha]; exact f1 a ha
        · simp only [n_m, ↓reduceIte, Nat.reduceEqDiff]; rw [a2]; exact g1 1 (by omega)
        · simp only [n_m, ↓reduceIte]
        · simp only [n_m, ↓reduceIte, Nat.reduceEqDiff]; exact a3
        · simp only [n_m, ↓reduceIte, Nat.reduceEqDiff]; exact a4
        · simp only [n_m, ↓reduceIte, Nat.reduceEqDiff]; rw [a5, (sgn_tab _ bs).1, if_pos (by omega)]
      have KN : ¬ sgc (b s) → ∀ I2 : Nat → Nat → Int32, (∀ a, a ≠ 94 → I2 a = I1 a) → I2 94 1 = I1 94 1 → I2 94 4 = Int32.ofNat s → I2 94 2 = Int32.ofNat (s + 1) → pp_N g (h + 1) mi_X7_next P 316 [(0, .ref 94)] [.ref 94] (sh, I2, J, R) := by
        intro z I2 a1 a2 a3 a4
        rw [if_neg z] at hP ok
        refine pp_go rfl sk_X7_next_316 ?_
        simp (disch := omega) only [sg_X7_next_316, sw_c, sw_n, sx, sf_4, sv_i, sv_j, sv_r, sv_q1, sv_q0, sv_1i, sv_1r, sv_2, sl_i, sl_j, sl_a, sl_v, sp_p, sp_f1, sp_f2, sc_w, sc_c, sc_r, sc_f, sc_a, sc_k, pp_in, pp_al, ↓reduceIte, Nat.reduceEqDiff, Nat.reduceLT, Nat.reduceLeDiff, Nat.reduceAdd, Nat.reduceSub, Nat.reduceMul, List.length_cons, List.length_nil, true_and, and_true, and_self, true_implies, eq_self, not_true_eq_false, not_false_eq_true, false_implies, implies_true, false_and, and_false, Bool.false_eq_true, or_true, true_or, or_false, false_or, Classical.not_not, Nat.le_refl, Nat.lt_irrefl, Bool.true_eq_false, n_lit, n_a, n_c, n_s, n_b, n_m, n_g, n_w, n_n]
        refine pp_go rfl sk_X7_next_317 ?_
        simp (disch := omega) only [sg_X7_next_317, sw_c, sw_n, sx, sf_4, sv_i, sv_j, sv_r, sv_q1, sv_q0, sv_1i, sv_1r, sv_2, sl_i, sl_j, sl_a, sl_v, sp_p, sp_f1, sp_f2, sc_w, sc_c, sc_r, sc_f, sc_a, sc_k, pp_in, pp_al, ↓reduceIte, Nat.reduceEqDiff, Nat.reduceLT, Nat.reduceLeDiff, Nat.reduceAdd, Nat.reduceSub, Nat.reduceMul, List.length_cons, List.length_nil, true_and, and_true, and_self, true_implies, eq_self, not_true_eq_false, not_false_eq_true, false_implies, implies_true, false_and, and_false, Bool.false_eq_true, or_true, true_or, or_false, false_or, Classical.not_not, Nat.le_refl, Nat.lt_irrefl, Bool.true_eq_false, n_lit, n_a, n_c, n_s, n_b, n_m, n_g, n_w, n_n, hC]
        refine pp_go rfl sk_X7_next_320 ?_
        simp (disch := omega) only [sg_X7_next_320, sw_c, sw_n, sx, sf_4, sv_i, sv_j, sv_r, sv_q1, sv_q0, sv_1i, sv_1r, sv_2, sl_i, sl_j, sl_a, sl_v, sp_p, sp_f1, sp_f2, sc_w, sc_c, sc_r, sc_f, sc_a, sc_k, pp_in, pp_al, ↓reduceIte, Nat.reduceEqDiff, Nat.reduceLT, Nat.reduceLeDiff, Nat.reduceAdd, Nat.reduceSub, Nat.reduceMul, List.length_cons, List.length_nil, true_and, and_true, and_self, true_implies, eq_self, not_true_eq_false, not_false_eq_true, false_implies, implies_true, false_and, and_false, Bool.false_eq_true, or_true, true_or, or_false, false_or, Classical.not_not, Nat.le_refl, Nat.lt_irrefl, Bool.true_eq_false, n_lit, n_a, n_c, n_s, n_b, n_m, n_g, n_w, n_n]
        refine hP _ ⟨fun a ha => ?_, ?_⟩ ⟨ok, ?_, ?_, ?_, fun y => absurd y (by show ¬ ((4 : Nat) = 2 ∨ (4 : Nat) = 3); omega)⟩
        · rw [pp_s_ne _ _ ha, a1 a ha]; exact f1 a ha
        · simp only [n_m, ↓reduceIte, Nat.reduceEqDiff]; rw [a2]; exact g1 1 (by omega)
        · simp only [n_m, ↓reduceIte]
        · simp only [n_m, ↓reduceIte, Nat.reduceEqDiff]; exact a3
        · simp only [n_m, ↓reduceIte, Nat.reduceEqDiff]; exact a4
      refine pp_go rfl sk_X7_next_243 ?_
      simp (disch := omega) only [sg_X7_next_243, sw_c, sw_n, sx, sf_4, sv_i, sv_j, sv_r, sv_q1, sv_q0, sv_1i, sv_1r, sv_2, sl_i, sl_j, sl_a, sl_v, sp_p, sp_f1, sp_f2, sc_w, sc_c, sc_r, sc_f, sc_a, sc_k, pp_in, pp_al, ↓reduceIte, Nat.reduceEqDiff, Nat.reduceLT, Nat.reduceLeDiff, Nat.reduceAdd, Nat.reduceSub, Nat.reduceMul, List.length_cons, List.length_nil, true_and, and_true, and_self, true_implies, eq_self, not_true_eq_false, not_false_eq_true, false_implies, implies_true, false_and, and_false, Bool.false_eq_true, or_true, true_or, or_false, false_or, Classical.not_not, Nat.le_refl, Nat.lt_irrefl, Bool.true_eq_false, n_lit, n_a, n_c, n_s, n_b, n_m, n_g, n_w, n_n, hC, h41, e1, k59, k40]
      have W1 : ∀ a, a ≠ 94 → pp_s I1 94 (va_up (va_up (I1 94) 2 (Int32.ofNat (s + 1))) 5 (sgn8 (b s))) a = I1 a := fun a ha => pp_s_ne _ _ ha
      have W2 : pp_s I1 94 (va_up (va_up (I1 94) 2 (Int32.ofNat (s + 1))) 5 (sgn8 (b s))) 94 1 = I1 94 1 := by simp only [n_m, ↓reduceIte, Nat.reduceEqDiff]
      have W3 : pp_s I1 94 (va_up (va_up (I1 94) 2 (Int32.ofNat (s + 1))) 5 (sgn8 (b s))) 94 4 = Int32.ofNat s := by simp only [n_m, ↓reduceIte, Nat.reduceEqDiff]; exact h41
      have W4 : pp_s I1 94 (va_up (va_up (I1 94) 2 (Int32.ofNat (s + 1))) 5 (sgn8 (b s))) 94 2 = Int32.ofNat (s + 1) := by simp only [n_m, ↓reduceIte, Nat.reduceEqDiff]
      have W5 : pp_s I1 94 (va_up (va_up (I1 94) 2 (Int32.ofNat (s + 1))) 5 (sgn8 (b s))) 94 5 = sgn8 (b s) := by simp only [n_m, ↓reduceIte, Nat.reduceEqDiff]
      have K294 : ¬ b s = 59 → ¬ (40 ≤ b s ∧ b s ≤ 43) → pp_N g (h + 1) mi_X7_next P 294 [(0, .ref 94)] [.ref 94] (sh, pp_s I1 94 (va_up (va_up (I1 94) 2 (Int32.ofNat (s + 1))) 5 (sgn8 (b s))), J, R) := by
        intro y1 y2
        refine pp_go rfl sk_X7_next_294 ?_
        simp (disch := omega) only [sg_X7_next_294, sw_c, sw_n, sx, sf_4, sv_i, sv_j, sv_r, sv_q1, sv_q0, sv_1i, sv_1r, sv_2, sl_i, sl_j, sl_a, sl_v, sp_p, sp_f1, sp_f2, sc_w, sc_c, sc_r, sc_f, sc_a, sc_k, pp_in, pp_al, ↓reduceIte, Nat.reduceEqDiff, Nat.reduceLT, Nat.reduceLeDiff, Nat.reduceAdd, Nat.reduceSub, Nat.reduceMul, List.length_cons, List.length_nil, true_and, and_true, and_self, true_implies, eq_self, not_true_eq_false, not_false_eq_true, false_implies, implies_true, false_and, and_false, Bool.false_eq_true, or_true, true_or, or_false, false_or, Classical.not_not, Nat.le_refl, Nat.lt_irrefl, Bool.true_eq_false, n_lit, n_a, n_c, n_s, n_b, n_m, n_g, n_w, n_n, hC, W5, k45, k47]
        refine ⟨fun y => KY (by omega) _ W1 W2 W3 W4 W5, fun y => ⟨fun y3 => KN (by omega) _ W1 W2 W3 W4, fun y3 => KY (by omega) _ W1 W2 W3 W4 W5⟩⟩
      refine ⟨fun y => KY (by omega) _ W1 W2 W3 W4 W5, fun y => ⟨fun y2 => K294 y (by omega), fun y2 => ?_⟩⟩
      simp (disch := omega) only [sw_c, sw_n, sx, sf_4, sv_i, sv_j, sv_r, sv_q1, sv_q0, sv_1i, sv_1r, sv_2, sl_i, sl_j, sl_a, sl_v, sp_p, sp_f1, sp_f2, sc_w, sc_c, sc_r, sc_f, sc_a, sc_k, pp_in, pp_al, ↓reduceIte, Nat.reduceEqDiff, Nat.reduceLT, Nat.reduceLeDiff, Nat.reduceAdd, Nat.reduceSub, Nat.reduceMul, List.length_cons, List.length_nil, true_and, and_true, and_self, true_implies, eq_self, not_true_eq_false, not_false_eq_true, false_implies, implies_true, false_and, and_false, Bool.false_eq_true, or_true, true_or, or_false, false_or, Classical.not_not, Nat.le_refl, Nat.lt_irrefl, Bool.true_eq_false, n_lit, n_a, n_c, n_s, n_b, n_m, n_g, n_w, n_n, hC, W5, k43]
      refine ⟨fun y3 => KY (by omega) _ W1 W2 W3 W4 W5, fun y3 => K294 y (by omega)⟩
    have K158 : ¬ (97 ≤ b s ∧ b s ≤ 122) → pp_N g (h + 1) mi_X7_next P 158 [(0, .ref 94)] [] (sh, I1, J, R) := by
      intro z1
      refine pp_go rfl sk_X7_next_158 ?_
      simp (disch := omega) only [sg_X7_next_158, sw_c, sw_n, sx, sf_4, sv_i, sv_j, sv_r, sv_q1, sv_q0, sv_1i, sv_1r, sv_2, sl_i, sl_j, sl_a, sl_v, sp_p, sp_f1, sp_f2, sc_w, sc_c, sc_r, sc_f, sc_a, sc_k, pp_in, pp_al, ↓reduceIte, Nat.reduceEqDiff, Nat.reduceLT, Nat.reduceLeDiff, Nat.reduceAdd, Nat.reduceSub, Nat.reduceMul, List.length_cons, List.length_nil, true_and, and_true, and_self, true_implies, eq_self, not_true_eq_false, not_false_eq_true, false_implies, implies_true, false_and, and_false, Bool.false_eq_true, or_true, true_or, or_false, false_or, Classical.not_not, Nat.le_refl, Nat.lt_irrefl, Bool.true_eq_false, n_lit, n_a, n_c, n_s, n_b, n_m, n_g, n_w, n_n, hC, h41, e1, s48, s57]
      refine ⟨fun y => K243 z1 (by omega), fun y => ⟨fun y2 => K243 z1 (by omega), fun y2 => ?_⟩⟩
      have dg : 48 ≤ b s ∧ b s ≤ 57 := by omega
      have rb := rnn_b (b := b) (n := n) (lo := 48) (hi := 57) (n - s) s
      have ht : tokA b n s = (if rnn 48 57 b n (n - s) s - s ≤ 4 then 2 else 4, s, rnn 48 57 b n (n - s) s, if rnn 48 57 b n (n - s) s - s ≤ 4 then num b s (rnn 48 57 b n (n - s) s - s) else 0) := by rw [tokA, if_neg c0, if_neg z1, if_pos dg]
      rw [ht] at hP ok
      refine c_eor hC x1 hs h41 (by omega) (by omega) ?_
      generalize rnn 48 57 b n (n - s) s = e at hP rb ok ⊢
      have en := rb.2.1 hs
      simp (disch := omega) only [sw_c, sw_n, sx, sf_4, sv_i, sv_j, sv_r, sv_q1, sv_q0, sv_1i, sv_1r, sv_2, sl_i, sl_j, sl_a, sl_v, sp_p, sp_f1, sp_f2, sc_w, sc_c, sc_r, sc_f, sc_a, sc_k, pp_in, pp_al, ↓reduceIte, Nat.reduceEqDiff, Nat.reduceLT, Nat.reduceLeDiff, Nat.reduceAdd, Nat.reduceSub, Nat.reduceMul, List.length_cons, List.length_nil, true_and, and_true, and_self, true_implies, eq_self, not_true_eq_false, not_false_eq_true, false_implies, implies_true, false_and, and_false, Bool.false_eq_true, or_true, true_or, or_false, false_or, Classical.not_not, Nat.le_refl, Nat.lt_irrefl, Bool.true_eq_false, n_lit, n_a, n_c, n_s, n_b, n_m, n_g, n_w, n_n, hC, h41]
      by_cases c4 : e - s ≤ 4
      · rw [if_pos c4, if_pos c4] at hP ok
        have q4 : ¬ 4 < e - s := by omega
        simp (disch := omega) only [sw_c, sw_n, sx, sf_4, sv_i, sv_j, sv_r, sv_q1, sv_q0, sv_1i, sv_1r, sv_2, sl_i, sl_j, sl_a, sl_v, sp_p, sp_f1, sp_f2, sc_w, sc_c, sc_r, sc_f, sc_a, sc_k, pp_in, pp_al, ↓reduceIte, Nat.reduceEqDiff, Nat.reduceLT, Nat.reduceLeDiff, Nat.reduceAdd, Nat.reduceSub, Nat.reduceMul, List.length_cons, List.length_nil, true_and, and_true, and_self, true_implies, eq_self, not_true_eq_false, not_false_eq_true, false_implies, implies_true, false_and, and_false, Bool.false_eq_true, or_true, true_or, or_false, false_or, Classical.not_not, Nat.le_refl, Nat.lt_irrefl, Bool.true_eq_false, n_lit, n_a, n_c, n_s, n_b, n_m, n_g, n_w, n_n, q4]
        refine pp_go rfl sk_X7_next_217 ?_
        simp (disch := omega) only [sg_X7_next_217, sw_c, sw_n, sx, sf_4, sv_i, sv_j, sv_r, sv_q1, sv_q0, sv_1i, sv_1r, sv_2, sl_i, sl_j, sl_a, sl_v, sp_p, sp_f1, sp_f2, sc_w, sc_c, sc_r, sc_f, sc_a, sc_k, pp_in, pp_al, ↓reduceIte, Nat.reduceEqDiff, Nat.reduceLT, Nat.reduceLeDiff, Nat.reduceAdd, Nat.reduceSub, Nat.reduceMul, List.length_cons, List.length_nil, true_and, and_true, and_self, true_implies, eq_self, not_true_eq_false, not_false_eq_true, false_implies, implies_true, false_and, and_false, Bool.false_eq_true, or_true, true_or, or_false, false_or, Classical.not_not, Nat.le_refl, Nat.lt_irrefl, Bool.true_eq_false, n_lit, n_a, n_c, n_s, n_b, n_m, n_g, n_w, n_n, hC]
        refine c_num (s := s) (e := e) hC ?_ rb.1 en ?_ ?_ c4 rb.2.2 ?_
        · exact xC_fr x1 (by simp only [n_m, ↓reduceIte, Nat.reduceEqDiff]) (by rw [pp_s_ne _ _ (by omega)])
        · simp only [n_m, ↓reduceIte, Nat.reduceEqDiff]; exact h41
        · simp only [n_m, ↓reduceIte, Nat.reduceEqDiff]
        · simp (disch := omega) only [sw_c, sw_n, sx, sf_4, sv_i, sv_j, sv_r, sv_q1, sv_q0, sv_1i, sv_1r, sv_2, sl_i, sl_j, sl_a, sl_v, sp_p, sp_f1, sp_f2, sc_w, sc_c, sc_r, sc_f, sc_a, sc_k, pp_in, pp_al, ↓reduceIte, Nat.reduceEqDiff, Nat.reduceLT, Nat.reduceLeDiff, Nat.reduceAdd, Nat.reduceSub, Nat.reduceMul, List.length_cons, List.length_nil, true_and, and_true, and_self, true_implies, eq_self, not_true_eq_false, not_false_eq_true, false_implies, implies_true, false_and, and_false, Bool.false_eq_true, or_true, true_or, or_false, false_or, Classical.not_not, Nat.le_refl, Nat.lt_irrefl, Bool.true_eq_false, n_lit, n_a, n_c, n_s, n_b, n_m, n_g, n_w, n_n]
          refine pp_go rfl sk_X7_next_237 ?_
          simp (disch := omega) only [sg_X7_next_237, sw_c, sw_n, sx, sf_4, sv_i, sv_j, sv_r, sv_q1, sv_q0, sv_1i, sv_1r, sv_2, sl_i, sl_j, sl_a, sl_v, sp_p, sp_f1, sp_f2, sc_w, sc_c, sc_r, sc_f, sc_a, sc_k, pp_in, pp_al, ↓reduceIte, Nat.reduceEqDiff, Nat.reduceLT, Nat.reduceLeDiff, Nat.reduceAdd, Nat.reduceSub, Nat.reduceMul, List.length_cons, List.length_nil, true_and, and_true, and_self, true_implies, eq_self, not_true_eq_false, not_false_eq_true, false_implies, implies_true, false_and, and_false, Bool.false_eq_true, or_true, true_or, or_false, false_or, Classical.not_not, Nat.le_refl, Nat.lt_irrefl, Bool.true_eq_false, n_lit, n_a, n_c, n_s, n_b, n_m, n_g, n_w, n_n, hC]
          refine pp_go rfl sk_X7_next_320 ?_
          simp (disch := omega) only [sg_X7_next_320, sw_c, sw_n, sx, sf_4, sv_i, sv_j, sv_r, sv_q1, sv_q0, sv_1i, sv_1r, sv_2, sl_i, sl_j, sl_a, sl_v, sp_p, sp_f1, sp_f2, sc_w, sc_c, sc_r, sc_f, sc_a, sc_k, pp_in, pp_al, ↓reduceIte, Nat.reduceEqDiff, Nat.reduceLT, Nat.reduceLeDiff, Nat.reduceAdd, Nat.reduceSub, Nat.reduceMul, List.length_cons, List.length_nil, true_and, and_true, and_self, true_implies, eq_self, not_true_eq_false, not_false_eq_true, false_implies, implies_true, false_and, and_false, Bool.false_eq_true, or_true, true_or, or_false, false_or, Classical.not_not, Nat.le_refl, Nat.lt_irrefl, Bool.true_eq_false, n_lit, n_a, n_c, n_s, n_b, n_m, n_g, n_w, n_n]
          refine hP _ ⟨fun a ha => ?_, ?_⟩ ⟨ok, ?_, ?_, ?_, fun _ => ?_⟩
          · rw [pp_s_ne _ _ ha]; exact f1 a ha
          · simp only [n_m, ↓reduceIte, Nat.reduceEqDiff]; exact g1 1 (by omega)
          · simp only [n_m, ↓reduceIte, Nat.reduceEqDiff]
          · simp only [n_m, ↓reduceIte, Nat.reduceEqDiff]; exact h41
          · simp only [n_m, ↓reduceIte, Nat.reduceEqDiff]
          · simp only [n_m, ↓reduceIte]
      · rw [if_neg c4, if_neg c4] at hP ok
        have q4 : 4 < e - s := by omega
        simp (disch := omega) only [sw_c, sw_n, sx, sf_4, sv_i, sv_j, sv_r, sv_q1, sv_q0, sv_1i, sv_1r, sv_2, sl_i, sl_j, sl_a, sl_v, sp_p, sp_f1, sp_f2, sc_w, sc_c, sc_r, sc_f, sc_a, sc_k, pp_in, pp_al, ↓reduceIte, Nat.reduceEqDiff, Nat.reduceLT, Nat.reduceLeDiff, Nat.reduceAdd, Nat.reduceSub, Nat.reduceMul, List.length_cons, List.length_nil, true_and, and_true, and_self, true_implies, eq_self, not_true_eq_false, not_false_eq_true, false_implies, implies_true, false_and, and_false, Bool.false_eq_true, or_true, true_or, or_false, false_or, Classical.not_not, Nat.le_refl, Nat.lt_irrefl, Bool.true_eq_false, n_lit, n_a, n_c, n_s, n_b, n_m, n_g, n_w, n_n, q4]
        refine pp_go rfl sk_X7_next_216 ?_
        simp (disch := omega) only [sg_X7_next_216, sw_c, sw_n, sx, sf_4, sv_i, sv_j, sv_r, sv_q1, sv_q0, sv_1i, sv_1r, sv_2, sl_i, sl_j, sl_a, sl_v, sp_p, sp_f1, sp_f2, sc_w, sc_c, sc_r, sc_f, sc_a, sc_k, pp_in, pp_al, ↓reduceIte, Nat.reduceEqDiff, Nat.reduceLT, Nat.reduceLeDiff, Nat.reduceAdd, Nat.reduceSub, Nat.reduceMul, List.length_cons, List.length_nil, true_and, and_true, and_self, true_implies, eq_self, not_true_eq_false, not_false_eq_true, false_implies, implies_true, false_and, and_false, Bool.false_eq_true, or_true, true_or, or_false, false_or, Classical.not_not, Nat.le_refl, Nat.lt_irrefl, Bool.true_eq_false, n_lit, n_a, n_c, n_s, n_b, n_m, n_g, n_w, n_n]
        refine pp_go rfl sk_X7_next_217 ?_
        simp (disch := omega) only [sg_X7_next_217, sw_c, sw_n, sx, sf_4, sv_i, sv_j, sv_r, sv_q1, sv_q0, sv_1i, sv_1r, sv_2, sl_i, sl_j, sl_a, sl_v, sp_p, sp_f1, sp_f2, sc_w, sc_c, sc_r, sc_f, sc_a, sc_k, pp_in, pp_al, ↓reduceIte, Nat.reduceEqDiff, Nat.reduceLT, Nat.reduceLeDiff, Nat.reduceAdd, Nat.reduceSub, Nat.reduceMul, List.length_cons, List.length_nil, true_and, and_true, and_self, true_implies, eq_self, not_true_eq_false, not_false_eq_true, false_implies, implies_true, false_and, and_false, Bool.false_eq_true, or_true, true_or, or_false, false_or, Classical.not_not, Nat.le_refl, Nat.lt_irrefl, Bool.true_eq_false, n_lit, n_a, n_c, n_s, n_b, n_m, n_g, n_w, n_n, hC]
        refine pp_go rfl sk_X7_next_236 ?_
        simp (disch := omega) only [sg_X7_next_236, sw_c, sw_n, sx, sf_4, sv_i, sv_j, sv_r, sv_q1, sv_q0, sv_1i, sv_1r, sv_2, sl_i, sl_j, sl_a, sl_v, sp_p, sp_f1, sp_f2, sc_w, sc_c, sc_r, sc_f, sc_a, sc_k, pp_in, pp_al, ↓reduceIte, Nat.reduceEqDiff, Nat.reduceLT, Nat.reduceLeDiff, Nat.reduceAdd, Nat.reduceSub, Nat.reduceMul, List.length_cons, List.length_nil, true_and, and_true, and_self, true_implies, eq_self, not_true_eq_false, not_false_eq_true, false_implies, implies_true, false_and, and_false, Bool.false_eq_true, or_true, true_or, or_false, false_or, Classical.not_not, Nat.le_refl, Nat.lt_irrefl, Bool.true_eq_false, n_lit, n_a, n_c, n_s, n_b, n_m, n_g, n_w, n_n]
        refine pp_go rfl sk_X7_next_237 ?_
        simp (disch := omega) only [sg_X7_next_237, sw_c, sw_n, sx, sf_4, sv_i, sv_j, sv_r, sv_q1, sv_q0, sv_1i, sv_1r, sv_2, sl_i, sl_j, sl_a, sl_v, sp_p, sp_f1, sp_f2, sc_w, sc_c, sc_r, sc_f, sc_a, sc_k, pp_in, pp_al, ↓reduceIte, Nat.reduceEqDiff, Nat.reduceLT, Nat.reduceLeDiff, Nat.reduceAdd, Nat.reduceSub, Nat.reduceMul, List.length_cons, List.length_nil, true_and, and_true, and_self, true_implies, eq_self, not_true_eq_false, not_false_eq_true, false_implies, implies_true, false_and, and_false, Bool.false_eq_true, or_true, true_or, or_false, false_or, Classical.not_not, Nat.le_refl, Nat.lt_irrefl, Bool.true_eq_false, n_lit, n_a, n_c, n_s, n_b, n_m, n_g, n_w, n_n, hC]
        refine pp_go rfl sk_X7_next_320 ?_
        simp (disch := omega) only [sg_X7_next_320, sw_c, sw_n, sx, sf_4, sv_i, sv_j, sv_r, sv_q1, sv_q0, sv_1i, sv_1r, sv_2, sl_i, sl_j, sl_a, sl_v, sp_p, sp_f1, sp_f2, sc_w, sc_c, sc_r, sc_f, sc_a, sc_k, pp_in, pp_al, ↓reduceIte, Nat.reduceEqDiff, Nat.reduceLT, Nat.reduceLeDiff, Nat.reduceAdd, Nat.reduceSub, Nat.reduceMul, List.length_cons, List.length_nil, true_and, and_true, and_self, true_implies, eq_self, not_true_eq_false, not_false_eq_true, false_implies, implies_true, false_and, and_false, Bool.false_eq_true, or_true, true_or, or_false, false_or, Classical.not_not, Nat.le_refl, Nat.lt_irrefl, Bool.true_eq_false, n_lit, n_a, n_c, n_s, n_b, n_m, n_g, n_w, n_n]
        refine hP _ ⟨fun a ha => ?_, ?_⟩ ⟨ok, ?_, ?_, ?_, fun y => absurd y (by show ¬ ((4 : Nat) = 2 ∨ (4 : Nat) = 3); omega)⟩
        · rw [pp_s_ne _ _ ha]; exact f1 a ha
        · simp only [n_m, ↓reduceIte, Nat.reduceEqDiff]; exact g1 1 (by omega)
        · simp only [n_m, ↓reduceIte, Nat.reduceEqDiff]
        · simp only [n_m, ↓reduceIte, Nat.reduceEqDiff]; exact h41
        · simp only [n_m, ↓reduceIte, Nat.reduceEqDiff]
    refine pp_go rfl sk_X7_next_92 ?_
    simp (disch := omega) only [sg_X7_next_92, sw_c, sw_n, sx, sf_4, sv_i, sv_j, sv_r, sv_q1, sv_q0, sv_1i, sv_1r, sv_2, sl_i, sl_j, sl_a, sl_v, sp_p, sp_f1, sp_f2, sc_w, sc_c, sc_r, sc_f, sc_a, sc_k, pp_in, pp_al, ↓reduceIte, Nat.reduceEqDiff, Nat.reduceLT, Nat.reduceLeDiff, Nat.reduceAdd, Nat.reduceSub, Nat.reduceMul, List.length_cons, List.length_nil, true_and, and_true, and_self, true_implies, eq_self, not_true_eq_false, not_false_eq_true, false_implies, implies_true, false_and, and_false, Bool.false_eq_true, or_true, true_or, or_false, false_or, Classical.not_not, Nat.le_refl, Nat.lt_irrefl, Bool.true_eq_false, n_lit, n_a, n_c, n_s, n_b, n_m, n_g, n_w, n_n, hC, h41, e1, s97, s122]
    refine ⟨fun y => K158 (by omega), fun y => ⟨fun y2 => K158 (by omega), fun y2 => ?_⟩⟩
    have wd : 97 ≤ b s ∧ b s ≤ 122 := by omega
    have rb := rnn_b (b := b) (n := n) (lo := 97) (hi := 122) (n - s) s
    have ht : tokA b n s = (if rnn 97 122 b n (n - s) s - s ≤ 8 then 1 else 4, s, rnn 97 122 b n (n - s) s, 0) := by rw [tokA, if_neg c0, if_pos wd]
    rw [ht] at hP ok
    refine c_eor hC x1 hs h41 (by omega) (by omega) ?_
    generalize rnn 97 122 b n (n - s) s = e at hP rb ok ⊢
    have en := rb.2.1 hs
    simp (disch := omega) only [sw_c, sw_n, sx, sf_4, sv_i, sv_j, sv_r, sv_q1, sv_q0, sv_1i, sv_1r, sv_2, sl_i, sl_j, sl_a, sl_v, sp_p, sp_f1, sp_f2, sc_w, sc_c, sc_r, sc_f, sc_a, sc_k, pp_in, pp_al, ↓reduceIte, Nat.reduceEqDiff, Nat.reduceLT, Nat.reduceLeDiff, Nat.reduceAdd, Nat.reduceSub, Nat.reduceMul, List.length_cons, List.length_nil, true_and, and_true, and_self, true_implies, eq_self, not_true_eq_false, not_false_eq_true, false_implies, implies_true, false_and, and_false, Bool.false_eq_true, or_true, true_or, or_false, false_or, Classical.not_not, Nat.le_refl, Nat.lt_irrefl, Bool.true_eq_false, n_lit, n_a, n_c, n_s, n_b, n_m, n_g, n_w, n_n, hC, h41]
    by_cases c4 : e - s ≤ 8
    · rw [if_pos c4] at hP ok
      have q4 : ¬ 8 < e - s := by omega
      simp (disch := omega) only [sw_c, sw_n, sx, sf_4, sv_i, sv_j, sv_r, sv_q1, sv_q0, sv_1i, sv_1r, sv_2, sl_i, sl_j, sl_a, sl_v, sp_p, sp_f1, sp_f2, sc_w, sc_c, sc_r, sc_f, sc_a, sc_k, pp_in, pp_al, ↓reduceIte, Nat.reduceEqDiff, Nat.reduceLT, Nat.reduceLeDiff, Nat.reduceAdd, Nat.reduceSub, Nat.reduceMul, List.length_cons, List.length_nil, true_and, and_true, and_self, true_implies, eq_self, not_true_eq_false, not_false_eq_true, false_implies, implies_true, false_and, and_false, Bool.false_eq_true, or_true, true_or, or_false, false_or, Classical.not_not, Nat.le_refl, Nat.lt_irrefl, Bool.true_eq_false, n_lit, n_a, n_c, n_s, n_b, n_m, n_g, n_w, n_n, q4]
      refine pp_go rfl sk_X7_next_152 ?_
      simp (disch := omega) only [sg_X7_next_152, sw_c, sw_n, sx, sf_4, sv_i, sv_j, sv_r, sv_q1, sv_q0, sv_1i, sv_1r, sv_2, sl_i, sl_j, sl_a, sl_v, sp_p, sp_f1, sp_f2, sc_w, sc_c, sc_r, sc_f, sc_a, sc_k, pp_in, pp_al, ↓reduceIte, Nat.reduceEqDiff, Nat.reduceLT, Nat.reduceLeDiff, Nat.reduceAdd, Nat.reduceSub, Nat.reduceMul, List.length_cons, List.length_nil, true_and, and_true, and_self, true_implies, eq_self, not_true_eq_false, not_false_eq_true, false_implies, implies_true, false_and, and_false, Bool.false_eq_true, or_true, true_or, or_false, false_or, Classical.not_not, Nat.le_refl, Nat.lt_irrefl, Bool.true_eq_false, n_lit, n_a, n_c, n_s, n_b, n_m, n_g, n_w, n_n, hC]
      refine pp_go rfl sk_X7_next_320 ?_
      simp (disch := omega) only [sg_X7_next_320, sw_c, sw_n, sx, sf_4, sv_i, sv_j, sv_r, sv_q1, sv_q0, sv_1i, sv_1r, sv_2, sl_i, sl_j, sl_a, sl_v, sp_p, sp_f1, sp_f2, sc_w, sc_c, sc_r, sc_f, sc_a, sc_k, pp_in, pp_al, ↓reduceIte, Nat.reduceEqDiff, Nat.reduceLT, Nat.reduceLeDiff, Nat.reduceAdd, Nat.reduceSub, Nat.reduceMul, List.length_cons, List.length_nil, true_and, and_true, and_self, true_implies, eq_self, not_true_eq_false, not_false_eq_true, false_implies, implies_true, false_and, and_false, Bool.false_eq_true, or_true, true_or, or_false, false_or, Classical.not_not, Nat.le_refl, Nat.lt_irrefl, Bool.true_eq_false, n_lit, n_a, n_c, n_s, n_b, n_m, n_g, n_w, n_n]
      refine hP _ ⟨fun a ha => ?_, ?_⟩ ⟨ok, ?_, ?_, ?_, fun y => absurd y (by show ¬ ((1 : Nat) = 2 ∨ (1 : Nat) = 3); omega)⟩
      · rw [pp_s_ne _ _ ha]; exact f1 a ha
      · simp only [n_m, ↓reduceIte, Nat.reduceEqDiff]; exact g1 1 (by omega)
      · simp only [n_m, ↓reduceIte, Nat.reduceEqDiff]
      · simp only [n_m, ↓reduceIte, Nat.reduceEqDiff]; exact h41
      · simp only [n_m, ↓reduceIte, Nat.reduceEqDiff]
    · rw [if_neg c4] at hP ok
      have q4 : 8 < e - s := by omega
      simp (disch := omega) only [sw_c, sw_n, sx, sf_4, sv_i, sv_j, sv_r, sv_q1, sv_q0, sv_1i, sv_1r, sv_2, sl_i, sl_j, sl_a, sl_v, sp_p, sp_f1, sp_f2, sc_w, sc_c, sc_r, sc_f, sc_a, sc_k, pp_in, pp_al, ↓reduceIte, Nat.reduceEqDiff, Nat.reduceLT, Nat.reduceLeDiff, Nat.reduceAdd, Nat.reduceSub, Nat.reduceMul, List.length_cons, List.length_nil, true_and, and_true, and_self, true_implies, eq_self, not_true_eq_false, not_false_eq_true, false_implies, implies_true, false_and, and_false, Bool.false_eq_true, or_true, true_or, or_false, false_or, Classical.not_not, Nat.le_refl, Nat.lt_irrefl, Bool.true_eq_false, n_lit, n_a, n_c, n_s, n_b, n_m, n_g, n_w, n_n, q4]
      refine pp_go rfl sk_X7_next_151 ?_
      simp (disch := omega) only [sg_X7_next_151, sw_c, sw_n, sx, sf_4, sv_i, sv_j, sv_r, sv_q1, sv_q0, sv_1i, sv_1r, sv_2, sl_i, sl_j, sl_a, sl_v, sp_p, sp_f1, sp_f2, sc_w, sc_c, sc_r, sc_f, sc_a, sc_k, pp_in, pp_al, ↓reduceIte, Nat.reduceEqDiff, Nat.reduceLT, Nat.reduceLeDiff, Nat.reduceAdd, Nat.reduceSub, Nat.reduceMul, List.length_cons, List.length_nil, true_and, and_true, and_self, true_implies, eq_self, not_true_eq_false, not_false_eq_true, false_implies, implies_true, false_and, and_false, Bool.false_eq_true, or_true, true_or, or_false, false_or, Classical.not_not, Nat.le_refl, Nat.lt_irrefl, Bool.true_eq_false, n_lit, n_a, n_c, n_s, n_b, n_m, n_g, n_w, n_n]
      refine pp_go rfl sk_X7_next_152 ?_
      simp (disch := omega) only [sg_X7_next_152, sw_c, sw_n, sx, sf_4, sv_i, sv_j, sv_r, sv_q1, sv_q0, sv_1i, sv_1r, sv_2, sl_i, sl_j, sl_a, sl_v, sp_p, sp_f1, sp_f2, sc_w, sc_c, sc_r, sc_f, sc_a, sc_k, pp_in, pp_al, ↓reduceIte, Nat.reduceEqDiff, Nat.reduceLT, Nat.reduceLeDiff, Nat.reduceAdd, Nat.reduceSub, Nat.reduceMul, List.length_cons, List.length_nil, true_and, and_true, and_self, true_implies, eq_self, not_true_eq_false, not_false_eq_true, false_implies, implies_true, false_and, and_false, Bool.false_eq_true, or_true, true_or, or_false, false_or, Classical.not_not, Nat.le_refl, Nat.lt_irrefl, Bool.true_eq_false, n_lit, n_a, n_c, n_s, n_b, n_m, n_g, n_w, n_n, hC]
      refine pp_go rfl sk_X7_next_320 ?_
      simp (disch := omega) only [sg_X7_next_320, sw_c, sw_n, sx, sf_4, sv_i, sv_j, sv_r, sv_q1, sv_q0, sv_1i, sv_1r, sv_2, sl_i, sl_j, sl_a, sl_v, sp_p, sp_f1, sp_f2, sc_w, sc_c, sc_r, sc_f, sc_a, sc_k, pp_in, pp_al, ↓reduceIte, Nat.reduceEqDiff, Nat.reduceLT, Nat.reduceLeDiff, Nat.reduceAdd, Nat.reduceSub, Nat.reduceMul, List.length_cons, List.length_nil, true_and, and_true, and_self, true_implies, eq_self, not_true_eq_false, not_false_eq_true, false_implies, implies_true, false_and, and_false, Bool.false_eq_true, or_true, true_or, or_false, false_or, Classical.not_not, Nat.le_refl, Nat.lt_irrefl, Bool.true_eq_false, n_lit, n_a, n_c, n_s, n_b, n_m, n_g, n_w, n_n]
      refine hP _ ⟨fun a ha => ?_, ?_⟩ ⟨ok, ?_, ?_, ?_, fun y => absurd y (by show ¬ ((4 : Nat) = 2 ∨ (4 : Nat) = 3); omega)⟩
      · rw [pp_s_ne _ _ ha]; exact f1 a ha
      · simp only [n_m, ↓reduceIte, Nat.reduceEqDiff]; exact g1 1 (by omega)
      · simp only [n_m, ↓reduceIte, Nat.reduceEqDiff]
      · simp only [n_m, ↓reduceIte, Nat.reduceEqDiff]; exact h41
      · simp only [n_m, ↓reduceIte, Nat.reduceEqDiff]
theorem c_next {p : Nat} (hC : sC sh R) (hx : xC I b n) (hp : p ≤ n) (h2 : I 94 2 = Int32.ofNat p) (hP : ∀ I', fB I I' → tC I' b n (tok b n p) → P (.inl none) (sh, I', J, R)) : pp_MW g (h + 2) mi_X7_next [.ref 94] (sh, I, J, R) P := by
  refine pp_st0 [(0, .ref 94)] ok_X7_next rfl (Nat.le_of_ble_eq_true rfl) rfl ?_
  have sk := skp_b (b := b) (n := n) (n - p) p
  refine pp_go rfl sk_X7_next_0 ?_
  simp (disch := omega) only [sg_X7_next_0, sw_c, sw_n, sx, sf_4, sv_i, sv_j, sv_r, sv_q1, sv_q0, sv_1i, sv_1r, sv_2, sl_i, sl_j, sl_a, sl_v, sp_p, sp_f1, sp_f2, sc_w, sc_c, sc_r, sc_f, sc_a, sc_k, pp_in, pp_al, ↓reduceIte, Nat.reduceEqDiff, Nat.reduceLT, Nat.reduceLeDiff, Nat.reduceAdd, Nat.reduceSub, Nat.reduceMul, List.length_cons, List.length_nil, true_and, and_true, and_self, true_implies, eq_self, not_true_eq_false, not_false_eq_true, false_implies, implies_true, false_and, and_false, Bool.false_eq_true, or_true, true_or, or_false, false_or, Classical.not_not, Nat.le_refl, Nat.lt_irrefl, Bool.true_eq_false, n_lit, n_a, n_c, n_s, n_b, n_m, n_g, n_w, n_n, hC, h2]
  refine c_nx_8 (b := b) (n := n) (I := I) hC hx (skp b n (n - p) p) (fun I' f1 g1 h4 => ?_) (n - p) p _ (by omega) rfl (fun a ha => pp_s_ne _ _ ha) (fun k hk => ?_) ?_
  · refine c_nx_60 hC (xC_fr hx (g1 1 (by omega)) (f1 65 (by omega))) (sk.2 hp) h4 (fun I2 f2 t2 => ?_)
    exact hP I2 ⟨fun a ha => (f2.1 a ha).trans (f1 a ha), f2.2.trans (g1 1 (by omega))⟩ t2
  · simp only [n_m, ↓reduceIte]; rw [if_neg hk]
  · simp only [n_m, ↓reduceIte]
end
