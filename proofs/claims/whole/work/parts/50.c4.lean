/-! THE CLASS, 4: the divider's code -/
set_option maxHeartbeats 1000000
set_option maxRecDepth 100000
theorem sm_split (W : Nat → Nat) (s : Nat) : ∀ n, sm (fun m => if bit s m then W m else 0) n + sm (fun m => if bit s m then 0 else W m) n = sm W n := by
  intro n
  induction n with
  | zero => rfl
  | succ n ih =>
    rw [sm, sm, sm, ← ih]
    by_cases c : bit s n = true
    · rw [if_pos c, if_pos c]; omega
    · rw [if_neg c, if_neg c]; omega
theorem if_lt8 {α : Type} {c : Prop} [Decidable c] {i : Nat} (hi : i < 8) (a b : α) : (if i < 8 ∧ c then a else b) = if c then a else b := by
  by_cases z : c
  · rw [if_pos ⟨hi, z⟩, if_pos z]
  · rw [if_neg (fun y => z y.2), if_neg z]
section
variable {g : pp_G} {h : Nat} {sh : List (Nat × Nat)} {I : Nat → Nat → Int32} {J : Nat → Nat → Int64} {R : Nat → Nat → Option Nat} {w : pp_W} {P : pp_R → pp_W → Prop} {G : LG} {T : TM} {n : Nat} {A : AS} {W : Nat → Nat} {O : Nat → Bool} {S : Nat → Int64} {r lim amount : Int64}
theorem c_isMajority {s : Nat} (hC : sC sh R) (hW : ∀ m, m < 8 → I 114 m = Int32.ofNat (W m)) (bW : ∀ m, W m ≤ 1000000) (hs : s < 256) (hP : P (.inl (some (bI (maj W s = true)))) (sh, I, J, R)) : pp_MW g (h + 1) mi_X1_isMajority [.ref 113, .int (Int32.ofNat s)] (sh, I, J, R) P := by
  refine pp_st0 [(0, .ref 113), (1, .int (Int32.ofNat s))] ok_X1_isMajority rfl (Nat.le_of_ble_eq_true rfl) rfl ?_
  refine pp_go rfl sk_X1_isMajority_0 ?_
  simp (disch := omega) only [sg_X1_isMajority_0, sw_c, sw_n, sx, sf_4, sv_i, sv_j, sv_r, sv_q1, sv_q0, sv_1i, sv_1r, sv_2, sl_i, sl_j, sl_a, sl_v, sp_p, sp_f1, sp_f2, sc_w, sc_c, sc_r, sc_f, sc_a, sc_k, pp_in, pp_al, ↓reduceIte, Nat.reduceEqDiff, Nat.reduceLT, Nat.reduceLeDiff, Nat.reduceAdd, Nat.reduceSub, Nat.reduceMul, List.length_cons, List.length_nil, true_and, and_true, and_self, true_implies, eq_self, not_true_eq_false, not_false_eq_true, false_implies, implies_true, false_and, and_false, Bool.false_eq_true, or_true, true_or, or_false, false_or, Classical.not_not, Nat.le_refl, Nat.lt_irrefl, Bool.true_eq_false, n_lit, n_a, n_c, n_s, n_b, n_m, n_g, n_w, n_n, rk_X1_isMajority]
  have L : ∀ f m, f + m = 8 → pp_N g h mi_X1_isMajority P 7 [(0, .ref 113), (1, .int (Int32.ofNat s)), (2, .int (Int32.ofNat (sm (fun m => if bit s m then W m else 0) m))), (3, .int (Int32.ofNat (sm (fun m => if bit s m then 0 else W m) m))), (4, .int (Int32.ofNat m))] [] (sh, I, J, R) := by
    intro f
    induction f with
    | zero =>
      intro m hm
      have hm : m = 8 := by omega
      subst hm
      have b1 := sm_le (f := fun m => if bit s m then W m else 0) (c := 1000000) (fun i => by have := bW i; split <;> omega) 8
      have b2 := sm_le (f := fun m => if bit s m then 0 else W m) (c := 1000000) (fun i => by have := bW i; split <;> omega) 8
      have e : (maj W s = true) = (sm (fun m => if bit s m then 0 else W m) 8 < sm (fun m => if bit s m then W m else 0) 8) := by
        have z0 := sm_split W s 8
        have m1 : (maj W s = true) = (sm W 8 < 2 * hvy W s) := by simp [maj]
        rw [m1]
        change sm (fun m => if bit s m then W m else 0) 8 + _ = _ at z0
        have hv : hvy W s = sm (fun m => if bit s m then W m else 0) 8 := rfl
        rw [hv]
        generalize sm (fun m => if bit s m then W m else 0) 8 = x at z0 ⊢
        generalize sm (fun m => if bit s m then 0 else W m) 8 = y at z0 ⊢
        exact propext ⟨fun z => by omega, fun z => by omega⟩
      refine pp_go rfl sk_X1_isMajority_7 ?_
      simp (disch := omega) only [sg_X1_isMajority_7, sw_c, sw_n, sx, sf_4, sv_i, sv_j, sv_r, sv_q1, sv_q0, sv_1i, sv_1r, sv_2, sl_i, sl_j, sl_a, sl_v, sp_p, sp_f1, sp_f2, sc_w, sc_c, sc_r, sc_f, sc_a, sc_k, pp_in, pp_al, ↓reduceIte, Nat.reduceEqDiff, Nat.reduceLT, Nat.reduceLeDiff, Nat.reduceAdd, Nat.reduceSub, Nat.reduceMul, List.length_cons, List.length_nil, true_and, and_true, and_self, true_implies, eq_self, not_true_eq_false, not_false_eq_true, false_implies, implies_true, false_and, and_false, Bool.false_eq_true, or_true, true_or, or_false, false_or, Classical.not_not, Nat.le_refl, Nat.lt_irrefl, Bool.true_eq_false, n_lit, n_a, n_c, n_s, n_b, n_m, n_g, n_w, n_n, rk_X1_isMajority]
      by_cases c : maj W s = true
      · rw [bI_t c] at hP
        rw [e] at c
        repeat' (first | ((with_reducible refine pp_go (pc := 52) (seg := sg_X1_isMajority_52) hh_X1_isMajority sk_X1_isMajority_52 ?_); simp (disch := omega) only [sg_X1_isMajority_52, sw_c, sw_n, sx, sf_4, sv_i, sv_j, sv_r, sv_q1, sv_q0, sv_1i, sv_1r, sv_2, sl_i, sl_j, sl_a, sl_v, sp_p, sp_f1, sp_f2, sc_w, sc_c, sc_r, sc_f, sc_a, sc_k, pp_in, pp_al, ↓reduceIte, Nat.reduceEqDiff, Nat.reduceLT, Nat.reduceLeDiff, Nat.reduceAdd, Nat.reduceSub, Nat.reduceMul, List.length_cons, List.length_nil, true_and, and_true, and_self, true_implies, eq_self, not_true_eq_false, not_false_eq_true, false_implies, implies_true, false_and, and_false, Bool.false_eq_true, or_true, true_or, or_false, false_or, Classical.not_not, Nat.le_refl, Nat.lt_irrefl, Bool.true_eq_false, n_lit, n_a, n_c, n_s, n_b, n_m, n_g, n_w, n_n, rk_X1_isMajority]) | ((with_reducible refine pp_go (pc := 61) (seg := sg_X1_isMajority_61) hh_X1_isMajority sk_X1_isMajority_61 ?_); simp (disch := omega) only [sg_X1_isMajority_61, sw_c, sw_n, sx, sf_4, sv_i, sv_j, sv_r, sv_q1, sv_q0, sv_1i, sv_1r, sv_2, sl_i, sl_j, sl_a, sl_v, sp_p, sp_f1, sp_f2, sc_w, sc_c, sc_r, sc_f, sc_a, sc_k, pp_in, pp_al, ↓reduceIte, Nat.reduceEqDiff, Nat.reduceLT, Nat.reduceLeDiff, Nat.reduceAdd, Nat.reduceSub, Nat.reduceMul, List.length_cons, List.length_nil, true_and, and_true, and_self, true_implies, eq_self, not_true_eq_false, not_false_eq_true, false_implies, implies_true, false_and, and_false, Bool.false_eq_true, or_true, true_or, or_false, false_or, Classical.not_not, Nat.le_refl, Nat.lt_irrefl, Bool.true_eq_false, n_lit, n_a, n_c, n_s, n_b, n_m, n_g, n_w, n_n, rk_X1_isMajority]) | ((with_reducible refine pp_go (pc := 62) (seg := sg_X1_isMajority_62) hh_X1_isMajority sk_X1_isMajority_62 ?_); simp (disch := omega) only [sg_X1_isMajority_62, sw_c, sw_n, sx, sf_4, sv_i, sv_j, sv_r, sv_q1, sv_q0, sv_1i, sv_1r, sv_2, sl_i, sl_j, sl_a, sl_v, sp_p, sp_f1, sp_f2, sc_w, sc_c, sc_r, sc_f, sc_a, sc_k, pp_in, pp_al, ↓reduceIte, Nat.reduceEqDiff, Nat.reduceLT, Nat.reduceLeDiff, Nat.reduceAdd, Nat.reduceSub, Nat.reduceMul, List.length_cons, List.length_nil, true_and, and_true, and_self, true_implies, eq_self, not_true_eq_false, not_false_eq_true, false_implies, implies_true, false_and, and_false, Bool.false_eq_true, or_true, true_or, or_false, false_or, Classical.not_not, Nat.le_refl, Nat.lt_irrefl, Bool.true_eq_false, n_lit, n_a, n_c, n_s, n_b, n_m, n_g, n_w, n_n, rk_X1_isMajority]) | (refine ⟨fun _ => ?_, fun _ => ?_⟩ <;> try (exfalso; omega)) | fail)
        exact hP
      · rw [bI_f c] at hP
        rw [e] at c
        repeat' (first | ((with_reducible refine pp_go (pc := 52) (seg := sg_X1_isMajority_52) hh_X1_isMajority sk_X1_isMajority_52 ?_); simp (disch := omega) only [sg_X1_isMajority_52, sw_c, sw_n, sx, sf_4, sv_i, sv_j, sv_r, sv_q1, sv_q0, sv_1i, sv_1r, sv_2, sl_i, sl_j, sl_a, sl_v, sp_p, sp_f1, sp_f2, sc_w, sc_c, sc_r, sc_f, sc_a, sc_k, pp_in, pp_al, ↓reduceIte, Nat.reduceEqDiff, Nat.reduceLT, Nat.reduceLeDiff, Nat.reduceAdd, Nat.reduceSub, Nat.reduceMul, List.length_cons, List.length_nil, true_and, and_true, and_self, true_implies, eq_self, not_true_eq_false, not_false_eq_true, false_implies, implies_true, false_and, and_false, Bool.false_eq_true, or_true, true_or, or_false, false_or, Classical.not_not, Nat.le_refl, Nat.lt_irrefl, Bool.true_eq_false, n_lit, n_a, n_c, n_s, n_b, n_m, n_g, n_w, n_n, rk_X1_isMajority]) | ((with_reducible refine pp_go (pc := 61) (seg := sg_X1_isMajority_61) hh_X1_isMajority sk_X1_isMajority_61 ?_); simp (disch := omega) only [sg_X1_isMajority_61, sw_c, sw_n, sx, sf_4, sv_i, sv_j, sv_r, sv_q1, sv_q0, sv_1i, sv_1r, sv_2, sl_i, sl_j, sl_a, sl_v, sp_p, sp_f1, sp_f2, sc_w, sc_c, sc_r, sc_f, sc_a, sc_k, pp_in, pp_al, ↓reduceIte, Nat.reduceEqDiff, Nat.reduceLT, Nat.reduceLeDiff, Nat.reduceAdd, Nat.reduceSub, Nat.reduceMul, List.length_cons, List.length_nil, true_and, and_true, and_self, true_implies, eq_self, not_true_eq_false, not_false_eq_true, false_implies, implies_true, false_and, and_false, Bool.false_eq_true, or_true, true_or, or_false, false_or, Classical.not_not, Nat.le_refl, Nat.lt_irrefl, Bool.true_eq_false, n_lit, n_a, n_c, n_s, n_b, n_m, n_g, n_w, n_n, rk_X1_isMajority]) | ((with_reducible refine pp_go (pc := 62) (seg := sg_X1_isMajority_62) hh_X1_isMajority sk_X1_isMajority_62 ?_); simp (disch := omega) only [sg_X1_isMajority_62, sw_c, sw_n, sx, sf_4, sv_i, sv_j, sv_r, sv_q1, sv_q0, sv_1i, sv_1r, sv_2, sl_i, sl_j, sl_a, sl_v, sp_p, sp_f1, sp_f2, sc_w, sc_c, sc_r, sc_f, sc_a, sc_k, pp_in, pp_al, ↓reduceIte, Nat.reduceEqDiff, Nat.reduceLT, Nat.reduceLeDiff, Nat.reduceAdd, Nat.reduceSub, Nat.reduceMul, List.length_cons, List.length_nil, true_and, and_true, and_self, true_implies, eq_self, not_true_eq_false, not_false_eq_true, false_implies, implies_true, false_and, and_false, Bool.false_eq_true, or_true, true_or, or_false, false_or, Classical.not_not, Nat.le_refl, Nat.lt_irrefl, Bool.true_eq_false, n_lit, n_a, n_c, n_s, n_b, n_m, n_g, n_w, n_n, rk_X1_isMajority]) | (refine ⟨fun _ => ?_, fun _ => ?_⟩ <;> try (exfalso; omega)) | fail)
        exact hP
    | succ f ih =>
      intro m hm
      have nx := ih (m + 1) (by omega)
      rw [sm, sm] at nx
      have q1 : ¬ 8 ≤ m := by omega
      have b2 := bW m
      have e : s >>> m &&& 1 = s / 2 ^ m % 2 := by rw [Nat.shiftRight_eq_div_pow, Nat.and_one_is_mod]
      have b : (bit s m = true) = (s / 2 ^ m % 2 = 1) := by simp [bit]
      have l2 : s / 2 ^ m % 2 < 2 := Nat.mod_lt _ (by omega)
      refine pp_go rfl sk_X1_isMajority_7 ?_
      simp (disch := omega) only [sg_X1_isMajority_7, sw_c, sw_n, sx, sf_4, sv_i, sv_j, sv_r, sv_q1, sv_q0, sv_1i, sv_1r, sv_2, sl_i, sl_j, sl_a, sl_v, sp_p, sp_f1, sp_f2, sc_w, sc_c, sc_r, sc_f, sc_a, sc_k, pp_in, pp_al, ↓reduceIte, Nat.reduceEqDiff, Nat.reduceLT, Nat.reduceLeDiff, Nat.reduceAdd, Nat.reduceSub, Nat.reduceMul, List.length_cons, List.length_nil, true_and, and_true, and_self, true_implies, eq_self, not_true_eq_false, not_false_eq_true, false_implies, implies_true, false_and, and_false, Bool.false_eq_true, or_true, true_or, or_false, false_or, Classical.not_not, Nat.le_refl, Nat.lt_irrefl, Bool.true_eq_false, n_lit, n_a, n_c, n_s, n_b, n_m, n_g, n_w, n_n, rk_X1_isMajority, hC, q1, e]
      refine ⟨fun q => ?_, fun q => ?_⟩
      · rw [if_neg (by rw [b]; omega), if_neg (by rw [b]; omega)] at nx
        refine pp_go rfl sk_X1_isMajority_36 ?_
        simp (disch := omega) only [sg_X1_isMajority_36, sw_c, sw_n, sx, sf_4, sv_i, sv_j, sv_r, sv_q1, sv_q0, sv_1i, sv_1r, sv_2, sl_i, sl_j, sl_a, sl_v, sp_p, sp_f1, sp_f2, sc_w, sc_c, sc_r, sc_f, sc_a, sc_k, pp_in, pp_al, ↓reduceIte, Nat.reduceEqDiff, Nat.reduceLT, Nat.reduceLeDiff, Nat.reduceAdd, Nat.reduceSub, Nat.reduceMul, List.length_cons, List.length_nil, true_and, and_true, and_self, true_implies, eq_self, not_true_eq_false, not_false_eq_true, false_implies, implies_true, false_and, and_false, Bool.false_eq_true, or_true, true_or, or_false, false_or, Classical.not_not, Nat.le_refl, Nat.lt_irrefl, Bool.true_eq_false, n_lit, n_a, n_c, n_s, n_b, n_m, n_g, n_w, n_n, rk_X1_isMajority, hC, hW]
        refine pp_go rfl sk_X1_isMajority_46 ?_
        simp (disch := omega) only [sg_X1_isMajority_46, sw_c, sw_n, sx, sf_4, sv_i, sv_j, sv_r, sv_q1, sv_q0, sv_1i, sv_1r, sv_2, sl_i, sl_j, sl_a, sl_v, sp_p, sp_f1, sp_f2, sc_w, sc_c, sc_r, sc_f, sc_a, sc_k, pp_in, pp_al, ↓reduceIte, Nat.reduceEqDiff, Nat.reduceLT, Nat.reduceLeDiff, Nat.reduceAdd, Nat.reduceSub, Nat.reduceMul, List.length_cons, List.length_nil, true_and, and_true, and_self, true_implies, eq_self, not_true_eq_false, not_false_eq_true, false_implies, implies_true, false_and, and_false, Bool.false_eq_true, or_true, true_or, or_false, false_or, Classical.not_not, Nat.le_refl, Nat.lt_irrefl, Bool.true_eq_false, n_lit, n_a, n_c, n_s, n_b, n_m, n_g, n_w, n_n, rk_X1_isMajority]
        exact nx
      · rw [if_pos (by rw [b]; omega), if_pos (by rw [b]; omega)] at nx
        simp (disch := omega) only [sw_c, sw_n, sx, sf_4, sv_i, sv_j, sv_r, sv_q1, sv_q0, sv_1i, sv_1r, sv_2, sl_i, sl_j, sl_a, sl_v, sp_p, sp_f1, sp_f2, sc_w, sc_c, sc_r, sc_f, sc_a, sc_k, pp_in, pp_al, ↓reduceIte, Nat.reduceEqDiff, Nat.reduceLT, Nat.reduceLeDiff, Nat.reduceAdd, Nat.reduceSub, Nat.reduceMul, List.length_cons, List.length_nil, true_and, and_true, and_self, true_implies, eq_self, not_true_eq_false, not_false_eq_true, false_implies, implies_true, false_and, and_false, Bool.false_eq_true, or_true, true_or, or_false, false_or, Classical.not_not, Nat.le_refl, Nat.lt_irrefl, Bool.true_eq_false, n_lit, n_a, n_c, n_s, n_b, n_m, n_g, n_w, n_n, rk_X1_isMajority, hC, hW]
        refine pp_go rfl sk_X1_isMajority_46 ?_
        simp (disch := omega) only [sg_X1_isMajority_46, sw_c, sw_n, sx, sf_4, sv_i, sv_j, sv_r, sv_q1, sv_q0, sv_1i, sv_1r, sv_2, sl_i, sl_j, sl_a, sl_v, sp_p, sp_f1, sp_f2, sc_w, sc_c, sc_r, sc_f, sc_a, sc_k, pp_in, pp_al, ↓reduceIte, Nat.reduceEqDiff, Nat.reduceLT, Nat.reduceLeDiff, Nat.reduceAdd, Nat.reduceSub, Nat.reduceMul, List.length_cons, List.length_nil, true_and, and_true, and_self, true_implies, eq_self, not_true_eq_false, not_false_eq_true, false_implies, implies_true, false_and, and_false, Bool.false_eq_true, or_true, true_or, or_false, false_or, Classical.not_not, Nat.le_refl, Nat.lt_irrefl, Bool.true_eq_false, n_lit, n_a, n_c, n_s, n_b, n_m, n_g, n_w, n_n, rk_X1_isMajority]
        exact nx
  exact L 8 0 rfl
theorem c_openWeight (hC : sC sh R) (hW : ∀ m, m < 8 → I 114 m = Int32.ofNat (W m)) (hO : ∀ m, m < 8 → I 116 m = bV (O m)) (bW : ∀ m, W m ≤ 1000000) (hP : P (.inl (some (.long (Int64.ofNat (opn W O))))) (sh, I, J, R)) : pp_MW g (h + 1) mi_X1_openWeight [.ref 113] (sh, I, J, R) P := by
  refine pp_st0 [(0, .ref 113)] ok_X1_openWeight rfl (Nat.le_of_ble_eq_true rfl) rfl ?_
  refine pp_go rfl sk_X1_openWeight_0 ?_
  simp (disch := omega) only [sg_X1_openWeight_0, sw_c, sw_n, sx, sf_4, sv_i, sv_j, sv_r, sv_q1, sv_q0, sv_1i, sv_1r, sv_2, sl_i, sl_j, sl_a, sl_v, sp_p, sp_f1, sp_f2, sc_w, sc_c, sc_r, sc_f, sc_a, sc_k, pp_in, pp_al, ↓reduceIte, Nat.reduceEqDiff, Nat.reduceLT, Nat.reduceLeDiff, Nat.reduceAdd, Nat.reduceSub, Nat.reduceMul, List.length_cons, List.length_nil, true_and, and_true, and_self, true_implies, eq_self, not_true_eq_false, not_false_eq_true, false_implies, implies_true, false_and, and_false, Bool.false_eq_true, or_true, true_or, or_false, false_or, Classical.not_not, Nat.le_refl, Nat.lt_irrefl, Bool.true_eq_false, n_lit, n_a, n_c, n_s, n_b, n_m, n_g, n_w, n_n]
  have L : ∀ f m, f + m = 8 → pp_N g h mi_X1_openWeight P 4 [(0, .ref 113), (1, .long (Int64.ofNat (sm (fun m => if O m then W m else 0) m))), (3, .int (Int32.ofNat m))] [] (sh, I, J, R) := by
    intro f
    induction f with
    | zero =>
      intro m hm
      have hm : m = 8 := by omega
      subst hm
      repeat' (first | ((with_reducible refine pp_go (pc := 4) (seg := sg_X1_openWeight_4) hh_X1_openWeight sk_X1_openWeight_4 ?_); simp (disch := omega) only [sg_X1_openWeight_4, sw_c, sw_n, sx, sf_4, sv_i, sv_j, sv_r, sv_q1, sv_q0, sv_1i, sv_1r, sv_2, sl_i, sl_j, sl_a, sl_v, sp_p, sp_f1, sp_f2, sc_w, sc_c, sc_r, sc_f, sc_a, sc_k, pp_in, pp_al, ↓reduceIte, Nat.reduceEqDiff, Nat.reduceLT, Nat.reduceLeDiff, Nat.reduceAdd, Nat.reduceSub, Nat.reduceMul, List.length_cons, List.length_nil, true_and, and_true, and_self, true_implies, eq_self, not_true_eq_false, not_false_eq_true, false_implies, implies_true, false_and, and_false, Bool.false_eq_true, or_true, true_or, or_false, false_or, Classical.not_not, Nat.le_refl, Nat.lt_irrefl, Bool.true_eq_false, n_lit, n_a, n_c, n_s, n_b, n_m, n_g, n_w, n_n]) | ((with_reducible refine pp_go (pc := 39) (seg := sg_X1_openWeight_39) hh_X1_openWeight sk_X1_openWeight_39 ?_); simp (disch := omega) only [sg_X1_openWeight_39, sw_c, sw_n, sx, sf_4, sv_i, sv_j, sv_r, sv_q1, sv_q0, sv_1i, sv_1r, sv_2, sl_i, sl_j, sl_a, sl_v, sp_p, sp_f1, sp_f2, sc_w, sc_c, sc_r, sc_f, sc_a, sc_k, pp_in, pp_al, ↓reduceIte, Nat.reduceEqDiff, Nat.reduceLT, Nat.reduceLeDiff, Nat.reduceAdd, Nat.reduceSub, Nat.reduceMul, List.length_cons, List.length_nil, true_and, and_true, and_self, true_implies, eq_self, not_true_eq_false, not_false_eq_true, false_implies, implies_true, false_and, and_false, Bool.false_eq_true, or_true, true_or, or_false, false_or, Classical.not_not, Nat.le_refl, Nat.lt_irrefl, Bool.true_eq_false, n_lit, n_a, n_c, n_s, n_b, n_m, n_g, n_w, n_n]) | (refine ⟨fun _ => ?_, fun _ => ?_⟩ <;> try (exfalso; omega)) | fail)
      exact hP
    | succ f ih =>
      intro m hm
      have nx := ih (m + 1) (by omega)
      rw [sm] at nx
      have q1 : ¬ 8 ≤ m := by omega
      have b2 := bW m
      cases hb : O m with
      | false =>
        rw [if_neg (by rw [hb]; exact Bool.false_ne_true)] at nx
        refine pp_go rfl sk_X1_openWeight_4 ?_
        simp (disch := omega) only [sg_X1_openWeight_4, sw_c, sw_n, sx, sf_4, sv_i, sv_j, sv_r, sv_q1, sv_q0, sv_1i, sv_1r, sv_2, sl_i, sl_j, sl_a, sl_v, sp_p, sp_f1, sp_f2, sc_w, sc_c, sc_r, sc_f, sc_a, sc_k, pp_in, pp_al, ↓reduceIte, Nat.reduceEqDiff, Nat.reduceLT, Nat.reduceLeDiff, Nat.reduceAdd, Nat.reduceSub, Nat.reduceMul, List.length_cons, List.length_nil, true_and, and_true, and_self, true_implies, eq_self, not_true_eq_false, not_false_eq_true, false_implies, implies_true, false_and, and_false, Bool.false_eq_true, or_true, true_or, or_false, false_or, Classical.not_not, Nat.le_refl, Nat.lt_irrefl, Bool.true_eq_false, n_lit, n_a, n_c, n_s, n_b, n_m, n_g, n_w, n_n, hC, q1, hO, bV_0, hb]
        repeat' (first | ((with_reducible refine pp_go (pc := 30) (seg := sg_X1_openWeight_30) hh_X1_openWeight sk_X1_openWeight_30 ?_); simp (disch := omega) only [sg_X1_openWeight_30, sw_c, sw_n, sx, sf_4, sv_i, sv_j, sv_r, sv_q1, sv_q0, sv_1i, sv_1r, sv_2, sl_i, sl_j, sl_a, sl_v, sp_p, sp_f1, sp_f2, sc_w, sc_c, sc_r, sc_f, sc_a, sc_k, pp_in, pp_al, ↓reduceIte, Nat.reduceEqDiff, Nat.reduceLT, Nat.reduceLeDiff, Nat.reduceAdd, Nat.reduceSub, Nat.reduceMul, List.length_cons, List.length_nil, true_and, and_true, and_self, true_implies, eq_self, not_true_eq_false, not_false_eq_true, false_implies, implies_true, false_and, and_false, Bool.false_eq_true, or_true, true_or, or_false, false_or, Classical.not_not, Nat.le_refl, Nat.lt_irrefl, Bool.true_eq_false, n_lit, n_a, n_c, n_s, n_b, n_m, n_g, n_w, n_n]) | ((with_reducible refine pp_go (pc := 31) (seg := sg_X1_openWeight_31) hh_X1_openWeight sk_X1_openWeight_31 ?_); simp (disch := omega) only [sg_X1_openWeight_31, sw_c, sw_n, sx, sf_4, sv_i, sv_j, sv_r, sv_q1, sv_q0, sv_1i, sv_1r, sv_2, sl_i, sl_j, sl_a, sl_v, sp_p, sp_f1, sp_f2, sc_w, sc_c, sc_r, sc_f, sc_a, sc_k, pp_in, pp_al, ↓reduceIte, Nat.reduceEqDiff, Nat.reduceLT, Nat.reduceLeDiff, Nat.reduceAdd, Nat.reduceSub, Nat.reduceMul, List.length_cons, List.length_nil, true_and, and_true, and_self, true_implies, eq_self, not_true_eq_false, not_false_eq_true, false_implies, implies_true, false_and, and_false, Bool.false_eq_true, or_true, true_or, or_false, false_or, Classical.not_not, Nat.le_refl, Nat.lt_irrefl, Bool.true_eq_false, n_lit, n_a, n_c, n_s, n_b, n_m, n_g, n_w, n_n]) | (refine ⟨fun _ => ?_, fun _ => ?_⟩ <;> try (exfalso; omega)) | fail)
        exact nx
      | true =>
        rw [if_pos hb] at nx
        refine pp_go rfl sk_X1_openWeight_4 ?_
        simp (disch := omega) only [sg_X1_openWeight_4, sw_c, sw_n, sx, sf_4, sv_i, sv_j, sv_r, sv_q1, sv_q0, sv_1i, sv_1r, sv_2, sl_i, sl_j, sl_a, sl_v, sp_p, sp_f1, sp_f2, sc_w, sc_c, sc_r, sc_f, sc_a, sc_k, pp_in, pp_al, ↓reduceIte, Nat.reduceEqDiff, Nat.reduceLT, Nat.reduceLeDiff, Nat.reduceAdd, Nat.reduceSub, Nat.reduceMul, List.length_cons, List.length_nil, true_and, and_true, and_self, true_implies, eq_self, not_true_eq_false, not_false_eq_true, false_implies, implies_true, false_and, and_false, Bool.false_eq_true, or_true, true_or, or_false, false_or, Classical.not_not, Nat.le_refl, Nat.lt_irrefl, Bool.true_eq_false, n_lit, n_a, n_c, n_s, n_b, n_m, n_g, n_w, n_n, hC, q1, hO, bV_0, hb, hW]
        repeat' (first | ((with_reducible refine pp_go (pc := 31) (seg := sg_X1_openWeight_31) hh_X1_openWeight sk_X1_openWeight_31 ?_); simp (disch := omega) only [sg_X1_openWeight_31, sw_c, sw_n, sx, sf_4, sv_i, sv_j, sv_r, sv_q1, sv_q0, sv_1i, sv_1r, sv_2, sl_i, sl_j, sl_a, sl_v, sp_p, sp_f1, sp_f2, sc_w, sc_c, sc_r, sc_f, sc_a, sc_k, pp_in, pp_al, ↓reduceIte, Nat.reduceEqDiff, Nat.reduceLT, Nat.reduceLeDiff, Nat.reduceAdd, Nat.reduceSub, Nat.reduceMul, List.length_cons, List.length_nil, true_and, and_true, and_self, true_implies, eq_self, not_true_eq_false, not_false_eq_true, false_implies, implies_true, false_and, and_false, Bool.false_eq_true, or_true, true_or, or_false, false_or, Classical.not_not, Nat.le_refl, Nat.lt_irrefl, Bool.true_eq_false, n_lit, n_a, n_c, n_s, n_b, n_m, n_g, n_w, n_n]) | (refine ⟨fun _ => ?_, fun _ => ?_⟩ <;> try (exfalso; omega)) | fail)
        exact nx
  exact L 8 0 rfl
theorem c_cA_l {b7 : Bool} (hC : sC sh R) (hW0 : ∀ m, m < 8 → I 114 m = Int32.ofNat (W m)) (bW : ∀ m, W m ≤ 1000000) (pS0 : 0 < opn W O)
    (hP : ∀ I2 J2, (∀ a, a ≠ 116 → I2 a = I a) → (∀ a, a ≠ 113 → a ≠ 115 → J2 a = J a) → J2 113 2 = lft W lim O r 8 → (∀ i, i < 8 → J2 115 i = if hitP W lim O r i then lim else S i) → (∀ i, i < 8 → I2 116 i = bV (if hitP W lim O r i then false else O i)) → P (.inl (some (.int (bV (anyh W lim O r 8))))) (sh, I2, J2, R)) :
    ∀ f m I' J', f + m = 8 → (∀ a, a ≠ 116 → I' a = I a) → (∀ a, a ≠ 113 → a ≠ 115 → J' a = J a) → J' 113 2 = lft W lim O r m → (∀ i, i < 8 → J' 115 i = if i < m ∧ hitP W lim O r i then lim else S i) → (∀ i, i < 8 → I' 116 i = bV (if i < m ∧ hitP W lim O r i then false else O i)) →
      pp_N g h mi_X1_closeAbove P 25 [(0, .ref 113), (1, .long lim), (3, .long (Int64.ofNat (opn W O))), (5, .long r), (7, .int (bV (anyh W lim O r m))), (8, .int (Int32.ofNat m))] [] (sh, I', J', R) := by
  have hl := opn_le bW O
  intro f
  induction f with
  | zero =>
    intro m I' J' hm hI hJ h2 hS hO
    have hm : m = 8 := by omega
    subst hm
    refine pp_go rfl sk_X1_closeAbove_25 ?_
    simp (disch := omega) only [sg_X1_closeAbove_25, sw_c, sw_n, sx, sf_4, sv_i, sv_j, sv_r, sv_q1, sv_q0, sv_1i, sv_1r, sv_2, sl_i, sl_j, sl_a, sl_v, sp_p, sp_f1, sp_f2, sc_w, sc_c, sc_r, sc_f, sc_a, sc_k, pp_in, pp_al, ↓reduceIte, Nat.reduceEqDiff, Nat.reduceLT, Nat.reduceLeDiff, Nat.reduceAdd, Nat.reduceSub, Nat.reduceMul, List.length_cons, List.length_nil, true_and, and_true, and_self, true_implies, eq_self, not_true_eq_false, not_false_eq_true, false_implies, implies_true, false_and, and_false, Bool.false_eq_true, or_true, true_or, or_false, false_or, Classical.not_not, Nat.le_refl, Nat.lt_irrefl, Bool.true_eq_false, n_lit, n_a, n_c, n_s, n_b, n_m, n_g, n_w, n_n, rk_X1_closeAbove]
    refine pp_go rfl sk_X1_closeAbove_95 ?_
    simp (disch := omega) only [sg_X1_closeAbove_95, sw_c, sw_n, sx, sf_4, sv_i, sv_j, sv_r, sv_q1, sv_q0, sv_1i, sv_1r, sv_2, sl_i, sl_j, sl_a, sl_v, sp_p, sp_f1, sp_f2, sc_w, sc_c, sc_r, sc_f, sc_a, sc_k, pp_in, pp_al, ↓reduceIte, Nat.reduceEqDiff, Nat.reduceLT, Nat.reduceLeDiff, Nat.reduceAdd, Nat.reduceSub, Nat.reduceMul, List.length_cons, List.length_nil, true_and, and_true, and_self, true_implies, eq_self, not_true_eq_false, not_false_eq_true, false_implies, implies_true, false_and, and_false, Bool.false_eq_true, or_true, true_or, or_false, false_or, Classical.not_not, Nat.le_refl, Nat.lt_irrefl, Bool.true_eq_false, n_lit, n_a, n_c, n_s, n_b, n_m, n_g, n_w, n_n, rk_X1_closeAbove, bV_ok]
    exact hP I' J' hI hJ h2 (fun i hi => by rw [hS i hi, if_lt8 hi]) (fun i hi => by rw [hO i hi, if_lt8 hi])
  | succ f ih =>
    intro m I' J' hm hI hJ h2 hS hO
    have q1 : ¬ 8 ≤ m := by omega
    have oM : I' 116 m = bV (O m) := by rw [hO m (by omega), if_neg (by omega)]
    have wM : I' 114 m = Int32.ofNat (W m) := by rw [hI 114 (by omega)]; exact hW0 m (by omega)
    have bm := bW m
    have z0 : ¬ opn W O = 0 := by omega
    have nx := fun I2 J2 => ih (m + 1) I2 J2 (by omega)
    simp only [lft, anyh] at nx
    by_cases hit : hitP W lim O r m
    · rw [if_pos hit, if_pos hit] at nx
      have hb : O m = true := hit.1
      have c' : ¬ r * Int64.ofNat (W m) / Int64.ofNat (opn W O) ≤ lim := Int64.not_le.mpr hit.2
      refine pp_go rfl sk_X1_closeAbove_25 ?_
      simp (disch := omega) only [sg_X1_closeAbove_25, sw_c, sw_n, sx, sf_4, sv_i, sv_j, sv_r, sv_q1, sv_q0, sv_1i, sv_1r, sv_2, sl_i, sl_j, sl_a, sl_v, sp_p, sp_f1, sp_f2, sc_w, sc_c, sc_r, sc_f, sc_a, sc_k, pp_in, pp_al, ↓reduceIte, Nat.reduceEqDiff, Nat.reduceLT, Nat.reduceLeDiff, Nat.reduceAdd, Nat.reduceSub, Nat.reduceMul, List.length_cons, List.length_nil, true_and, and_true, and_self, true_implies, eq_self, not_true_eq_false, not_false_eq_true, false_implies, implies_true, false_and, and_false, Bool.false_eq_true, or_true, true_or, or_false, false_or, Classical.not_not, Nat.le_refl, Nat.lt_irrefl, Bool.true_eq_false, n_lit, n_a, n_c, n_s, n_b, n_m, n_g, n_w, n_n, rk_X1_closeAbove, hC, q1, oM, wM, bV_0, hb, z0, c', h2]
      refine pp_go rfl sk_X1_closeAbove_89 ?_
      simp (disch := omega) only [sg_X1_closeAbove_89, sw_c, sw_n, sx, sf_4, sv_i, sv_j, sv_r, sv_q1, sv_q0, sv_1i, sv_1r, sv_2, sl_i, sl_j, sl_a, sl_v, sp_p, sp_f1, sp_f2, sc_w, sc_c, sc_r, sc_f, sc_a, sc_k, pp_in, pp_al, ↓reduceIte, Nat.reduceEqDiff, Nat.reduceLT, Nat.reduceLeDiff, Nat.reduceAdd, Nat.reduceSub, Nat.reduceMul, List.length_cons, List.length_nil, true_and, and_true, and_self, true_implies, eq_self, not_true_eq_false, not_false_eq_true, false_implies, implies_true, false_and, and_false, Bool.false_eq_true, or_true, true_or, or_false, false_or, Classical.not_not, Nat.le_refl, Nat.lt_irrefl, Bool.true_eq_false, n_lit, n_a, n_c, n_s, n_b, n_m, n_g, n_w, n_n, rk_X1_closeAbove]
      refine nx _ _ (fun a ha => ?_) (fun a a1 a2 => ?_) ?_ (fun i hi => ?_) (fun i hi => ?_)
      · rw [pp_s_ne _ _ ha]; exact hI a ha
      · simp only [n_m]; rw [if_neg a1, if_neg a2]; exact hJ a a1 a2
      · simp only [n_m, ↓reduceIte]
      · simp only [n_m, ↓reduceIte, Nat.reduceEqDiff]
        by_cases e : i = m
        · rw [if_pos e, if_pos ⟨by omega, e ▸ hit⟩]
        · rw [if_neg e, hS i hi]
          by_cases c : i < m ∧ hitP W lim O r i
          · rw [if_pos c, if_pos ⟨by omega, c.2⟩]
          · rw [if_neg c, if_neg (fun z => c ⟨by omega, z.2⟩)]
      · simp only [n_m, ↓reduceIte]
        by_cases e : i = m
        · rw [if_pos e, if_pos ⟨by omega, e ▸ hit⟩]; rfl
        · rw [if_neg e, hO i hi]
          by_cases c : i < m ∧ hitP W lim O r i
          · rw [if_pos c, if_pos ⟨by omega, c.2⟩]
          · rw [if_neg c, if_neg (fun z => c ⟨by omega, z.2⟩)]
    · rw [if_neg hit, if_neg hit] at nx
      have nn : pp_N g h mi_X1_closeAbove P 25 [(0, .ref 113), (1, .long lim), (3, .long (Int64.ofNat (opn W O))), (5, .long r), (7, .int (bV (anyh W lim O r m))), (8, .int (Int32.ofNat (m + 1)))] [] (sh, I', J', R) := by
        refine nx I' J' hI hJ h2 (fun i hi => ?_) (fun i hi => ?_)
        · rw [hS i hi]
          by_cases c : i < m ∧ hitP W lim O r i
          · rw [if_pos c, if_pos ⟨by omega, c.2⟩]
          · rw [if_neg c, if_neg (fun z => ?_)]
            by_cases e : i = m
            · exact hit (e ▸ z.2)
            · exact c ⟨by omega, z.2⟩
        · rw [hO i hi]
          by_cases c : i < m ∧ hitP W lim O r i
          · rw [if_pos c, if_pos ⟨by omega, c.2⟩]
          · rw [if_neg c, if_neg (fun z => ?_)]
            by_cases e : i = m
            · exact hit (e ▸ z.2)
            · exact c ⟨by omega, z.2⟩
      cases hb : O m with
      | false =>
        refine pp_go rfl sk_X1_closeAbove_25 ?_
        simp (disch := omega) only [sg_X1_closeAbove_25, sw_c, sw_n, sx, sf_4, sv_i, sv_j, sv_r, sv_q1, sv_q0, sv_1i, sv_1r, sv_2, sl_i, sl_j, sl_a, sl_v, sp_p, sp_f1, sp_f2, sc_w, sc_c, sc_r, sc_f, sc_a, sc_k, pp_in, pp_al, ↓reduceIte, Nat.reduceEqDiff, Nat.reduceLT, Nat.reduceLeDiff, Nat.reduceAdd, Nat.reduceSub, Nat.reduceMul, List.length_cons, List.length_nil, true_and, and_true, and_self, true_implies, eq_self, not_true_eq_false, not_false_eq_true, false_implies, implies_true, false_and, and_false, Bool.false_eq_true, or_true, true_or, or_false, false_or, Classical.not_not, Nat.le_refl, Nat.lt_irrefl, Bool.true_eq_false, n_lit, n_a, n_c, n_s, n_b, n_m, n_g, n_w, n_n, rk_X1_closeAbove, hC, q1, oM, bV_0, hb]
        refine pp_go rfl sk_X1_closeAbove_89 ?_
        simp (disch := omega) only [sg_X1_closeAbove_89, sw_c, sw_n, sx, sf_4, sv_i, sv_j, sv_r, sv_q1, sv_q0, sv_1i, sv_1r, sv_2, sl_i, sl_j, sl_a, sl_v, sp_p, sp_f1, sp_f2, sc_w, sc_c, sc_r, sc_f, sc_a, sc_k, pp_in, pp_al, ↓reduceIte, Nat.reduceEqDiff, Nat.reduceLT, Nat.reduceLeDiff, Nat.reduceAdd, Nat.reduceSub, Nat.reduceMul, List.length_cons, List.length_nil, true_and, and_true, and_self, true_implies, eq_self, not_true_eq_false, not_false_eq_true, false_implies, implies_true, false_and, and_false, Bool.false_eq_true, or_true, true_or, or_false, false_or, Classical.not_not, Nat.le_refl, Nat.lt_irrefl, Bool.true_eq_false, n_lit, n_a, n_c, n_s, n_b, n_m, n_g, n_w, n_n, rk_X1_closeAbove]
        exact nn
      | true =>
        have c' : r * Int64.ofNat (W m) / Int64.ofNat (opn W O) ≤ lim := Int64.not_lt.mp (fun z => hit ⟨hb, z⟩)
        refine pp_go rfl sk_X1_closeAbove_25 ?_
        simp (disch := omega) only [sg_X1_closeAbove_25, sw_c, sw_n, sx, sf_4, sv_i, sv_j, sv_r, sv_q1, sv_q0, sv_1i, sv_1r, sv_2, sl_i, sl_j, sl_a, sl_v, sp_p, sp_f1, sp_f2, sc_w, sc_c, sc_r, sc_f, sc_a, sc_k, pp_in, pp_al, ↓reduceIte, Nat.reduceEqDiff, Nat.reduceLT, Nat.reduceLeDiff, Nat.reduceAdd, Nat.reduceSub, Nat.reduceMul, List.length_cons, List.length_nil, true_and, and_true, and_self, true_implies, eq_self, not_true_eq_false, not_false_eq_true, false_implies, implies_true, false_and, and_false, Bool.false_eq_true, or_true, true_or, or_false, false_or, Classical.not_not, Nat.le_refl, Nat.lt_irrefl, Bool.true_eq_false, n_lit, n_a, n_c, n_s, n_b, n_m, n_g, n_w, n_n, rk_X1_closeAbove, hC, q1, oM, wM, bV_0, hb, z0, c']
        refine pp_go rfl sk_X1_closeAbove_89 ?_
        simp (disch := omega) only [sg_X1_closeAbove_89, sw_c, sw_n, sx, sf_4, sv_i, sv_j, sv_r, sv_q1, sv_q0, sv_1i, sv_1r, sv_2, sl_i, sl_j, sl_a, sl_v, sp_p, sp_f1, sp_f2, sc_w, sc_c, sc_r, sc_f, sc_a, sc_k, pp_in, pp_al, ↓reduceIte, Nat.reduceEqDiff, Nat.reduceLT, Nat.reduceLeDiff, Nat.reduceAdd, Nat.reduceSub, Nat.reduceMul, List.length_cons, List.length_nil, true_and, and_true, and_self, true_implies, eq_self, not_true_eq_false, not_false_eq_true, false_implies, implies_true, false_and, and_false, Bool.false_eq_true, or_true, true_or, or_false, false_or, Classical.not_not, Nat.le_refl, Nat.lt_irrefl, Bool.true_eq_false, n_lit, n_a, n_c, n_s, n_b, n_m, n_g, n_w, n_n, rk_X1_closeAbove]
        exact nn
theorem c_closeAbove (hC : sC sh R) (hW : ∀ m, m < 8 → I 114 m = Int32.ofNat (W m)) (bW : ∀ m, W m ≤ 1000000) (pW : ∀ m, m < 8 → O m = true → 0 < W m) (hO : ∀ m, m < 8 → I 116 m = bV (O m)) (hS : ∀ i, i < 8 → J 115 i = S i) (hr : J 113 2 = r)
    (hP : ∀ I2 J2, (∀ a, a ≠ 116 → I2 a = I a) → (∀ a, a ≠ 113 → a ≠ 115 → J2 a = J a) → J2 113 2 = lft W lim O r 8 → (∀ i, i < 8 → J2 115 i = if hitP W lim O r i then lim else S i) → (∀ i, i < 8 → I2 116 i = bV (if hitP W lim O r i then false else O i)) → P (.inl (some (.int (bV (anyh W lim O r 8))))) (sh, I2, J2, R)) : pp_MW g (h + 2) mi_X1_closeAbove [.ref 113, .long lim] (sh, I, J, R) P := by
  refine pp_st0 [(0, .ref 113), (1, .long lim)] ok_X1_closeAbove rfl (Nat.le_of_ble_eq_true rfl) rfl ?_
  have hl := opn_le bW O
  refine pp_go rfl sk_X1_closeAbove_0 ?_
  simp (disch := omega) only [sg_X1_closeAbove_0, sw_c, sw_n, sx, sf_4, sv_i, sv_j, sv_r, sv_q1, sv_q0, sv_1i, sv_1r, sv_2, sl_i, sl_j, sl_a, sl_v, sp_p, sp_f1, sp_f2, sc_w, sc_c, sc_r, sc_f, sc_a, sc_k, pp_in, pp_al, ↓reduceIte, Nat.reduceEqDiff, Nat.reduceLT, Nat.reduceLeDiff, Nat.reduceAdd, Nat.reduceSub, Nat.reduceMul, List.length_cons, List.length_nil, true_and, and_true, and_self, true_implies, eq_self, not_true_eq_false, not_false_eq_true, false_implies, implies_true, false_and, and_false, Bool.false_eq_true, or_true, true_or, or_false, false_or, Classical.not_not, Nat.le_refl, Nat.lt_irrefl, Bool.true_eq_false, n_lit, n_a, n_c, n_s, n_b, n_m, n_g, n_w, n_n, rk_X1_closeAbove, hC]
  refine c_openWeight hC hW hO bW ?_
  simp (disch := omega) only [sw_c, sw_n, sx, sf_4, sv_i, sv_j, sv_r, sv_q1, sv_q0, sv_1i, sv_1r, sv_2, sl_i, sl_j, sl_a, sl_v, sp_p, sp_f1, sp_f2, sc_w, sc_c, sc_r, sc_f, sc_a, sc_k, pp_in, pp_al, ↓reduceIte, Nat.reduceEqDiff, Nat.reduceLT, Nat.reduceLeDiff, Nat.reduceAdd, Nat.reduceSub, Nat.reduceMul, List.length_cons, List.length_nil, true_and, and_true, and_self, true_implies, eq_self, not_true_eq_false, not_false_eq_true, false_implies, implies_true, false_and, and_false, Bool.false_eq_true, or_true, true_or, or_false, false_or, Classical.not_not, Nat.le_refl, Nat.lt_irrefl, Bool.true_eq_false, n_lit, n_a, n_c, n_s, n_b, n_m, n_g, n_w, n_n, rk_X1_closeAbove, hC]
  refine ⟨fun q => ?_, fun q => ?_⟩
  · refine pp_go rfl sk_X1_closeAbove_13 ?_
    simp (disch := omega) only [sg_X1_closeAbove_13, sw_c, sw_n, sx, sf_4, sv_i, sv_j, sv_r, sv_q1, sv_q0, sv_1i, sv_1r, sv_2, sl_i, sl_j, sl_a, sl_v, sp_p, sp_f1, sp_f2, sc_w, sc_c, sc_r, sc_f, sc_a, sc_k, pp_in, pp_al, ↓reduceIte, Nat.reduceEqDiff, Nat.reduceLT, Nat.reduceLeDiff, Nat.reduceAdd, Nat.reduceSub, Nat.reduceMul, List.length_cons, List.length_nil, true_and, and_true, and_self, true_implies, eq_self, not_true_eq_false, not_false_eq_true, false_implies, implies_true, false_and, and_false, Bool.false_eq_true, or_true, true_or, or_false, false_or, Classical.not_not, Nat.le_refl, Nat.lt_irrefl, Bool.true_eq_false, n_lit, n_a, n_c, n_s, n_b, n_m, n_g, n_w, n_n, rk_X1_closeAbove, hC, hr]
    exact c_cA_l (I := I) (J := J) (S := S) (b7 := false) hC hW bW q hP 8 0 I J rfl (fun _ _ => rfl) (fun _ _ _ => rfl) hr (fun i hi => by rw [if_neg (by omega)]; exact hS i hi) (fun i hi => by rw [if_neg (by omega)]; exact hO i hi)
  · have no : ∀ m, m < 8 → O m = false := fun m hm => by
      cases hb : O m with
      | false => rfl
      | true => exact absurd (opn_pos hm hb (pW m hm hb)) q
    have nh : ∀ m, m < 8 → ¬ hitP W lim O r m := fun m hm z => by have y := z.1; rw [no m hm] at y; cases y
    have al : ∀ k, k ≤ 8 → lft W lim O r k = r ∧ anyh W lim O r k = false := by
      intro k
      induction k with
      | zero => intro _; exact ⟨rfl, rfl⟩
      | succ k ih =>
        intro hk
        rw [lft, anyh, if_neg (nh k (by omega)), if_neg (nh k (by omega))]
        exact ih (by omega)
    have a8 := al 8 (by omega)
    rw [a8.1, a8.2] at hP
    exact hP I J (fun _ _ => rfl) (fun _ _ _ => rfl) hr (fun i hi => by rw [if_neg (nh i hi)]; exact hS i hi) (fun i hi => by rw [if_neg (nh i hi)]; exact hO i hi)
theorem c_gQ_l (hC : sC sh R) (hW : ∀ m, m < 8 → I 114 m = Int32.ofNat (W m)) (bW : ∀ m, W m ≤ 1000000) (hO : ∀ m, m < 8 → I 116 m = bV (O m)) (p0 : 0 < opn W O)
    (hP : ∀ J2, (∀ a, a ≠ 113 → a ≠ 115 → a ≠ 117 → J2 a = J a) → J2 113 2 = lfq W O (opn W O) r 8 → (∀ i, i < 8 → J2 115 i = if O i then quo W (opn W O) r i else S i) → (∀ i, i < 8 → O i = true → J2 117 i = rmd W (opn W O) r i) → P (.inl none) (sh, I, J2, R)) :
    ∀ f m J' L, (∀ q ∈ [(0, Value.ref 113), (1, .long (Int64.ofNat (opn W O))), (3, .long r), (5, .int (Int32.ofNat m))], q ∈ L) → f + m = 8 → (∀ a, a ≠ 113 → a ≠ 115 → a ≠ 117 → J' a = J a) → J' 113 2 = lfq W O (opn W O) r m → (∀ i, i < 8 → J' 115 i = if i < m ∧ O i = true then quo W (opn W O) r i else S i) → (∀ i, i < m → O i = true → J' 117 i = rmd W (opn W O) r i) →
      pp_N g h mi_X1_giveQuotas P 20 L [] (sh, I, J', R) := by
  have hl := opn_le bW O
  intro f
  induction f with
  | zero =>
    intro m J' L hL hm hJ h2 hS hR
    have hm : m = 8 := by omega
    subst hm
    refine pp_N.sub ?_ hL
    refine pp_go rfl sk_X1_giveQuotas_20 ?_
    simp (disch := omega) only [sg_X1_giveQuotas_20, sw_c, sw_n, sx, sf_4, sv_i, sv_j, sv_r, sv_q1, sv_q0, sv_1i, sv_1r, sv_2, sl_i, sl_j, sl_a, sl_v, sp_p, sp_f1, sp_f2, sc_w, sc_c, sc_r, sc_f, sc_a, sc_k, pp_in, pp_al, ↓reduceIte, Nat.reduceEqDiff, Nat.reduceLT, Nat.reduceLeDiff, Nat.reduceAdd, Nat.reduceSub, Nat.reduceMul, List.length_cons, List.length_nil, true_and, and_true, and_self, true_implies, eq_self, not_true_eq_false, not_false_eq_true, false_implies, implies_true, false_and, and_false, Bool.false_eq_true, or_true, true_or, or_false, false_or, Classical.not_not, Nat.le_refl, Nat.lt_irrefl, Bool.true_eq_false, n_lit, n_a, n_c, n_s, n_b, n_m, n_g, n_w, n_n]
    refine pp_go rfl sk_X1_giveQuotas_93 ?_
    simp (disch := omega) only [sg_X1_giveQuotas_93, sw_c, sw_n, sx, sf_4, sv_i, sv_j, sv_r, sv_q1, sv_q0, sv_1i, sv_1r, sv_2, sl_i, sl_j, sl_a, sl_v, sp_p, sp_f1, sp_f2, sc_w, sc_c, sc_r, sc_f, sc_a, sc_k, pp_in, pp_al, ↓reduceIte, Nat.reduceEqDiff, Nat.reduceLT, Nat.reduceLeDiff, Nat.reduceAdd, Nat.reduceSub, Nat.reduceMul, List.length_cons, List.length_nil, true_and, and_true, and_self, true_implies, eq_self, not_true_eq_false, not_false_eq_true, false_implies, implies_true, false_and, and_false, Bool.false_eq_true, or_true, true_or, or_false, false_or, Classical.not_not, Nat.le_refl, Nat.lt_irrefl, Bool.true_eq_false, n_lit, n_a, n_c, n_s, n_b, n_m, n_g, n_w, n_n]
    refine hP J' hJ h2 (fun i hi => ?_) hR
    rw [hS i hi]
    by_cases c : O i = true
    · rw [if_pos ⟨hi, c⟩, if_pos c]
    · rw [if_neg (fun z => c z.2), if_neg c]
  | succ f ih =>
    intro m J' L hL hm hJ h2 hS hR
    refine pp_N.sub ?_ hL
    have q1 : ¬ 8 ≤ m := by omega
    have bm := bW m
    have z0 : ¬ opn W O = 0 := by omega
    cases hb : O m with
    | false =>
      refine pp_go rfl sk_X1_giveQuotas_20 ?_
      simp (disch := omega) only [sg_X1_giveQuotas_20, sw_c, sw_n, sx, sf_4, sv_i, sv_j, sv_r, sv_q1, sv_q0, sv_1i, sv_1r, sv_2, sl_i, sl_j, sl_a, sl_v, sp_p, sp_f1, sp_f2, sc_w, sc_c, sc_r, sc_f, sc_a, sc_k, pp_in, pp_al, ↓reduceIte, Nat.reduceEqDiff, Nat.reduceLT, Nat.reduceLeDiff, Nat.reduceAdd, Nat.reduceSub, Nat.reduceMul, List.length_cons, List.length_nil, true_and, and_true, and_self, true_implies, eq_self, not_true_eq_false, not_false_eq_true, false_implies, implies_true, false_and, and_false, Bool.false_eq_true, or_true, true_or, or_false, false_or, Classical.not_not, Nat.le_refl, Nat.lt_irrefl, Bool.true_eq_false, n_lit, n_a, n_c, n_s, n_b, n_m, n_g, n_w, n_n, hC, q1, hO, bV_0, hb]
      refine pp_go rfl sk_X1_giveQuotas_87 ?_
      simp (disch := omega) only [sg_X1_giveQuotas_87, sw_c, sw_n, sx, sf_4, sv_i, sv_j, sv_r, sv_q1, sv_q0, sv_1i, sv_1r, sv_2, sl_i, sl_j, sl_a, sl_v, sp_p, sp_f1, sp_f2, sc_w, sc_c, sc_r, sc_f, sc_a, sc_k, pp_in, pp_al, ↓reduceIte, Nat.reduceEqDiff, Nat.reduceLT, Nat.reduceLeDiff, Nat.reduceAdd, Nat.reduceSub, Nat.reduceMul, List.length_cons, List.length_nil, true_and, and_true, and_self, true_implies, eq_self, not_true_eq_false, not_false_eq_true, false_implies, implies_true, false_and, and_false, Bool.false_eq_true, or_true, true_or, or_false, false_or, Classical.not_not, Nat.le_refl, Nat.lt_irrefl, Bool.true_eq_false, n_lit, n_a, n_c, n_s, n_b, n_m, n_g, n_w, n_n]
      refine ih (m + 1) J' _ (by simp) (by omega) hJ ?_ (fun i hi => ?_) (fun i hi ho => ?_)
      · rw [lfq, if_neg (by rw [hb]; exact Bool.false_ne_true)]; exact h2
      · rw [hS i hi]
        by_cases c : i < m ∧ O i = true
        · rw [if_pos c, if_pos ⟨by omega, c.2⟩]
        · rw [if_neg c, if_neg (fun z => ?_)]
          by_cases e : i = m
          · subst e; rw [hb] at z; cases z.2
          · exact c ⟨by omega, z.2⟩
      · by_cases e : i = m
        · subst e; rw [hb] at ho; cases ho
        · exact hR i (by omega) ho
    | true =>
      refine pp_go rfl sk_X1_giveQuotas_20 ?_
      simp (disch := omega) only [sg_X1_giveQuotas_20, sw_c, sw_n, sx, sf_4, sv_i, sv_j, sv_r, sv_q1, sv_q0, sv_1i, sv_1r, sv_2, sl_i, sl_j, sl_a, sl_v, sp_p, sp_f1, sp_f2, sc_w, sc_c, sc_r, sc_f, sc_a, sc_k, pp_in, pp_al, ↓reduceIte, Nat.reduceEqDiff, Nat.reduceLT, Nat.reduceLeDiff, Nat.reduceAdd, Nat.reduceSub, Nat.reduceMul, List.length_cons, List.length_nil, true_and, and_true, and_self, true_implies, eq_self, not_true_eq_false, not_false_eq_true, false_implies, implies_true, false_and, and_false, Bool.false_eq_true, or_true, true_or, or_false, false_or, Classical.not_not, Nat.le_refl, Nat.lt_irrefl, Bool.true_eq_false, n_lit, n_a, n_c, n_s, n_b, n_m, n_g, n_w, n_n, hC, q1, hO, bV_0, hb, hW, z0, h2]
      refine pp_go rfl sk_X1_giveQuotas_87 ?_
      simp (disch := omega) only [sg_X1_giveQuotas_87, sw_c, sw_n, sx, sf_4, sv_i, sv_j, sv_r, sv_q1, sv_q0, sv_1i, sv_1r, sv_2, sl_i, sl_j, sl_a, sl_v, sp_p, sp_f1, sp_f2, sc_w, sc_c, sc_r, sc_f, sc_a, sc_k, pp_in, pp_al, ↓reduceIte, Nat.reduceEqDiff, Nat.reduceLT, Nat.reduceLeDiff, Nat.reduceAdd, Nat.reduceSub, Nat.reduceMul, List.length_cons, List.length_nil, true_and, and_true, and_self, true_implies, eq_self, not_true_eq_false, not_false_eq_true, false_implies, implies_true, false_and, and_false, Bool.false_eq_true, or_true, true_or, or_false, false_or, Classical.not_not, Nat.le_refl, Nat.lt_irrefl, Bool.true_eq_false, n_lit, n_a, n_c, n_s, n_b, n_m, n_g, n_w, n_n]
      refine ih (m + 1) _ _ (by simp) (by omega) (fun a a1 a2 a3 => ?_) ?_ (fun i hi => ?_) (fun i hi ho => ?_)
      · simp only [n_m]; rw [if_neg a1, if_neg a3, if_neg a2]; exact hJ a a1 a2 a3
      · rw [lfq, if_pos hb]; simp only [n_m, ↓reduceIte]; rfl
      · simp only [n_m, ↓reduceIte, Nat.reduceEqDiff]
        by_cases e : i = m
        · rw [if_pos e, if_pos ⟨by omega, e ▸ hb⟩, e]; rfl
        · rw [if_neg e, hS i hi]
          by_cases c : i < m ∧ O i = true
          · rw [if_pos c, if_pos ⟨by omega, c.2⟩]
          · rw [if_neg c, if_neg (fun z => c ⟨by omega, z.2⟩)]
      · simp only [n_m, ↓reduceIte, Nat.reduceEqDiff]
        by_cases e : i = m
        · rw [if_pos e, e]; rfl
        · rw [if_neg e]; exact hR i (by omega) ho
theorem c_giveQuotas (hC : sC sh R) (hW : ∀ m, m < 8 → I 114 m = Int32.ofNat (W m)) (bW : ∀ m, W m ≤ 1000000) (pW : ∀ m, m < 8 → O m = true → 0 < W m) (hO : ∀ m, m < 8 → I 116 m = bV (O m)) (hS : ∀ i, i < 8 → J 115 i = S i) (hr : J 113 2 = r)
    (hP : ∀ J2, (∀ a, a ≠ 113 → a ≠ 115 → a ≠ 117 → J2 a = J a) → J2 113 2 = lfq W O (opn W O) r 8 → (∀ i, i < 8 → J2 115 i = if O i then quo W (opn W O) r i else S i) → (∀ i, i < 8 → O i = true → J2 117 i = rmd W (opn W O) r i) → P (.inl none) (sh, I, J2, R)) : pp_MW g (h + 2) mi_X1_giveQuotas [.ref 113] (sh, I, J, R) P := by
  refine pp_st0 [(0, .ref 113)] ok_X1_giveQuotas rfl (Nat.le_of_ble_eq_true rfl) rfl ?_
  have hl := opn_le bW O
  refine pp_go rfl sk_X1_giveQuotas_0 ?_
  simp (disch := omega) only [sg_X1_giveQuotas_0, sw_c, sw_n, sx, sf_4, sv_i, sv_j, sv_r, sv_q1, sv_q0, sv_1i, sv_1r, sv_2, sl_i, sl_j, sl_a, sl_v, sp_p, sp_f1, sp_f2, sc_w, sc_c, sc_r, sc_f, sc_a, sc_k, pp_in, pp_al, ↓reduceIte, Nat.reduceEqDiff, Nat.reduceLT, Nat.reduceLeDiff, Nat.reduceAdd, Nat.reduceSub, Nat.reduceMul, List.length_cons, List.length_nil, true_and, and_true, and_self, true_implies, eq_self, not_true_eq_false, not_false_eq_true, false_implies, implies_true, false_and, and_false, Bool.false_eq_true, or_true, true_or, or_false, false_or, Classical.not_not, Nat.le_refl, Nat.lt_irrefl, Bool.true_eq_false, n_lit, n_a, n_c, n_s, n_b, n_m, n_g, n_w, n_n, hC]
  refine c_openWeight hC hW hO bW ?_
  simp (disch := omega) only [sw_c, sw_n, sx, sf_4, sv_i, sv_j, sv_r, sv_q1, sv_q0, sv_1i, sv_1r, sv_2, sl_i, sl_j, sl_a, sl_v, sp_p, sp_f1, sp_f2, sc_w, sc_c, sc_r, sc_f, sc_a, sc_k, pp_in, pp_al, ↓reduceIte, Nat.reduceEqDiff, Nat.reduceLT, Nat.reduceLeDiff, Nat.reduceAdd, Nat.reduceSub, Nat.reduceMul, List.length_cons, List.length_nil, true_and, and_true, and_self, true_implies, eq_self, not_true_eq_false, not_false_eq_true, false_implies, implies_true, false_and, and_false, Bool.false_eq_true, or_true, true_or, or_false, false_or, Classical.not_not, Nat.le_refl, Nat.lt_irrefl, Bool.true_eq_false, n_lit, n_a, n_c, n_s, n_b, n_m, n_g, n_w, n_n, hC]
  refine ⟨fun q => ?_, fun q => ?_⟩
  · refine pp_go rfl sk_X1_giveQuotas_12 ?_
    simp (disch := omega) only [sg_X1_giveQuotas_12, sw_c, sw_n, sx, sf_4, sv_i, sv_j, sv_r, sv_q1, sv_q0, sv_1i, sv_1r, sv_2, sl_i, sl_j, sl_a, sl_v, sp_p, sp_f1, sp_f2, sc_w, sc_c, sc_r, sc_f, sc_a, sc_k, pp_in, pp_al, ↓reduceIte, Nat.reduceEqDiff, Nat.reduceLT, Nat.reduceLeDiff, Nat.reduceAdd, Nat.reduceSub, Nat.reduceMul, List.length_cons, List.length_nil, true_and, and_true, and_self, true_implies, eq_self, not_true_eq_false, not_false_eq_true, false_implies, implies_true, false_and, and_false, Bool.false_eq_true, or_true, true_or, or_false, false_or, Classical.not_not, Nat.le_refl, Nat.lt_irrefl, Bool.true_eq_false, n_lit, n_a, n_c, n_s, n_b, n_m, n_g, n_w, n_n, hC, hr]
    exact c_gQ_l (I := I) (J := J) (S := S) (r := r) hC hW bW hO q hP 8 0 J _ (by simp) rfl (fun _ _ _ _ => rfl) hr (fun i hi => by rw [if_neg (by omega)]; exact hS i hi) (fun i hi => absurd hi (Nat.not_lt_zero _))
  · have no : ∀ m, m < 8 → O m = false := fun m hm => by
      cases hb : O m with
      | false => rfl
      | true => exact absurd (opn_pos hm hb (pW m hm hb)) q
    have al : ∀ k, k ≤ 8 → lfq W O (opn W O) r k = r := by
      intro k
      induction k with
      | zero => intro _; rfl
      | succ k ih =>
        intro hk
        rw [lfq, if_neg (by rw [no k (by omega)]; exact Bool.false_ne_true)]
        exact ih (by omega)
    refine hP J (fun _ _ _ _ => rfl) (by rw [al 8 (by omega)]; exact hr) (fun i hi => by rw [if_neg (by rw [no i hi]; exact Bool.false_ne_true)]; exact hS i hi) (fun i hi ho => ?_)
    rw [no i hi] at ho; cases ho
theorem c_pick {all : Nat} {O' : Nat → Bool} (hC : sC sh R) (hO : ∀ m, m < 8 → I 116 m = bV (O' m)) (hR : ∀ m, m < 8 → O' m = true → J 117 m = rmd W all r m) (hP : P (.inl (some (.int (oi (pick W all r O' 8))))) (sh, I, J, R)) : pp_MW g (h + 1) mi_X1_openWithLargestRemainder [.ref 113] (sh, I, J, R) P := by
  refine pp_st0 [(0, .ref 113)] ok_X1_openWithLargestRemainder rfl (Nat.le_of_ble_eq_true rfl) rfl ?_
  refine pp_go rfl sk_X1_openWithLargestRemainder_0 ?_
  simp (disch := omega) only [sg_X1_openWithLargestRemainder_0, sw_c, sw_n, sx, sf_4, sv_i, sv_j, sv_r, sv_q1, sv_q0, sv_1i, sv_1r, sv_2, sl_i, sl_j, sl_a, sl_v, sp_p, sp_f1, sp_f2, sc_w, sc_c, sc_r, sc_f, sc_a, sc_k, pp_in, pp_al, ↓reduceIte, Nat.reduceEqDiff, Nat.reduceLT, Nat.reduceLeDiff, Nat.reduceAdd, Nat.reduceSub, Nat.reduceMul, List.length_cons, List.length_nil, true_and, and_true, and_self, true_implies, eq_self, not_true_eq_false, not_false_eq_true, false_implies, implies_true, false_and, and_false, Bool.false_eq_true, or_true, true_or, or_false, false_or, Classical.not_not, Nat.le_refl, Nat.lt_irrefl, Bool.true_eq_false, n_lit, n_a, n_c, n_s, n_b, n_m, n_g, n_w, n_n, rk_X1_openWithLargestRemainder]
  have L : ∀ f m, f + m = 8 → pp_N g h mi_X1_openWithLargestRemainder P 4 [(0, .ref 113), (1, .int (oi (pick W all r O' m))), (2, .int (Int32.ofNat m))] [] (sh, I, J, R) := by
    intro f
    induction f with
    | zero =>
      intro m hm
      have hm : m = 8 := by omega
      subst hm
      repeat' (first | ((with_reducible refine pp_go (pc := 4) (seg := sg_X1_openWithLargestRemainder_4) hh_X1_openWithLargestRemainder sk_X1_openWithLargestRemainder_4 ?_); simp (disch := omega) only [sg_X1_openWithLargestRemainder_4, sw_c, sw_n, sx, sf_4, sv_i, sv_j, sv_r, sv_q1, sv_q0, sv_1i, sv_1r, sv_2, sl_i, sl_j, sl_a, sl_v, sp_p, sp_f1, sp_f2, sc_w, sc_c, sc_r, sc_f, sc_a, sc_k, pp_in, pp_al, ↓reduceIte, Nat.reduceEqDiff, Nat.reduceLT, Nat.reduceLeDiff, Nat.reduceAdd, Nat.reduceSub, Nat.reduceMul, List.length_cons, List.length_nil, true_and, and_true, and_self, true_implies, eq_self, not_true_eq_false, not_false_eq_true, false_implies, implies_true, false_and, and_false, Bool.false_eq_true, or_true, true_or, or_false, false_or, Classical.not_not, Nat.le_refl, Nat.lt_irrefl, Bool.true_eq_false, n_lit, n_a, n_c, n_s, n_b, n_m, n_g, n_w, n_n, rk_X1_openWithLargestRemainder]) | ((with_reducible refine pp_go (pc := 48) (seg := sg_X1_openWithLargestRemainder_48) hh_X1_openWithLargestRemainder sk_X1_openWithLargestRemainder_48 ?_); simp (disch := omega) only [sg_X1_openWithLargestRemainder_48, sw_c, sw_n, sx, sf_4, sv_i, sv_j, sv_r, sv_q1, sv_q0, sv_1i, sv_1r, sv_2, sl_i, sl_j, sl_a, sl_v, sp_p, sp_f1, sp_f2, sc_w, sc_c, sc_r, sc_f, sc_a, sc_k, pp_in, pp_al, ↓reduceIte, Nat.reduceEqDiff, Nat.reduceLT, Nat.reduceLeDiff, Nat.reduceAdd, Nat.reduceSub, Nat.reduceMul, List.length_cons, List.length_nil, true_and, and_true, and_self, true_implies, eq_self, not_true_eq_false, not_false_eq_true, false_implies, implies_true, false_and, and_false, Bool.false_eq_true, or_true, true_or, or_false, false_or, Classical.not_not, Nat.le_refl, Nat.lt_irrefl, Bool.true_eq_false, n_lit, n_a, n_c, n_s, n_b, n_m, n_g, n_w, n_n, rk_X1_openWithLargestRemainder]) | (refine ⟨fun _ => ?_, fun _ => ?_⟩ <;> try (exfalso; omega)) | fail)
      exact hP
    | succ f ih =>
      intro m hm
      have nx := ih (m + 1) (by omega)
      rw [pick] at nx
      have q1 : ¬ 8 ≤ m := by omega
      cases hb : O' m with
      | false =>
        rw [if_neg (by rw [hb]; exact Bool.false_ne_true)] at nx
        refine pp_go rfl sk_X1_openWithLargestRemainder_4 ?_
        simp (disch := omega) only [sg_X1_openWithLargestRemainder_4, sw_c, sw_n, sx, sf_4, sv_i, sv_j, sv_r, sv_q1, sv_q0, sv_1i, sv_1r, sv_2, sl_i, sl_j, sl_a, sl_v, sp_p, sp_f1, sp_f2, sc_w, sc_c, sc_r, sc_f, sc_a, sc_k, pp_in, pp_al, ↓reduceIte, Nat.reduceEqDiff, Nat.reduceLT, Nat.reduceLeDiff, Nat.reduceAdd, Nat.reduceSub, Nat.reduceMul, List.length_cons, List.length_nil, true_and, and_true, and_self, true_implies, eq_self, not_true_eq_false, not_false_eq_true, false_implies, implies_true, false_and, and_false, Bool.false_eq_true, or_true, true_or, or_false, false_or, Classical.not_not, Nat.le_refl, Nat.lt_irrefl, Bool.true_eq_false, n_lit, n_a, n_c, n_s, n_b, n_m, n_g, n_w, n_n, rk_X1_openWithLargestRemainder, hC, q1, hO, bV_0, hb]
        refine pp_go rfl sk_X1_openWithLargestRemainder_42 ?_
        simp (disch := omega) only [sg_X1_openWithLargestRemainder_42, sw_c, sw_n, sx, sf_4, sv_i, sv_j, sv_r, sv_q1, sv_q0, sv_1i, sv_1r, sv_2, sl_i, sl_j, sl_a, sl_v, sp_p, sp_f1, sp_f2, sc_w, sc_c, sc_r, sc_f, sc_a, sc_k, pp_in, pp_al, ↓reduceIte, Nat.reduceEqDiff, Nat.reduceLT, Nat.reduceLeDiff, Nat.reduceAdd, Nat.reduceSub, Nat.reduceMul, List.length_cons, List.length_nil, true_and, and_true, and_self, true_implies, eq_self, not_true_eq_false, not_false_eq_true, false_implies, implies_true, false_and, and_false, Bool.false_eq_true, or_true, true_or, or_false, false_or, Classical.not_not, Nat.le_refl, Nat.lt_irrefl, Bool.true_eq_false, n_lit, n_a, n_c, n_s, n_b, n_m, n_g, n_w, n_n, rk_X1_openWithLargestRemainder]
        exact nx
      | true =>
        rw [if_pos hb] at nx
        have hlt := fun x => pick_s (W := W) (all := all) (r := r) (O := O') (O' := O') (fun _ z => z) m x
        cases hp : pick W all r O' m with
        | none =>
          rw [hp] at nx
          refine pp_go rfl sk_X1_openWithLargestRemainder_4 ?_
          simp (disch := omega) only [sg_X1_openWithLargestRemainder_4, sw_c, sw_n, sx, sf_4, sv_i, sv_j, sv_r, sv_q1, sv_q0, sv_1i, sv_1r, sv_2, sl_i, sl_j, sl_a, sl_v, sp_p, sp_f1, sp_f2, sc_w, sc_c, sc_r, sc_f, sc_a, sc_k, pp_in, pp_al, ↓reduceIte, Nat.reduceEqDiff, Nat.reduceLT, Nat.reduceLeDiff, Nat.reduceAdd, Nat.reduceSub, Nat.reduceMul, List.length_cons, List.length_nil, true_and, and_true, and_self, true_implies, eq_self, not_true_eq_false, not_false_eq_true, false_implies, implies_true, false_and, and_false, Bool.false_eq_true, or_true, true_or, or_false, false_or, Classical.not_not, Nat.le_refl, Nat.lt_irrefl, Bool.true_eq_false, n_lit, n_a, n_c, n_s, n_b, n_m, n_g, n_w, n_n, rk_X1_openWithLargestRemainder, hC, q1, hO, bV_0, hb, hp, oi]
          refine pp_go rfl sk_X1_openWithLargestRemainder_40 ?_
          simp (disch := omega) only [sg_X1_openWithLargestRemainder_40, sw_c, sw_n, sx, sf_4, sv_i, sv_j, sv_r, sv_q1, sv_q0, sv_1i, sv_1r, sv_2, sl_i, sl_j, sl_a, sl_v, sp_p, sp_f1, sp_f2, sc_w, sc_c, sc_r, sc_f, sc_a, sc_k, pp_in, pp_al, ↓reduceIte, Nat.reduceEqDiff, Nat.reduceLT, Nat.reduceLeDiff, Nat.reduceAdd, Nat.reduceSub, Nat.reduceMul, List.length_cons, List.length_nil, true_and, and_true, and_self, true_implies, eq_self, not_true_eq_false, not_false_eq_true, false_implies, implies_true, false_and, and_false, Bool.false_eq_true, or_true, true_or, or_false, false_or, Classical.not_not, Nat.le_refl, Nat.lt_irrefl, Bool.true_eq_false, n_lit, n_a, n_c, n_s, n_b, n_m, n_g, n_w, n_n, rk_X1_openWithLargestRemainder]
          refine pp_go rfl sk_X1_openWithLargestRemainder_42 ?_
          simp (disch := omega) only [sg_X1_openWithLargestRemainder_42, sw_c, sw_n, sx, sf_4, sv_i, sv_j, sv_r, sv_q1, sv_q0, sv_1i, sv_1r, sv_2, sl_i, sl_j, sl_a, sl_v, sp_p, sp_f1, sp_f2, sc_w, sc_c, sc_r, sc_f, sc_a, sc_k, pp_in, pp_al, ↓reduceIte, Nat.reduceEqDiff, Nat.reduceLT, Nat.reduceLeDiff, Nat.reduceAdd, Nat.reduceSub, Nat.reduceMul, List.length_cons, List.length_nil, true_and, and_true, and_self, true_implies, eq_self, not_true_eq_false, not_false_eq_true, false_implies, implies_true, false_and, and_false, Bool.false_eq_true, or_true, true_or, or_false, false_or, Classical.not_not, Nat.le_refl, Nat.lt_irrefl, Bool.true_eq_false, n_lit, n_a, n_c, n_s, n_b, n_m, n_g, n_w, n_n, rk_X1_openWithLargestRemainder]
          exact nx
        | some x =>
          rw [hp] at nx
          have px := hlt x hp
          have r1 := hR m (by omega) hb
          have r2 := hR x (by omega) px.2.1
          have x1 : ¬ Int32.ofNat x = -1 := by
            intro e
            have := congrArg Int32.toInt e
            rw [n_i.2.2.2 _ (by omega)] at this
            have z : (-1 : Int32).toInt = -1 := by decide
            omega
          have x1' : ¬ Int32.ofNat x = -Int32.ofNat 1 := x1
          simp only [] at nx
          by_cases c : rmd W all r x < rmd W all r m
          · rw [if_pos c] at nx
            have c' : ¬ rmd W all r m ≤ rmd W all r x := Int64.not_le.mpr c
            refine pp_go rfl sk_X1_openWithLargestRemainder_4 ?_
            simp (disch := omega) only [sg_X1_openWithLargestRemainder_4, sw_c, sw_n, sx, sf_4, sv_i, sv_j, sv_r, sv_q1, sv_q0, sv_1i, sv_1r, sv_2, sl_i, sl_j, sl_a, sl_v, sp_p, sp_f1, sp_f2, sc_w, sc_c, sc_r, sc_f, sc_a, sc_k, pp_in, pp_al, ↓reduceIte, Nat.reduceEqDiff, Nat.reduceLT, Nat.reduceLeDiff, Nat.reduceAdd, Nat.reduceSub, Nat.reduceMul, List.length_cons, List.length_nil, true_and, and_true, and_self, true_implies, eq_self, not_true_eq_false, not_false_eq_true, false_implies, implies_true, false_and, and_false, Bool.false_eq_true, or_true, true_or, or_false, false_or, Classical.not_not, Nat.le_refl, Nat.lt_irrefl, Bool.true_eq_false, n_lit, n_a, n_c, n_s, n_b, n_m, n_g, n_w, n_n, rk_X1_openWithLargestRemainder, hC, q1, hO, bV_0, hb, hp, oi, r1, r2, c', x1']
            refine pp_go rfl sk_X1_openWithLargestRemainder_40 ?_
            simp (disch := omega) only [sg_X1_openWithLargestRemainder_40, sw_c, sw_n, sx, sf_4, sv_i, sv_j, sv_r, sv_q1, sv_q0, sv_1i, sv_1r, sv_2, sl_i, sl_j, sl_a, sl_v, sp_p, sp_f1, sp_f2, sc_w, sc_c, sc_r, sc_f, sc_a, sc_k, pp_in, pp_al, ↓reduceIte, Nat.reduceEqDiff, Nat.reduceLT, Nat.reduceLeDiff, Nat.reduceAdd, Nat.reduceSub, Nat.reduceMul, List.length_cons, List.length_nil, true_and, and_true, and_self, true_implies, eq_self, not_true_eq_false, not_false_eq_true, false_implies, implies_true, false_and, and_false, Bool.false_eq_true, or_true, true_or, or_false, false_or, Classical.not_not, Nat.le_refl, Nat.lt_irrefl, Bool.true_eq_false, n_lit, n_a, n_c, n_s, n_b, n_m, n_g, n_w, n_n, rk_X1_openWithLargestRemainder]
            refine pp_go rfl sk_X1_openWithLargestRemainder_42 ?_
            simp (disch := omega) only [sg_X1_openWithLargestRemainder_42, sw_c, sw_n, sx, sf_4, sv_i, sv_j, sv_r, sv_q1, sv_q0, sv_1i, sv_1r, sv_2, sl_i, sl_j, sl_a, sl_v, sp_p, sp_f1, sp_f2, sc_w, sc_c, sc_r, sc_f, sc_a, sc_k, pp_in, pp_al, ↓reduceIte, Nat.reduceEqDiff, Nat.reduceLT, Nat.reduceLeDiff, Nat.reduceAdd, Nat.reduceSub, Nat.reduceMul, List.length_cons, List.length_nil, true_and, and_true, and_self, true_implies, eq_self, not_true_eq_false, not_false_eq_true, false_implies, implies_true, false_and, and_false, Bool.false_eq_true, or_true, true_or, or_false, false_or, Classical.not_not, Nat.le_refl, Nat.lt_irrefl, Bool.true_eq_false, n_lit, n_a, n_c, n_s, n_b, n_m, n_g, n_w, n_n, rk_X1_openWithLargestRemainder]
            exact nx
          · rw [if_neg c] at nx
            have c' : rmd W all r m ≤ rmd W all r x := Int64.not_lt.mp c
            refine pp_go rfl sk_X1_openWithLargestRemainder_4 ?_
            simp (disch := omega) only [sg_X1_openWithLargestRemainder_4, sw_c, sw_n, sx, sf_4, sv_i, sv_j, sv_r, sv_q1, sv_q0, sv_1i, sv_1r, sv_2, sl_i, sl_j, sl_a, sl_v, sp_p, sp_f1, sp_f2, sc_w, sc_c, sc_r, sc_f, sc_a, sc_k, pp_in, pp_al, ↓reduceIte, Nat.reduceEqDiff, Nat.reduceLT, Nat.reduceLeDiff, Nat.reduceAdd, Nat.reduceSub, Nat.reduceMul, List.length_cons, List.length_nil, true_and, and_true, and_self, true_implies, eq_self, not_true_eq_false, not_false_eq_true, false_implies, implies_true, false_and, and_false, Bool.false_eq_true, or_true, true_or, or_false, false_or, Classical.not_not, Nat.le_refl, Nat.lt_irrefl, Bool.true_eq_false, n_lit, n_a, n_c, n_s, n_b, n_m, n_g, n_w, n_n, rk_X1_openWithLargestRemainder, hC, q1, hO, bV_0, hb, hp, oi, r1, r2, c', x1']
            refine pp_go rfl sk_X1_openWithLargestRemainder_42 ?_
            simp (disch := omega) only [sg_X1_openWithLargestRemainder_42, sw_c, sw_n, sx, sf_4, sv_i, sv_j, sv_r, sv_q1, sv_q0, sv_1i, sv_1r, sv_2, sl_i, sl_j, sl_a, sl_v, sp_p, sp_f1, sp_f2, sc_w, sc_c, sc_r, sc_f, sc_a, sc_k, pp_in, pp_al, ↓reduceIte, Nat.reduceEqDiff, Nat.reduceLT, Nat.reduceLeDiff, Nat.reduceAdd, Nat.reduceSub, Nat.reduceMul, List.length_cons, List.length_nil, true_and, and_true, and_self, true_implies, eq_self, not_true_eq_false, not_false_eq_true, false_implies, implies_true, false_and, and_false, Bool.false_eq_true, or_true, true_or, or_false, false_or, Classical.not_not, Nat.le_refl, Nat.lt_irrefl, Bool.true_eq_false, n_lit, n_a, n_c, n_s, n_b, n_m, n_g, n_w, n_n, rk_X1_openWithLargestRemainder]
            exact nx
  exact L 8 0 rfl
theorem c_gR_l {all : Nat} (hC : sC sh R) (hb : ∀ m, 8 ≤ m → O m = false) (ha : (∀ m, O m = false) ∨ (0 < all ∧ all ≤ 8000000)) :
    ∀ f p O' S I' J' L, (∀ q ∈ [(0, Value.ref 113), (1, .long lim), (3, .int (Int32.ofNat p))], q ∈ L) → f + p = 8 → tInv W O all r O' p → (∀ a, a ≠ 116 → I' a = I a) → (∀ a, a ≠ 113 → a ≠ 115 → J' a = J a) → (∀ m, m < 8 → I' 116 m = bV (O' m)) → (∀ m, m < 8 → O' m = true → J' 117 m = rmd W all r m) → (∀ i, i < 8 → J' 115 i = S i) →
      (∀ I2 J2, (∀ a, a ≠ 116 → I2 a = I a) → (∀ a, a ≠ 113 → a ≠ 115 → J2 a = J a) → J2 113 2 = (gv W lim O all r f p (S, J' 113 2)).2 → (∀ i, i < 8 → J2 115 i = (gv W lim O all r f p (S, J' 113 2)).1 i) → P (.inl none) (sh, I2, J2, R)) →
      pp_N g (h + 1) mi_X1_giveRemainders P 2 L [] (sh, I', J', R) := by
  intro f
  induction f with
  | zero =>
    intro p O' S I' J' L hL hp ht hI hJ hO hR hS hP
    have hp : p = 8 := by omega
    subst hp
    refine pp_N.sub ?_ hL
    refine pp_go rfl sk_X1_giveRemainders_2 ?_
    simp (disch := omega) only [sg_X1_giveRemainders_2, sw_c, sw_n, sx, sf_4, sv_i, sv_j, sv_r, sv_q1, sv_q0, sv_1i, sv_1r, sv_2, sl_i, sl_j, sl_a, sl_v, sp_p, sp_f1, sp_f2, sc_w, sc_c, sc_r, sc_f, sc_a, sc_k, pp_in, pp_al, ↓reduceIte, Nat.reduceEqDiff, Nat.reduceLT, Nat.reduceLeDiff, Nat.reduceAdd, Nat.reduceSub, Nat.reduceMul, List.length_cons, List.length_nil, true_and, and_true, and_self, true_implies, eq_self, not_true_eq_false, not_false_eq_true, false_implies, implies_true, false_and, and_false, Bool.false_eq_true, or_true, true_or, or_false, false_or, Classical.not_not, Nat.le_refl, Nat.lt_irrefl, Bool.true_eq_false, n_lit, n_a, n_c, n_s, n_b, n_m, n_g, n_w, n_n]
    refine pp_go rfl sk_X1_giveRemainders_77 ?_
    simp (disch := omega) only [sg_X1_giveRemainders_77, sw_c, sw_n, sx, sf_4, sv_i, sv_j, sv_r, sv_q1, sv_q0, sv_1i, sv_1r, sv_2, sl_i, sl_j, sl_a, sl_v, sp_p, sp_f1, sp_f2, sc_w, sc_c, sc_r, sc_f, sc_a, sc_k, pp_in, pp_al, ↓reduceIte, Nat.reduceEqDiff, Nat.reduceLT, Nat.reduceLeDiff, Nat.reduceAdd, Nat.reduceSub, Nat.reduceMul, List.length_cons, List.length_nil, true_and, and_true, and_self, true_implies, eq_self, not_true_eq_false, not_false_eq_true, false_implies, implies_true, false_and, and_false, Bool.false_eq_true, or_true, true_or, or_false, false_or, Classical.not_not, Nat.le_refl, Nat.lt_irrefl, Bool.true_eq_false, n_lit, n_a, n_c, n_s, n_b, n_m, n_g, n_w, n_n]
    exact hP I' J' hI hJ rfl hS
  | succ f ih =>
    intro p O' S I' J' L hL hp ht hI hJ hO hR hS hP
    refine pp_N.sub ?_ hL
    have q1 : ¬ 8 ≤ p := by omega
    by_cases c : Int64.ofNat 0 < J' 113 2
    · have c' : ¬ J' 113 2 ≤ Int64.ofNat 0 := Int64.not_le.mpr c
      refine pp_go rfl sk_X1_giveRemainders_2 ?_
      simp (disch := omega) only [sg_X1_giveRemainders_2, sw_c, sw_n, sx, sf_4, sv_i, sv_j, sv_r, sv_q1, sv_q0, sv_1i, sv_1r, sv_2, sl_i, sl_j, sl_a, sl_v, sp_p, sp_f1, sp_f2, sc_w, sc_c, sc_r, sc_f, sc_a, sc_k, pp_in, pp_al, ↓reduceIte, Nat.reduceEqDiff, Nat.reduceLT, Nat.reduceLeDiff, Nat.reduceAdd, Nat.reduceSub, Nat.reduceMul, List.length_cons, List.length_nil, true_and, and_true, and_self, true_implies, eq_self, not_true_eq_false, not_false_eq_true, false_implies, implies_true, false_and, and_false, Bool.false_eq_true, or_true, true_or, or_false, false_or, Classical.not_not, Nat.le_refl, Nat.lt_irrefl, Bool.true_eq_false, n_lit, n_a, n_c, n_s, n_b, n_m, n_g, n_w, n_n, hC, q1, c']
      refine c_pick (W := W) (all := all) (r := r) hC hO hR ?_
      simp (disch := omega) only [sw_c, sw_n, sx, sf_4, sv_i, sv_j, sv_r, sv_q1, sv_q0, sv_1i, sv_1r, sv_2, sl_i, sl_j, sl_a, sl_v, sp_p, sp_f1, sp_f2, sc_w, sc_c, sc_r, sc_f, sc_a, sc_k, pp_in, pp_al, ↓reduceIte, Nat.reduceEqDiff, Nat.reduceLT, Nat.reduceLeDiff, Nat.reduceAdd, Nat.reduceSub, Nat.reduceMul, List.length_cons, List.length_nil, true_and, and_true, and_self, true_implies, eq_self, not_true_eq_false, not_false_eq_true, false_implies, implies_true, false_and, and_false, Bool.false_eq_true, or_true, true_or, or_false, false_or, Classical.not_not, Nat.le_refl, Nat.lt_irrefl, Bool.true_eq_false, n_lit, n_a, n_c, n_s, n_b, n_m, n_g, n_w, n_n, hC]
      cases hk : pick W all r O' 8 with
      | none =>
        simp (disch := omega) only [sw_c, sw_n, sx, sf_4, sv_i, sv_j, sv_r, sv_q1, sv_q0, sv_1i, sv_1r, sv_2, sl_i, sl_j, sl_a, sl_v, sp_p, sp_f1, sp_f2, sc_w, sc_c, sc_r, sc_f, sc_a, sc_k, pp_in, pp_al, ↓reduceIte, Nat.reduceEqDiff, Nat.reduceLT, Nat.reduceLeDiff, Nat.reduceAdd, Nat.reduceSub, Nat.reduceMul, List.length_cons, List.length_nil, true_and, and_true, and_self, true_implies, eq_self, not_true_eq_false, not_false_eq_true, false_implies, implies_true, false_and, and_false, Bool.false_eq_true, or_true, true_or, or_false, false_or, Classical.not_not, Nat.le_refl, Nat.lt_irrefl, Bool.true_eq_false, n_lit, n_a, n_c, n_s, n_b, n_m, n_g, n_w, n_n, oi]
        have pn := pick_n 8 hk
        rw [gv_stop (O := O) (f + 1) p (S, J' 113 2) (Or.inr (fun q hq => ?_))] at hP
        · exact hP I' J' hI hJ rfl hS
        · refine fnd_none 8 0 (fun m a b => ?_)
          cases ho : O m with
          | false => rfl
          | true =>
            rcases ha with ha | ha
            · rw [ha m] at ho; cases ho
            · have := rem_ahd ha.1 ha.2 ht hb (m := m) (by omega) ho (pn m (by omega))
              simp only [Bool.true_and, decide_eq_false_iff_not]
              omega
      | some x =>
        have ps := pick_s ht.1 8 x hk
        have oa : oat W O all r p = some x := by
          rcases ha with ha | ha
          · have := ht.1 x ps.2.1; rw [ha x] at this; cases this
          · rw [oat_pick ha.1 ha.2 ht hb]; exact hk
        have x1 : ¬ Int32.ofNat x = -Int32.ofNat 1 := by
          intro e
          have := congrArg Int32.toInt e
          rw [n_i.2.2.2 _ (by omega)] at this
          have z : (-Int32.ofNat 1).toInt = -1 := by decide
          omega
        have sX := hS x (by omega)
        have tn := tInv_s ht hb hk
        have hO2 : ∀ m, m < 8 → pp_s I' 116 (va_up (I' 116) x (Int32.ofNat 0)) 116 m = bV (va_up O' x false m) := fun m hm => by
          simp only [n_m, ↓reduceIte]
          by_cases e : m = x
          · rw [if_pos e, if_pos e]; rfl
          · rw [if_neg e, if_neg e]; exact hO m hm
        have hR2 : ∀ m, m < 8 → va_up O' x false m = true → J' 117 m = rmd W all r m := fun m hm z => by
          rw [va_up] at z
          by_cases e : m = x
          · rw [if_pos e] at z; cases z
          · rw [if_neg e] at z; exact hR m hm z
        rw [gv, oa] at hP
        simp only [gv1] at hP
        simp (disch := omega) only [sw_c, sw_n, sx, sf_4, sv_i, sv_j, sv_r, sv_q1, sv_q0, sv_1i, sv_1r, sv_2, sl_i, sl_j, sl_a, sl_v, sp_p, sp_f1, sp_f2, sc_w, sc_c, sc_r, sc_f, sc_a, sc_k, pp_in, pp_al, ↓reduceIte, Nat.reduceEqDiff, Nat.reduceLT, Nat.reduceLeDiff, Nat.reduceAdd, Nat.reduceSub, Nat.reduceMul, List.length_cons, List.length_nil, true_and, and_true, and_self, true_implies, eq_self, not_true_eq_false, not_false_eq_true, false_implies, implies_true, false_and, and_false, Bool.false_eq_true, or_true, true_or, or_false, false_or, Classical.not_not, Nat.le_refl, Nat.lt_irrefl, Bool.true_eq_false, n_lit, n_a, n_c, n_s, n_b, n_m, n_g, n_w, n_n, oi, x1]
        by_cases d : S x < lim
        · rw [if_pos ⟨c, d⟩] at hP
          have d' : ¬ lim ≤ S x := Int64.not_le.mpr d
          refine pp_go rfl sk_X1_giveRemainders_30 ?_
          simp (disch := omega) only [sg_X1_giveRemainders_30, sw_c, sw_n, sx, sf_4, sv_i, sv_j, sv_r, sv_q1, sv_q0, sv_1i, sv_1r, sv_2, sl_i, sl_j, sl_a, sl_v, sp_p, sp_f1, sp_f2, sc_w, sc_c, sc_r, sc_f, sc_a, sc_k, pp_in, pp_al, ↓reduceIte, Nat.reduceEqDiff, Nat.reduceLT, Nat.reduceLeDiff, Nat.reduceAdd, Nat.reduceSub, Nat.reduceMul, List.length_cons, List.length_nil, true_and, and_true, and_self, true_implies, eq_self, not_true_eq_false, not_false_eq_true, false_implies, implies_true, false_and, and_false, Bool.false_eq_true, or_true, true_or, or_false, false_or, Classical.not_not, Nat.le_refl, Nat.lt_irrefl, Bool.true_eq_false, n_lit, n_a, n_c, n_s, n_b, n_m, n_g, n_w, n_n, hC, sX, d']
          refine pp_go rfl sk_X1_giveRemainders_71 ?_
          simp (disch := omega) only [sg_X1_giveRemainders_71, sw_c, sw_n, sx, sf_4, sv_i, sv_j, sv_r, sv_q1, sv_q0, sv_1i, sv_1r, sv_2, sl_i, sl_j, sl_a, sl_v, sp_p, sp_f1, sp_f2, sc_w, sc_c, sc_r, sc_f, sc_a, sc_k, pp_in, pp_al, ↓reduceIte, Nat.reduceEqDiff, Nat.reduceLT, Nat.reduceLeDiff, Nat.reduceAdd, Nat.reduceSub, Nat.reduceMul, List.length_cons, List.length_nil, true_and, and_true, and_self, true_implies, eq_self, not_true_eq_false, not_false_eq_true, false_implies, implies_true, false_and, and_false, Bool.false_eq_true, or_true, true_or, or_false, false_or, Classical.not_not, Nat.le_refl, Nat.lt_irrefl, Bool.true_eq_false, n_lit, n_a, n_c, n_s, n_b, n_m, n_g, n_w, n_n]
          refine ih (p + 1) _ (va_up S x (S x + Int64.ofNat 1)) _ _ _ (by simp) (by omega) tn (fun a ha => by rw [pp_s_ne _ _ ha]; exact hI a ha) (fun a a1 a2 => by simp only [n_m]; rw [if_neg a1, if_neg a2]; exact hJ a a1 a2) hO2 (fun m hm z => by simp only [n_m, Nat.reduceEqDiff, ↓reduceIte]; exact hR2 m hm z) (fun i hi => ?_) (fun I2 J2 a1 a2 a3 a4 => ?_)
          · simp only [n_m, Nat.reduceEqDiff, ↓reduceIte]
            by_cases e : i = x
            · rw [if_pos e, if_pos e]
            · rw [if_neg e, if_neg e]; exact hS i hi
          · refine hP I2 J2 a1 a2 ?_ ?_
            · rw [a3]; simp only [n_m, Nat.reduceEqDiff, ↓reduceIte]
            · intro i hi; rw [a4 i hi]; simp only [n_m, Nat.reduceEqDiff, ↓reduceIte]
        · rw [if_neg (fun z => d z.2)] at hP
          have d' : lim ≤ S x := Int64.not_lt.mp d
          refine pp_go rfl sk_X1_giveRemainders_30 ?_
          simp (disch := omega) only [sg_X1_giveRemainders_30, sw_c, sw_n, sx, sf_4, sv_i, sv_j, sv_r, sv_q1, sv_q0, sv_1i, sv_1r, sv_2, sl_i, sl_j, sl_a, sl_v, sp_p, sp_f1, sp_f2, sc_w, sc_c, sc_r, sc_f, sc_a, sc_k, pp_in, pp_al, ↓reduceIte, Nat.reduceEqDiff, Nat.reduceLT, Nat.reduceLeDiff, Nat.reduceAdd, Nat.reduceSub, Nat.reduceMul, List.length_cons, List.length_nil, true_and, and_true, and_self, true_implies, eq_self, not_true_eq_false, not_false_eq_true, false_implies, implies_true, false_and, and_false, Bool.false_eq_true, or_true, true_or, or_false, false_or, Classical.not_not, Nat.le_refl, Nat.lt_irrefl, Bool.true_eq_false, n_lit, n_a, n_c, n_s, n_b, n_m, n_g, n_w, n_n, hC, sX, d']
          refine pp_go rfl sk_X1_giveRemainders_71 ?_
          simp (disch := omega) only [sg_X1_giveRemainders_71, sw_c, sw_n, sx, sf_4, sv_i, sv_j, sv_r, sv_q1, sv_q0, sv_1i, sv_1r, sv_2, sl_i, sl_j, sl_a, sl_v, sp_p, sp_f1, sp_f2, sc_w, sc_c, sc_r, sc_f, sc_a, sc_k, pp_in, pp_al, ↓reduceIte, Nat.reduceEqDiff, Nat.reduceLT, Nat.reduceLeDiff, Nat.reduceAdd, Nat.reduceSub, Nat.reduceMul, List.length_cons, List.length_nil, true_and, and_true, and_self, true_implies, eq_self, not_true_eq_false, not_false_eq_true, false_implies, implies_true, false_and, and_false, Bool.false_eq_true, or_true, true_or, or_false, false_or, Classical.not_not, Nat.le_refl, Nat.lt_irrefl, Bool.true_eq_false, n_lit, n_a, n_c, n_s, n_b, n_m, n_g, n_w, n_n]
          exact ih (p + 1) _ S _ _ _ (by simp) (by omega) tn (fun a ha => by rw [pp_s_ne _ _ ha]; exact hI a ha) hJ hO2 hR2 hS hP
    · have c' : J' 113 2 ≤ Int64.ofNat 0 := Int64.not_lt.mp c
      rw [gv_stop (O := O) (f + 1) p (S, J' 113 2) (Or.inl c)] at hP
      refine pp_go rfl sk_X1_giveRemainders_2 ?_
      simp (disch := omega) only [sg_X1_giveRemainders_2, sw_c, sw_n, sx, sf_4, sv_i, sv_j, sv_r, sv_q1, sv_q0, sv_1i, sv_1r, sv_2, sl_i, sl_j, sl_a, sl_v, sp_p, sp_f1, sp_f2, sc_w, sc_c, sc_r, sc_f, sc_a, sc_k, pp_in, pp_al, ↓reduceIte, Nat.reduceEqDiff, Nat.reduceLT, Nat.reduceLeDiff, Nat.reduceAdd, Nat.reduceSub, Nat.reduceMul, List.length_cons, List.length_nil, true_and, and_true, and_self, true_implies, eq_self, not_true_eq_false, not_false_eq_true, false_implies, implies_true, false_and, and_false, Bool.false_eq_true, or_true, true_or, or_false, false_or, Classical.not_not, Nat.le_refl, Nat.lt_irrefl, Bool.true_eq_false, n_lit, n_a, n_c, n_s, n_b, n_m, n_g, n_w, n_n, hC, q1, c']
      refine pp_go rfl sk_X1_giveRemainders_77 ?_
      simp (disch := omega) only [sg_X1_giveRemainders_77, sw_c, sw_n, sx, sf_4, sv_i, sv_j, sv_r, sv_q1, sv_q0, sv_1i, sv_1r, sv_2, sl_i, sl_j, sl_a, sl_v, sp_p, sp_f1, sp_f2, sc_w, sc_c, sc_r, sc_f, sc_a, sc_k, pp_in, pp_al, ↓reduceIte, Nat.reduceEqDiff, Nat.reduceLT, Nat.reduceLeDiff, Nat.reduceAdd, Nat.reduceSub, Nat.reduceMul, List.length_cons, List.length_nil, true_and, and_true, and_self, true_implies, eq_self, not_true_eq_false, not_false_eq_true, false_implies, implies_true, false_and, and_false, Bool.false_eq_true, or_true, true_or, or_false, false_or, Classical.not_not, Nat.le_refl, Nat.lt_irrefl, Bool.true_eq_false, n_lit, n_a, n_c, n_s, n_b, n_m, n_g, n_w, n_n]
      exact hP I' J' hI hJ rfl hS
end

