/-! THE CONSTRUCTORS: the class, the model -/
set_option maxHeartbeats 4000000
set_option maxRecDepth 100000
section
variable {g : pp_G} {h : Nat} {I : Nat → Nat → Int32} {J : Nat → Nat → Int64} {R : Nat → Nat → Option Nat} {P : pp_R → pp_W → Prop}
abbrev A00 : AS := (fun _ => 0, 0, -1, T00, G00, (0, fun _ => G00), fun _ => none)
theorem k_P (hP : ∀ I' J' R', fBl 66 I J R I' J' R' → R' 66 0 = some 67 → R' 66 1 = some 74 → R' 66 2 = some 84 → R' 66 3 = some 94 → sTx (tk 95) R' 67 68 69 70 71 72 73 → sLx (tk 95) R' 74 75 76 77 78 79 80 81 82 83 → sLx (tk 95) R' 84 85 86 87 88 89 90 91 92 93 → cL I' J' 84 G00 → R' 94 0 = some 65 → P (.inl none) (tk 95, I', J', R')) : pp_MW g (h + 4) mi_X5_init [.ref 66, .ref 65] (tk 67, I, J, R) P := by
  refine pp_st0 [(0, .ref 66), (1, .ref 65)] ok_X5_init rfl (Nat.le_of_ble_eq_true rfl) rfl ?_
  refine pp_go rfl sk_X5_init_0 ?_
  simp only [sg_X5_init_0, sw_c, sw_n, sx, sf_4, sv_i, sv_j, sv_r, sv_q1, sv_q0, sv_1i, sv_1r, sv_2, sl_i, sl_j, sl_a, sl_v, sp_p, sp_f1, sp_f2, sc_w, sc_c, sc_r, sc_f, sc_a, sc_k, pp_in, pp_al, ↓reduceIte, Nat.reduceEqDiff, Nat.reduceLT, Nat.reduceLeDiff, Nat.reduceAdd, Nat.reduceSub, Nat.reduceMul, List.length_cons, List.length_nil, true_and, and_true, and_self, true_implies, eq_self, not_true_eq_false, not_false_eq_true, false_implies, implies_true, false_and, and_false, Bool.false_eq_true, or_true, true_or, or_false, false_or, Classical.not_not, Nat.le_refl, Nat.lt_irrefl, Bool.true_eq_false, n_lit, n_a, n_c, n_s, n_b, n_m, n_g, n_w, n_n, pp_nw, tk_len, tk_get, wg, ta]
  refine k_T67 (fun I1 J1 R1 f1 t1 t2 => ?_)
  simp only [sw_c, sw_n, sx, sf_4, sv_i, sv_j, sv_r, sv_q1, sv_q0, sv_1i, sv_1r, sv_2, sl_i, sl_j, sl_a, sl_v, sp_p, sp_f1, sp_f2, sc_w, sc_c, sc_r, sc_f, sc_a, sc_k, pp_in, pp_al, ↓reduceIte, Nat.reduceEqDiff, Nat.reduceLT, Nat.reduceLeDiff, Nat.reduceAdd, Nat.reduceSub, Nat.reduceMul, List.length_cons, List.length_nil, true_and, and_true, and_self, true_implies, eq_self, not_true_eq_false, not_false_eq_true, false_implies, implies_true, false_and, and_false, Bool.false_eq_true, or_true, true_or, or_false, false_or, Classical.not_not, Nat.le_refl, Nat.lt_irrefl, Bool.true_eq_false, n_lit, n_a, n_c, n_s, n_b, n_m, n_g, n_w, n_n, pp_nw, tk_len, tk_get, wg, ta, f1]
  refine c_Linit (L := 74) (tk_len (by omega)) (by simp only [tk_get, wg, Nat.reduceLT]) (by simp only [n_m, ↓reduceIte]) (by simp only [n_m, ↓reduceIte]) (fun I2 J2 R2 s2 l2 f2 => ?_)
  rw [tl.1] at s2 ⊢
  simp only [sw_c, sw_n, sx, sf_4, sv_i, sv_j, sv_r, sv_q1, sv_q0, sv_1i, sv_1r, sv_2, sl_i, sl_j, sl_a, sl_v, sp_p, sp_f1, sp_f2, sc_w, sc_c, sc_r, sc_f, sc_a, sc_k, pp_in, pp_al, ↓reduceIte, Nat.reduceEqDiff, Nat.reduceLT, Nat.reduceLeDiff, Nat.reduceAdd, Nat.reduceSub, Nat.reduceMul, List.length_cons, List.length_nil, true_and, and_true, and_self, true_implies, eq_self, not_true_eq_false, not_false_eq_true, false_implies, implies_true, false_and, and_false, Bool.false_eq_true, or_true, true_or, or_false, false_or, Classical.not_not, Nat.le_refl, Nat.lt_irrefl, Bool.true_eq_false, n_lit, n_a, n_c, n_s, n_b, n_m, n_g, n_w, n_n, pp_nw, tk_len, tk_get, wg, ta, f2]
  refine c_Linit (L := 84) (tk_len (by omega)) (by simp only [tk_get, wg, Nat.reduceLT]) (by simp only [n_m, ↓reduceIte]) (by simp only [n_m, ↓reduceIte]) (fun I3 J3 R3 s3 l3 f3 => ?_)
  rw [tl.2.1] at s3 ⊢
  simp only [sw_c, sw_n, sx, sf_4, sv_i, sv_j, sv_r, sv_q1, sv_q0, sv_1i, sv_1r, sv_2, sl_i, sl_j, sl_a, sl_v, sp_p, sp_f1, sp_f2, sc_w, sc_c, sc_r, sc_f, sc_a, sc_k, pp_in, pp_al, ↓reduceIte, Nat.reduceEqDiff, Nat.reduceLT, Nat.reduceLeDiff, Nat.reduceAdd, Nat.reduceSub, Nat.reduceMul, List.length_cons, List.length_nil, true_and, and_true, and_self, true_implies, eq_self, not_true_eq_false, not_false_eq_true, false_implies, implies_true, false_and, and_false, Bool.false_eq_true, or_true, true_or, or_false, false_or, Classical.not_not, Nat.le_refl, Nat.lt_irrefl, Bool.true_eq_false, n_lit, n_a, n_c, n_s, n_b, n_m, n_g, n_w, n_n, pp_nw, tk_len, tk_get, wg, ta, f3]
  refine k_K ?_
  simp only [sw_c, sw_n, sx, sf_4, sv_i, sv_j, sv_r, sv_q1, sv_q0, sv_1i, sv_1r, sv_2, sl_i, sl_j, sl_a, sl_v, sp_p, sp_f1, sp_f2, sc_w, sc_c, sc_r, sc_f, sc_a, sc_k, pp_in, pp_al, ↓reduceIte, Nat.reduceEqDiff, Nat.reduceLT, Nat.reduceLeDiff, Nat.reduceAdd, Nat.reduceSub, Nat.reduceMul, List.length_cons, List.length_nil, true_and, and_true, and_self, true_implies, eq_self, not_true_eq_false, not_false_eq_true, false_implies, implies_true, false_and, and_false, Bool.false_eq_true, or_true, true_or, or_false, false_or, Classical.not_not, Nat.le_refl, Nat.lt_irrefl, Bool.true_eq_false, n_lit, n_a, n_c, n_s, n_b, n_m, n_g, n_w, n_n, pp_nw, tk_len, tk_get, wg, ta]
  refine hP _ _ _ (fun c hc => ⟨?_, ?_, ?_⟩) ?_ ?_ ?_ ?_ ⟨?_, ?_, ?_, ?_, ?_, ?_, ?_, ?_, ?_, ?_, ?_, ?_, ?_⟩ ⟨?_, ?_, ?_, ?_, ?_, ?_, ?_, ?_, ?_, ?_, ?_, ?_, ?_, ?_, ?_, ?_, ?_, ?_, ?_⟩ ⟨?_, ?_, ?_, ?_, ?_, ?_, ?_, ?_, ?_, ?_, ?_, ?_, ?_, ?_, ?_, ?_, ?_, ?_, ?_⟩ (cL_cg l3 (fun a x y => ?_) (fun a x y => ?_)) ?_
  all_goals first
    | (simp only [tk_get, wg, n_m, ↓reduceIte, Nat.reduceEqDiff, Nat.reduceLT, Nat.reduceAdd, f3, f2, f1, s3, s2, t1]; done)
    | (simp only [n_m]; (repeat rw [if_neg (by omega)]); done)
    | (try simp only [n_m]
       repeat rw [if_neg (by omega)]
       first | rw [(f3 c (by omega)).1] | rw [(f3 c (by omega)).2.1] | rw [(f3 c (by omega)).2.2]
       try simp only [n_m]
       repeat rw [if_neg (by omega)]
       first | rw [(f2 c (by omega)).1] | rw [(f2 c (by omega)).2.1] | rw [(f2 c (by omega)).2.2]
       try simp only [n_m]
       repeat rw [if_neg (by omega)]
       first | rw [(f1 c (by omega)).1] | rw [(f1 c (by omega)).2.1] | rw [(f1 c (by omega)).2.2]
       try simp only [n_m]
       repeat rw [if_neg (by omega)]
       done)
/-- a new PatentPool -/
theorem k_C (hP : ∀ I' J' R', sC (tk 121) R' → RC A00 (tk 121) I' J' R' → (∀ k, R' 119 k = none) → P (.inl none) (tk 121, I', J', R')) : pp_MW g (h + 5) mi_X8_init [.ref 64] (tk 65, I, J, R) P := by
  refine pp_st0 [(0, .ref 64)] ok_X8_init rfl (Nat.le_of_ble_eq_true rfl) rfl ?_
  refine pp_go rfl sk_X8_init_0 ?_
  simp only [sg_X8_init_0, sw_c, sw_n, sx, sf_4, sv_i, sv_j, sv_r, sv_q1, sv_q0, sv_1i, sv_1r, sv_2, sl_i, sl_j, sl_a, sl_v, sp_p, sp_f1, sp_f2, sc_w, sc_c, sc_r, sc_f, sc_a, sc_k, pp_in, pp_al, ↓reduceIte, Nat.reduceEqDiff, Nat.reduceLT, Nat.reduceLeDiff, Nat.reduceAdd, Nat.reduceSub, Nat.reduceMul, List.length_cons, List.length_nil, true_and, and_true, and_self, true_implies, eq_self, not_true_eq_false, not_false_eq_true, false_implies, implies_true, false_and, and_false, Bool.false_eq_true, or_true, true_or, or_false, false_or, Classical.not_not, Nat.le_refl, Nat.lt_irrefl, Bool.true_eq_false, n_lit, n_a, n_c, n_s, n_b, n_m, n_g, n_w, n_n, pp_nw, tk_len, tk_get, wg, ta]
  refine k_P (fun I1 J1 R1 f1 a0 a1 a2 a3 t1 s1 s2 l2 a4 => ?_)
  simp only [sw_c, sw_n, sx, sf_4, sv_i, sv_j, sv_r, sv_q1, sv_q0, sv_1i, sv_1r, sv_2, sl_i, sl_j, sl_a, sl_v, sp_p, sp_f1, sp_f2, sc_w, sc_c, sc_r, sc_f, sc_a, sc_k, pp_in, pp_al, ↓reduceIte, Nat.reduceEqDiff, Nat.reduceLT, Nat.reduceLeDiff, Nat.reduceAdd, Nat.reduceSub, Nat.reduceMul, List.length_cons, List.length_nil, true_and, and_true, and_self, true_implies, eq_self, not_true_eq_false, not_false_eq_true, false_implies, implies_true, false_and, and_false, Bool.false_eq_true, or_true, true_or, or_false, false_or, Classical.not_not, Nat.le_refl, Nat.lt_irrefl, Bool.true_eq_false, n_lit, n_a, n_c, n_s, n_b, n_m, n_g, n_w, n_n, pp_nw, tk_len, tk_get, wg, ta, f1]
  refine k_T95 (fun I2 J2 R2 f2 t2 c2 => ?_)
  simp only [sw_c, sw_n, sx, sf_4, sv_i, sv_j, sv_r, sv_q1, sv_q0, sv_1i, sv_1r, sv_2, sl_i, sl_j, sl_a, sl_v, sp_p, sp_f1, sp_f2, sc_w, sc_c, sc_r, sc_f, sc_a, sc_k, pp_in, pp_al, ↓reduceIte, Nat.reduceEqDiff, Nat.reduceLT, Nat.reduceLeDiff, Nat.reduceAdd, Nat.reduceSub, Nat.reduceMul, List.length_cons, List.length_nil, true_and, and_true, and_self, true_implies, eq_self, not_true_eq_false, not_false_eq_true, false_implies, implies_true, false_and, and_false, Bool.false_eq_true, or_true, true_or, or_false, false_or, Classical.not_not, Nat.le_refl, Nat.lt_irrefl, Bool.true_eq_false, n_lit, n_a, n_c, n_s, n_b, n_m, n_g, n_w, n_n, pp_nw, tk_len, tk_get, wg, ta, f2]
  refine c_Linit (L := 102) (tk_len (by omega)) (by simp only [tk_get, wg, Nat.reduceLT]) (by simp only [n_m, ↓reduceIte]) (by simp only [n_m, ↓reduceIte]) (fun I3 J3 R3 s3 l3 f3 => ?_)
  rw [tl.2.2] at s3 ⊢
  simp only [sw_c, sw_n, sx, sf_4, sv_i, sv_j, sv_r, sv_q1, sv_q0, sv_1i, sv_1r, sv_2, sl_i, sl_j, sl_a, sl_v, sp_p, sp_f1, sp_f2, sc_w, sc_c, sc_r, sc_f, sc_a, sc_k, pp_in, pp_al, ↓reduceIte, Nat.reduceEqDiff, Nat.reduceLT, Nat.reduceLeDiff, Nat.reduceAdd, Nat.reduceSub, Nat.reduceMul, List.length_cons, List.length_nil, true_and, and_true, and_self, true_implies, eq_self, not_true_eq_false, not_false_eq_true, false_implies, implies_true, false_and, and_false, Bool.false_eq_true, or_true, true_or, or_false, false_or, Classical.not_not, Nat.le_refl, Nat.lt_irrefl, Bool.true_eq_false, n_lit, n_a, n_c, n_s, n_b, n_m, n_g, n_w, n_n, pp_nw, tk_len, tk_get, wg, ta, f3, f2, f1]
  refine k_A ?_
  simp only [sw_c, sw_n, sx, sf_4, sv_i, sv_j, sv_r, sv_q1, sv_q0, sv_1i, sv_1r, sv_2, sl_i, sl_j, sl_a, sl_v, sp_p, sp_f1, sp_f2, sc_w, sc_c, sc_r, sc_f, sc_a, sc_k, pp_in, pp_al, ↓reduceIte, Nat.reduceEqDiff, Nat.reduceLT, Nat.reduceLeDiff, Nat.reduceAdd, Nat.reduceSub, Nat.reduceMul, List.length_cons, List.length_nil, true_and, and_true, and_self, true_implies, eq_self, not_true_eq_false, not_false_eq_true, false_implies, implies_true, false_and, and_false, Bool.false_eq_true, or_true, true_or, or_false, false_or, Classical.not_not, Nat.le_refl, Nat.lt_irrefl, Bool.true_eq_false, n_lit, n_a, n_c, n_s, n_b, n_m, n_g, n_w, n_n, pp_nw, tk_len, tk_get, wg, ta, f3, f2, f1]
  refine k_D (fun I4 J4 R4 f4 d0 d1 d3 d4 => ?_)
  simp only [sw_c, sw_n, sx, sf_4, sv_i, sv_j, sv_r, sv_q1, sv_q0, sv_1i, sv_1r, sv_2, sl_i, sl_j, sl_a, sl_v, sp_p, sp_f1, sp_f2, sc_w, sc_c, sc_r, sc_f, sc_a, sc_k, pp_in, pp_al, ↓reduceIte, Nat.reduceEqDiff, Nat.reduceLT, Nat.reduceLeDiff, Nat.reduceAdd, Nat.reduceSub, Nat.reduceMul, List.length_cons, List.length_nil, true_and, and_true, and_self, true_implies, eq_self, not_true_eq_false, not_false_eq_true, false_implies, implies_true, false_and, and_false, Bool.false_eq_true, or_true, true_or, or_false, false_or, Classical.not_not, Nat.le_refl, Nat.lt_irrefl, Bool.true_eq_false, n_lit, n_a, n_c, n_s, n_b, n_m, n_g, n_w, n_n, pp_nw, tk_len, tk_get, wg, ta]
  refine k_H (fun I5 J5 R5 f5 i1 i2 r0 rn => ?_)
  simp only [sw_c, sw_n, sx, sf_4, sv_i, sv_j, sv_r, sv_q1, sv_q0, sv_1i, sv_1r, sv_2, sl_i, sl_j, sl_a, sl_v, sp_p, sp_f1, sp_f2, sc_w, sc_c, sc_r, sc_f, sc_a, sc_k, pp_in, pp_al, ↓reduceIte, Nat.reduceEqDiff, Nat.reduceLT, Nat.reduceLeDiff, Nat.reduceAdd, Nat.reduceSub, Nat.reduceMul, List.length_cons, List.length_nil, true_and, and_true, and_self, true_implies, eq_self, not_true_eq_false, not_false_eq_true, false_implies, implies_true, false_and, and_false, Bool.false_eq_true, or_true, true_or, or_false, false_or, Classical.not_not, Nat.le_refl, Nat.lt_irrefl, Bool.true_eq_false, n_lit, n_a, n_c, n_s, n_b, n_m, n_g, n_w, n_n, pp_nw, tk_len, tk_get, wg, ta]
  refine hP _ _ _ ⟨⟨?_, ?_, ?_, ?_, ?_, ?_, ?_, ?_, ?_, ?_⟩, ⟨?_, ?_, ?_, ?_, ?_, ?_, ?_⟩, ⟨?_, ?_, ?_, ?_, ?_, ?_, ?_, ?_, ?_, ?_, ?_, ?_, ?_, ?_, ?_, ?_⟩, ⟨?_, ?_, ?_, ?_, ?_, ?_, ?_, ?_, ?_, ?_, ?_, ?_, ?_⟩, ⟨?_, ?_, ?_, ?_, ?_, ?_, ?_, ?_, ?_, ?_, ?_, ?_, ?_⟩, ⟨?_, ?_, ?_, ?_, ?_, ?_, ?_, ?_, ?_, ?_, ?_, ?_, ?_, ?_, ?_, ?_, ?_, ?_, ?_⟩, ⟨?_, ?_, ?_, ?_, ?_, ?_, ?_, ?_, ?_, ?_, ?_, ?_, ?_, ?_, ?_, ?_, ?_, ?_, ?_⟩, ⟨?_, ?_, ?_, ?_, ?_, ?_, ?_, ?_, ?_, ?_, ?_, ?_, ?_, ?_, ?_, ?_, ?_, ?_, ?_⟩⟩ ⟨cL_cg (L := 102) l3 (fun a x y => ?_) (fun a x y => ?_), cT_cg c2 (fun a x y => ?_), fun i hi => ?_, ?_, ?_, ⟨fun k hk L hL => ?_, fun k k' hk hk' ne L L' hL => ?_⟩, ⟨0, by omega, ?_, ?_, by show 0 ≤ 10; omega, fun i hi => absurd hi (Nat.not_lt_zero i)⟩, fun s hs => Or.inl ⟨rfl, ?_⟩, cL_cg (L := 84) l2 (fun a x y => ?_) (fun a x y => ?_)⟩ (fun k => ?_)
  all_goals first
    | (simp only [tk_get, wg, n_m, ↓reduceIte, Nat.reduceEqDiff, Nat.reduceLT, Nat.reduceAdd, f5, f4, f3, f2, f1, s3, s2, s1, t1, t2, a0, a1, a2, a3, a4, d0, d1, d3, d4, i1, i2, r0, rn]; done)
    | (try simp only [n_m]
       repeat rw [if_neg (by omega)]
       first | rw [(f5 a (by omega)).1] | rw [(f5 a (by omega)).2.1] | rw [(f5 a (by omega)).2.2]
       try simp only [n_m]
       repeat rw [if_neg (by omega)]
       first | rw [(f4 a (by omega)).1] | rw [(f4 a (by omega)).2.1] | rw [(f4 a (by omega)).2.2]
       try simp only [n_m]
       repeat rw [if_neg (by omega)]
       done)
    | (try simp only [n_m]
       repeat rw [if_neg (by omega)]
       first | rw [(f5 a (by omega)).1] | rw [(f5 a (by omega)).2.1] | rw [(f5 a (by omega)).2.2]
       try simp only [n_m]
       repeat rw [if_neg (by omega)]
       first | rw [(f4 a (by omega)).1] | rw [(f4 a (by omega)).2.1] | rw [(f4 a (by omega)).2.2]
       try simp only [n_m]
       repeat rw [if_neg (by omega)]
       first | rw [(f3 a (by omega)).1] | rw [(f3 a (by omega)).2.1] | rw [(f3 a (by omega)).2.2]
       try simp only [n_m]
       repeat rw [if_neg (by omega)]
       done)
    | (try simp only [n_m]
       repeat rw [if_neg (by omega)]
       first | rw [(f5 a (by omega)).1] | rw [(f5 a (by omega)).2.1] | rw [(f5 a (by omega)).2.2]
       try simp only [n_m]
       repeat rw [if_neg (by omega)]
       first | rw [(f4 a (by omega)).1] | rw [(f4 a (by omega)).2.1] | rw [(f4 a (by omega)).2.2]
       try simp only [n_m]
       repeat rw [if_neg (by omega)]
       first | rw [(f3 a (by omega)).1] | rw [(f3 a (by omega)).2.1] | rw [(f3 a (by omega)).2.2]
       try simp only [n_m]
       repeat rw [if_neg (by omega)]
       first | rw [(f2 a (by omega)).1] | rw [(f2 a (by omega)).2.1] | rw [(f2 a (by omega)).2.2]
       try simp only [n_m]
       repeat rw [if_neg (by omega)]
       done)
    | (simp only [n_m, ↓reduceIte, Nat.reduceEqDiff, Nat.reduceLT, f5, f4, f3, f2, f1]; rfl)
    | (exfalso; unfold ent at hL; split at hL <;> simp only [n_m, ↓reduceIte, Nat.reduceEqDiff, rn, reduceCtorEq] at hL)
/-- a new PatentPoolModel -/
theorem k_M (z1 : I 121 = fun _ => Int32.ofNat 0) (hP : ∀ I' J' R', fBl 121 I J R I' J' R' → sM (tk 140) R' → RM A00 I' J' → P (.inl none) (tk 140, I', J', R')) : pp_MW g (h + 4) mi_X9_init [.ref 121] (tk 122, I, J, R) P := by
  refine pp_st0 [(0, .ref 121)] ok_X9_init rfl (Nat.le_of_ble_eq_true rfl) rfl ?_
  refine pp_go rfl sk_X9_init_0 ?_
  simp only [sg_X9_init_0, sw_c, sw_n, sx, sf_4, sv_i, sv_j, sv_r, sv_q1, sv_q0, sv_1i, sv_1r, sv_2, sl_i, sl_j, sl_a, sl_v, sp_p, sp_f1, sp_f2, sc_w, sc_c, sc_r, sc_f, sc_a, sc_k, pp_in, pp_al, ↓reduceIte, Nat.reduceEqDiff, Nat.reduceLT, Nat.reduceLeDiff, Nat.reduceAdd, Nat.reduceSub, Nat.reduceMul, List.length_cons, List.length_nil, true_and, and_true, and_self, true_implies, eq_self, not_true_eq_false, not_false_eq_true, false_implies, implies_true, false_and, and_false, Bool.false_eq_true, or_true, true_or, or_false, false_or, Classical.not_not, Nat.le_refl, Nat.lt_irrefl, Bool.true_eq_false, n_lit, n_a, n_c, n_s, n_b, n_m, n_g, n_w, n_n, pp_nw, tk_len, tk_get, wg, ta]
  refine m_clearDraft ?_ (fun I1 c1 d1 m1 => ?_)
  · refine ⟨?_, ?_, ?_, ?_, ?_, ?_, ?_, ?_, ?_, ?_, ?_, ?_, ?_, ?_, ?_, ?_, ?_, ?_, ?_, ?_, ?_, ?_, ?_, ?_, ?_, ?_, ?_, ?_, ?_, ?_, ?_, ?_, ?_, ?_, ?_, ?_, ?_⟩ <;> simp only [tk_get, wg, n_m, ↓reduceIte, Nat.reduceEqDiff, Nat.reduceLT]
  simp only [sw_c, sw_n, sx, sf_4, sv_i, sv_j, sv_r, sv_q1, sv_q0, sv_1i, sv_1r, sv_2, sl_i, sl_j, sl_a, sl_v, sp_p, sp_f1, sp_f2, sc_w, sc_c, sc_r, sc_f, sc_a, sc_k, pp_in, pp_al, ↓reduceIte, Nat.reduceEqDiff, Nat.reduceLT, Nat.reduceLeDiff, Nat.reduceAdd, Nat.reduceSub, Nat.reduceMul, List.length_cons, List.length_nil, true_and, and_true, and_self, true_implies, eq_self, not_true_eq_false, not_false_eq_true, false_implies, implies_true, false_and, and_false, Bool.false_eq_true, or_true, true_or, or_false, false_or, Classical.not_not, Nat.le_refl, Nat.lt_irrefl, Bool.true_eq_false, n_lit, n_a, n_c, n_s, n_b, n_m, n_g, n_w, n_n, pp_nw, tk_len, tk_get, wg, ta]
  refine m_liftsAll ?_ (fun I2 e0 e1 e2 e3 e4 e5 e6 e7 => ?_)
  · refine ⟨?_, ?_, ?_, ?_, ?_, ?_, ?_, ?_, ?_, ?_, ?_, ?_, ?_, ?_, ?_, ?_, ?_, ?_, ?_, ?_, ?_, ?_, ?_, ?_, ?_, ?_, ?_, ?_, ?_, ?_, ?_, ?_, ?_, ?_, ?_, ?_, ?_⟩ <;> simp only [tk_get, wg, n_m, ↓reduceIte, Nat.reduceEqDiff, Nat.reduceLT]
  simp only [sw_c, sw_n, sx, sf_4, sv_i, sv_j, sv_r, sv_q1, sv_q0, sv_1i, sv_1r, sv_2, sl_i, sl_j, sl_a, sl_v, sp_p, sp_f1, sp_f2, sc_w, sc_c, sc_r, sc_f, sc_a, sc_k, pp_in, pp_al, ↓reduceIte, Nat.reduceEqDiff, Nat.reduceLT, Nat.reduceLeDiff, Nat.reduceAdd, Nat.reduceSub, Nat.reduceMul, List.length_cons, List.length_nil, true_and, and_true, and_self, true_implies, eq_self, not_true_eq_false, not_false_eq_true, false_implies, implies_true, false_and, and_false, Bool.false_eq_true, or_true, true_or, or_false, false_or, Classical.not_not, Nat.le_refl, Nat.lt_irrefl, Bool.true_eq_false, n_lit, n_a, n_c, n_s, n_b, n_m, n_g, n_w, n_n, pp_nw, tk_len, tk_get, wg, ta]
  refine m_begins (D := D00) ?_ D00_g (fun i hi => (e1 i hi).trans (d1.1 i hi)) (fun i hi => absurd hi (Nat.not_lt_zero i)) (fun i hi => absurd hi (Nat.not_lt_zero i)) (fun I3 J3 b0 b1 b2 b3 b4 b5 b6 => ?_)
  · refine ⟨?_, ?_, ?_, ?_, ?_, ?_, ?_, ?_, ?_, ?_, ?_, ?_, ?_, ?_, ?_, ?_, ?_, ?_, ?_, ?_, ?_, ?_, ?_, ?_, ?_, ?_, ?_, ?_, ?_, ?_, ?_, ?_, ?_, ?_, ?_, ?_, ?_⟩ <;> simp only [tk_get, wg, n_m, ↓reduceIte, Nat.reduceEqDiff, Nat.reduceLT]
  simp only [sw_c, sw_n, sx, sf_4, sv_i, sv_j, sv_r, sv_q1, sv_q0, sv_1i, sv_1r, sv_2, sl_i, sl_j, sl_a, sl_v, sp_p, sp_f1, sp_f2, sc_w, sc_c, sc_r, sc_f, sc_a, sc_k, pp_in, pp_al, ↓reduceIte, Nat.reduceEqDiff, Nat.reduceLT, Nat.reduceLeDiff, Nat.reduceAdd, Nat.reduceSub, Nat.reduceMul, List.length_cons, List.length_nil, true_and, and_true, and_self, true_implies, eq_self, not_true_eq_false, not_false_eq_true, false_implies, implies_true, false_and, and_false, Bool.false_eq_true, or_true, true_or, or_false, false_or, Classical.not_not, Nat.le_refl, Nat.lt_irrefl, Bool.true_eq_false, n_lit, n_a, n_c, n_s, n_b, n_m, n_g, n_w, n_n, pp_nw, tk_len, tk_get, wg, ta]
  refine hP _ _ _ (fun c hc => ⟨?_, ?_, ?_⟩) ?_ ⟨?_, ⟨fun i hi => ?_, fun i hi => absurd hi (Nat.not_lt_zero i), fun i hi => absurd hi (Nat.not_lt_zero i), ?_, fun i hi => ?_⟩, fun i hi => ?_, ?_, ?_, ⟨b2, by show 0 ≤ 10; omega, fun i hi => absurd hi (Nat.not_lt_zero i)⟩, fun s hs => ⟨?_, fun G hG => by cases hG⟩⟩
  · rw [b0 c (by omega) (by omega), e0 c (by omega), c1.1 c (by omega) (by omega) (by omega)]
    simp only [n_m]
    repeat rw [if_neg (by omega)]
  · rw [b5 c (by omega)]
    simp only [n_m]
    repeat rw [if_neg (by omega)]
  · simp only [n_m]
    repeat rw [if_neg (by omega)]
  · refine ⟨?_, ?_, ?_, ?_, ?_, ?_, ?_, ?_, ?_, ?_, ?_, ?_, ?_, ?_, ?_, ?_, ?_, ?_, ?_, ?_, ?_, ?_, ?_, ?_, ?_, ?_, ?_, ?_, ?_, ?_, ?_, ?_, ?_, ?_, ?_, ?_, ?_⟩ <;> simp only [tk_get, wg, n_m, ↓reduceIte, Nat.reduceEqDiff, Nat.reduceLT]
  · rw [dG_00] at b6
    exact b6
  · rw [b0 123 (by omega) (by omega)]
    exact (e1 i hi).trans (d1.1 i hi)
  · rw [b0 128 (by omega) (by omega)]
    exact e6.trans m1.1
  · rw [b0 129 (by omega) (by omega)]
    have hi : i < 1 := hi
    exact (e7 i (by omega)).trans (m1.2.1 i hi)
  · rw [b0 130 (by omega) (by omega), e0 130 (by omega), c1.1 130 (by omega) (by omega) (by omega)]
    simp only [n_m, ↓reduceIte, Nat.reduceEqDiff]
    rfl
  · rw [b1 10 (by omega), e0 121 (by omega), c1.1 121 (by omega) (by omega) (by omega)]
    simp only [n_m, ↓reduceIte, Nat.reduceEqDiff, z1]
  · rw [b1 17 (by omega), e0 121 (by omega), c1.1 121 (by omega) (by omega) (by omega)]
    simp only [n_m, ↓reduceIte, Nat.reduceEqDiff]
    rfl
  · rcases (show s = 0 ∨ s = 1 by omega) with rfl | rfl
    · exact b3
    · exact b4
end
