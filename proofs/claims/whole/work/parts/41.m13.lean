/-! THE MODEL, 13: reads formulas -/
set_option maxHeartbeats 1000000
set_option maxRecDepth 100000
abbrev fF (I I' : Nat → Nat → Int32) : Prop := (∀ a, a ≠ 121 → a ≠ 128 → a ≠ 129 → I' a = I a) ∧ I' 128 0 = I 128 0 ∧ (∀ i, i < 720 → I' 129 i = I 129 i) ∧ (∀ k, k < 12 ∨ 16 ≤ k → I' 121 k = I 121 k)
theorem fF.trans {I I1 I2 : Nat → Nat → Int32} (a : fF I I1) (b : fF I1 I2) : fF I I2 := ⟨fun i h1 h2 h3 => (b.1 i h1 h2 h3).trans (a.1 i h1 h2 h3), b.2.1.trans a.2.1, fun i h => (b.2.2.1 i h).trans (a.2.2.1 i h), fun i h => (b.2.2.2 i h).trans (a.2.2.2 i h)⟩
theorem fF_A {I I' : Nat → Nat → Int32} (a : fA I I') : fF I I' := ⟨fun i h1 _ _ => a.1 i h1, by rw [a.1 128 (by omega)], fun i _ => by rw [a.1 129 (by omega)], a.2⟩
theorem fF_P {I I' : Nat → Nat → Int32} (a : fF I I') : fP I I' := ⟨fun i h => a.1 i (by omega) (by omega) (by omega), fun i _ => by rw [a.1 123 (by omega) (by omega) (by omega)], fun i _ => by rw [a.1 125 (by omega) (by omega) (by omega)], fun i _ => by rw [a.1 127 (by omega) (by omega) (by omega)], a.2.1, a.2.2.1, fun k h => a.2.2.2 k (by omega)⟩
def pF (sh : List (Nat × Nat)) (I : Nat → Nat → Int32) (J : Nat → Nat → Int64) (R : Nat → Nat → Option Nat) (P : pp_R → pp_W → Prop) (b : Nat → Nat) (n : Nat) (r : PR) : Prop := match r with
  | .inl e => ∀ I', fP I I' → I' 121 16 = Int32.ofNat e.1 → I' 121 17 = Int32.ofNat e.2 → P (.inl (some (.int (Int32.ofNat 0)))) (sh, I', J, R)
  | .inr q => ∀ I', fF I I' → tM I' b n q.1 → cM I' q.2 → P (.inl (some (.int (Int32.ofNat 1)))) (sh, I', J, R)
theorem pF_fr {sh : List (Nat × Nat)} {I I1 : Nat → Nat → Int32} {J : Nat → Nat → Int64} {R : Nat → Nat → Option Nat} {P : pp_R → pp_W → Prop} {b : Nat → Nat} {n : Nat} {r : PR} (hf : fF I I1) (h : pF sh I J R P b n r) : pF sh I1 J R P b n r := by
  cases r with
  | inl e => exact fun I' a b c => h I' (fP.trans (fF_P hf) a) b c
  | inr q => exact fun I' a b c => h I' (fF.trans hf a) b c
def cSum (g : pp_G) (h : Nat) (mi : pp_MI) (b : Nat → Nat) (n : Nat) (F : TK → List Nat → PR) (o : Nat) : Prop := ∀ (sh : List (Nat × Nat)) (I : Nat → Nat → Int32) (J : Nat → Nat → Int64) (R : Nat → Nat → Option Nat) (P : pp_R → pp_W → Prop) (t : TK) (c : List Nat), sM sh R → xM I b n → tM I b n t → I 121 16 = Int32.ofNat 0 → cM I c → I 121 20 = Int32.ofNat o → c.length ≤ t.2.1 → pF sh I J R P b n (F t c) → pp_MW g h mi [.ref 121] (sh, I, J, R) P
section
variable {g : pp_G} {h : Nat} {b : Nat → Nat} {n : Nat}
theorem m_factor {o : Nat} {op : Option (TK → List Nat → PR)} (hop : (o = 5 ∧ op = none) ∨ (o < 5 ∧ ∃ s, op = some s ∧ cSum g (h + 5) mi_X9_sum b n s (o + 1))) : cSum g (h + 6) mi_X9_factor b n (fac b n op) o := by
  intro sh I J R P t c hM hx ht h16 hc h20 hl hP
  refine pp_st0 [(0, .ref 121)] ok_X9_factor rfl (Nat.le_of_ble_eq_true rfl) rfl ?_
  have tb := tk_b ht.1
  have h7 := hx.2.2.1
  unfold fac at hP
  refine pp_go rfl sk_X9_factor_0 ?_
  simp (disch := omega) only [sg_X9_factor_0, sw_c, sw_n, sx, sf_4, sv_i, sv_j, sv_r, sv_q1, sv_q0, sv_1i, sv_1r, sv_2, sl_i, sl_j, sl_a, sl_v, sp_p, sp_f1, sp_f2, sc_w, sc_c, sc_r, sc_f, sc_a, sc_k, pp_in, pp_al, ↓reduceIte, Nat.reduceEqDiff, Nat.reduceLT, Nat.reduceLeDiff, Nat.reduceAdd, Nat.reduceSub, Nat.reduceMul, List.length_cons, List.length_nil, true_and, and_true, and_self, true_implies, eq_self, not_true_eq_false, not_false_eq_true, false_implies, implies_true, false_and, and_false, Bool.false_eq_true, or_true, true_or, or_false, false_or, Classical.not_not, Nat.le_refl, Nat.lt_irrefl, Bool.true_eq_false, n_lit, n_a, n_c, n_s, n_b, n_m, n_g, n_w, n_n, rk_X9_factor, hM]
  refine m_isSignHere hM ht (by omega) ?_
  simp (disch := omega) only [sw_c, sw_n, sx, sf_4, sv_i, sv_j, sv_r, sv_q1, sv_q0, sv_1i, sv_1r, sv_2, sl_i, sl_j, sl_a, sl_v, sp_p, sp_f1, sp_f2, sc_w, sc_c, sc_r, sc_f, sc_a, sc_k, pp_in, pp_al, ↓reduceIte, Nat.reduceEqDiff, Nat.reduceLT, Nat.reduceLeDiff, Nat.reduceAdd, Nat.reduceSub, Nat.reduceMul, List.length_cons, List.length_nil, true_and, and_true, and_self, true_implies, eq_self, not_true_eq_false, not_false_eq_true, false_implies, implies_true, false_and, and_false, Bool.false_eq_true, or_true, true_or, or_false, false_or, Classical.not_not, Nat.le_refl, Nat.lt_irrefl, Bool.true_eq_false, n_lit, n_a, n_c, n_s, n_b, n_m, n_g, n_w, n_n, rk_X9_factor, hM, h20]
  refine ⟨fun q => ?_, fun q => ?_⟩
  · rw [if_neg q] at hP
    have K0 : pF sh I J R P b n (.inl (1, t.2.1)) → pp_N g (h + 5) mi_X9_factor P 134 [(0, .ref 121)] [.int (Int32.ofNat 0)] (sh, I, J, R) := by
      intro hP
      refine pp_go rfl sk_X9_factor_134 ?_
      simp (disch := omega) only [sg_X9_factor_134, sw_c, sw_n, sx, sf_4, sv_i, sv_j, sv_r, sv_q1, sv_q0, sv_1i, sv_1r, sv_2, sl_i, sl_j, sl_a, sl_v, sp_p, sp_f1, sp_f2, sc_w, sc_c, sc_r, sc_f, sc_a, sc_k, pp_in, pp_al, ↓reduceIte, Nat.reduceEqDiff, Nat.reduceLT, Nat.reduceLeDiff, Nat.reduceAdd, Nat.reduceSub, Nat.reduceMul, List.length_cons, List.length_nil, true_and, and_true, and_self, true_implies, eq_self, not_true_eq_false, not_false_eq_true, false_implies, implies_true, false_and, and_false, Bool.false_eq_true, or_true, true_or, or_false, false_or, Classical.not_not, Nat.le_refl, Nat.lt_irrefl, Bool.true_eq_false, n_lit, n_a, n_c, n_s, n_b, n_m, n_g, n_w, n_n, rk_X9_factor, hM]
      refine m_fails (t := t) hM ht.2.2.1 h16 (fun I' a1 a2 a3 => ?_)
      simp (disch := omega) only [sw_c, sw_n, sx, sf_4, sv_i, sv_j, sv_r, sv_q1, sv_q0, sv_1i, sv_1r, sv_2, sl_i, sl_j, sl_a, sl_v, sp_p, sp_f1, sp_f2, sc_w, sc_c, sc_r, sc_f, sc_a, sc_k, pp_in, pp_al, ↓reduceIte, Nat.reduceEqDiff, Nat.reduceLT, Nat.reduceLeDiff, Nat.reduceAdd, Nat.reduceSub, Nat.reduceMul, List.length_cons, List.length_nil, true_and, and_true, and_self, true_implies, eq_self, not_true_eq_false, not_false_eq_true, false_implies, implies_true, false_and, and_false, Bool.false_eq_true, or_true, true_or, or_false, false_or, Classical.not_not, Nat.le_refl, Nat.lt_irrefl, Bool.true_eq_false, n_lit, n_a, n_c, n_s, n_b, n_m, n_g, n_w, n_n, rk_X9_factor]
      exact hP I' a1 a2 a3
    have K1 : ∀ e, 0 < e → e < 20000 → ¬ (4 ≤ e ∧ e ≤ 7) → t.1 ≠ 0 → pF sh I J R P b n (.inr (nxt b n t, c ++ [e])) → pp_N g (h + 5) mi_X9_factor P 134 [(0, .ref 121)] [.int (Int32.ofNat e)] (sh, I, J, R) := by
      intro e e0 e1 e2 t0 hP
      have t1 := tb.2.2.1 t0
      have q1 : ¬ e = 0 := by omega
      refine pp_go rfl sk_X9_factor_134 ?_
      simp (disch := omega) only [sg_X9_factor_134, sw_c, sw_n, sx, sf_4, sv_i, sv_j, sv_r, sv_q1, sv_q0, sv_1i, sv_1r, sv_2, sl_i, sl_j, sl_a, sl_v, sp_p, sp_f1, sp_f2, sc_w, sc_c, sc_r, sc_f, sc_a, sc_k, pp_in, pp_al, ↓reduceIte, Nat.reduceEqDiff, Nat.reduceLT, Nat.reduceLeDiff, Nat.reduceAdd, Nat.reduceSub, Nat.reduceMul, List.length_cons, List.length_nil, true_and, and_true, and_self, true_implies, eq_self, not_true_eq_false, not_false_eq_true, false_implies, implies_true, false_and, and_false, Bool.false_eq_true, or_true, true_or, or_false, false_or, Classical.not_not, Nat.le_refl, Nat.lt_irrefl, Bool.true_eq_false, n_lit, n_a, n_c, n_s, n_b, n_m, n_g, n_w, n_n, rk_X9_factor, hM, q1]
      refine pp_go rfl sk_X9_factor_145 ?_
      simp (disch := omega) only [sg_X9_factor_145, sw_c, sw_n, sx, sf_4, sv_i, sv_j, sv_r, sv_q1, sv_q0, sv_1i, sv_1r, sv_2, sl_i, sl_j, sl_a, sl_v, sp_p, sp_f1, sp_f2, sc_w, sc_c, sc_r, sc_f, sc_a, sc_k, pp_in, pp_al, ↓reduceIte, Nat.reduceEqDiff, Nat.reduceLT, Nat.reduceLeDiff, Nat.reduceAdd, Nat.reduceSub, Nat.reduceMul, List.length_cons, List.length_nil, true_and, and_true, and_self, true_implies, eq_self, not_true_eq_false, not_false_eq_true, false_implies, implies_true, false_and, and_false, Bool.false_eq_true, or_true, true_or, or_false, false_or, Classical.not_not, Nat.le_refl, Nat.lt_irrefl, Bool.true_eq_false, n_lit, n_a, n_c, n_s, n_b, n_m, n_g, n_w, n_n, rk_X9_factor, hM]
      refine m_adv hM hx tb.2.1 ht.2.2.2.1 (fun I' hf ht' => ?_)
      simp (disch := omega) only [sw_c, sw_n, sx, sf_4, sv_i, sv_j, sv_r, sv_q1, sv_q0, sv_1i, sv_1r, sv_2, sl_i, sl_j, sl_a, sl_v, sp_p, sp_f1, sp_f2, sc_w, sc_c, sc_r, sc_f, sc_a, sc_k, pp_in, pp_al, ↓reduceIte, Nat.reduceEqDiff, Nat.reduceLT, Nat.reduceLeDiff, Nat.reduceAdd, Nat.reduceSub, Nat.reduceMul, List.length_cons, List.length_nil, true_and, and_true, and_self, true_implies, eq_self, not_true_eq_false, not_false_eq_true, false_implies, implies_true, false_and, and_false, Bool.false_eq_true, or_true, true_or, or_false, false_or, Classical.not_not, Nat.le_refl, Nat.lt_irrefl, Bool.true_eq_false, n_lit, n_a, n_c, n_s, n_b, n_m, n_g, n_w, n_n, rk_X9_factor, hM]
      refine m_emit (c := c) (e := e) hM (cM_cg hc (hf.1 _ (by omega)) (hf.1 _ (by omega))) (by omega) (encM_no e2).symm (fun I2 a1 a2 a3 a4 => ?_)
      simp (disch := omega) only [sw_c, sw_n, sx, sf_4, sv_i, sv_j, sv_r, sv_q1, sv_q0, sv_1i, sv_1r, sv_2, sl_i, sl_j, sl_a, sl_v, sp_p, sp_f1, sp_f2, sc_w, sc_c, sc_r, sc_f, sc_a, sc_k, pp_in, pp_al, ↓reduceIte, Nat.reduceEqDiff, Nat.reduceLT, Nat.reduceLeDiff, Nat.reduceAdd, Nat.reduceSub, Nat.reduceMul, List.length_cons, List.length_nil, true_and, and_true, and_self, true_implies, eq_self, not_true_eq_false, not_false_eq_true, false_implies, implies_true, false_and, and_false, Bool.false_eq_true, or_true, true_or, or_false, false_or, Classical.not_not, Nat.le_refl, Nat.lt_irrefl, Bool.true_eq_false, n_lit, n_a, n_c, n_s, n_b, n_m, n_g, n_w, n_n, rk_X9_factor]
      have hf2 : fF I' I2 := ⟨fun a _ x2 x3 => a1 a x2 x3, a2, a3, fun k _ => by rw [a1 121 (by omega) (by omega)]⟩
      refine hP I2 (fF.trans (fF_A hf) hf2) ?_ a4
      have ht' : tM I' b n (nxt b n t) := ht'
      simpa only [tM, a1 121 (by omega) (by omega)] using ht'
    by_cases q2 : t.1 = 2
    · rw [if_pos q2] at hP
      have e15 := ht.2.2.2.2 (Or.inl q2)
      have hv := tb.2.2.2.2.2.1 q2
      refine pp_go rfl sk_X9_factor_76 ?_
      simp (disch := omega) only [sg_X9_factor_76, sw_c, sw_n, sx, sf_4, sv_i, sv_j, sv_r, sv_q1, sv_q0, sv_1i, sv_1r, sv_2, sl_i, sl_j, sl_a, sl_v, sp_p, sp_f1, sp_f2, sc_w, sc_c, sc_r, sc_f, sc_a, sc_k, pp_in, pp_al, ↓reduceIte, Nat.reduceEqDiff, Nat.reduceLT, Nat.reduceLeDiff, Nat.reduceAdd, Nat.reduceSub, Nat.reduceMul, List.length_cons, List.length_nil, true_and, and_true, and_self, true_implies, eq_self, not_true_eq_false, not_false_eq_true, false_implies, implies_true, false_and, and_false, Bool.false_eq_true, or_true, true_or, or_false, false_or, Classical.not_not, Nat.le_refl, Nat.lt_irrefl, Bool.true_eq_false, n_lit, n_a, n_c, n_s, n_b, n_m, n_g, n_w, n_n, rk_X9_factor, hM, ht.2.1, e15, q2]
      exact K1 _ (by omega) (by omega) (by omega) (by omega) hP
    · rw [if_neg q2] at hP
      have t4 := tb.2.2.2.2.1
      refine pp_go rfl sk_X9_factor_76 ?_
      simp (disch := omega) only [sg_X9_factor_76, sw_c, sw_n, sx, sf_4, sv_i, sv_j, sv_r, sv_q1, sv_q0, sv_1i, sv_1r, sv_2, sl_i, sl_j, sl_a, sl_v, sp_p, sp_f1, sp_f2, sc_w, sc_c, sc_r, sc_f, sc_a, sc_k, pp_in, pp_al, ↓reduceIte, Nat.reduceEqDiff, Nat.reduceLT, Nat.reduceLeDiff, Nat.reduceAdd, Nat.reduceSub, Nat.reduceMul, List.length_cons, List.length_nil, true_and, and_true, and_self, true_implies, eq_self, not_true_eq_false, not_false_eq_true, false_implies, implies_true, false_and, and_false, Bool.false_eq_true, or_true, true_or, or_false, false_or, Classical.not_not, Nat.le_refl, Nat.lt_irrefl, Bool.true_eq_false, n_lit, n_a, n_c, n_s, n_b, n_m, n_g, n_w, n_n, rk_X9_factor, hM, ht.2.1, q2]
      refine pp_go rfl sk_X9_factor_94 ?_
      simp (disch := omega) only [sg_X9_factor_94, sw_c, sw_n, sx, sf_4, sv_i, sv_j, sv_r, sv_q1, sv_q0, sv_1i, sv_1r, sv_2, sl_i, sl_j, sl_a, sl_v, sp_p, sp_f1, sp_f2, sc_w, sc_c, sc_r, sc_f, sc_a, sc_k, pp_in, pp_al, ↓reduceIte, Nat.reduceEqDiff, Nat.reduceLT, Nat.reduceLeDiff, Nat.reduceAdd, Nat.reduceSub, Nat.reduceMul, List.length_cons, List.length_nil, true_and, and_true, and_self, true_implies, eq_self, not_true_eq_false, not_false_eq_true, false_implies, implies_true, false_and, and_false, Bool.false_eq_true, or_true, true_or, or_false, false_or, Classical.not_not, Nat.le_refl, Nat.lt_irrefl, Bool.true_eq_false, n_lit, n_a, n_c, n_s, n_b, n_m, n_g, n_w, n_n, rk_X9_factor, hM]
      refine m_isWord (i := 12) hM hx ht (by omega) ?_
      simp (disch := omega) only [sw_c, sw_n, sx, sf_4, sv_i, sv_j, sv_r, sv_q1, sv_q0, sv_1i, sv_1r, sv_2, sl_i, sl_j, sl_a, sl_v, sp_p, sp_f1, sp_f2, sc_w, sc_c, sc_r, sc_f, sc_a, sc_k, pp_in, pp_al, ↓reduceIte, Nat.reduceEqDiff, Nat.reduceLT, Nat.reduceLeDiff, Nat.reduceAdd, Nat.reduceSub, Nat.reduceMul, List.length_cons, List.length_nil, true_and, and_true, and_self, true_implies, eq_self, not_true_eq_false, not_false_eq_true, false_implies, implies_true, false_and, and_false, Bool.false_eq_true, or_true, true_or, or_false, false_or, Classical.not_not, Nat.le_refl, Nat.lt_irrefl, Bool.true_eq_false, n_lit, n_a, n_c, n_s, n_b, n_m, n_g, n_w, n_n, rk_X9_factor, hM]
      refine ⟨fun w1 => ?_, fun w1 => ?_⟩
      · rw [if_neg w1] at hP
        refine pp_go rfl sk_X9_factor_107 ?_
        simp (disch := omega) only [sg_X9_factor_107, sw_c, sw_n, sx, sf_4, sv_i, sv_j, sv_r, sv_q1, sv_q0, sv_1i, sv_1r, sv_2, sl_i, sl_j, sl_a, sl_v, sp_p, sp_f1, sp_f2, sc_w, sc_c, sc_r, sc_f, sc_a, sc_k, pp_in, pp_al, ↓reduceIte, Nat.reduceEqDiff, Nat.reduceLT, Nat.reduceLeDiff, Nat.reduceAdd, Nat.reduceSub, Nat.reduceMul, List.length_cons, List.length_nil, true_and, and_true, and_self, true_implies, eq_self, not_true_eq_false, not_false_eq_true, false_implies, implies_true, false_and, and_false, Bool.false_eq_true, or_true, true_or, or_false, false_or, Classical.not_not, Nat.le_refl, Nat.lt_irrefl, Bool.true_eq_false, n_lit, n_a, n_c, n_s, n_b, n_m, n_g, n_w, n_n, rk_X9_factor, hM]
        refine m_isWord (i := 13) hM hx ht (by omega) ?_
        simp (disch := omega) only [sw_c, sw_n, sx, sf_4, sv_i, sv_j, sv_r, sv_q1, sv_q0, sv_1i, sv_1r, sv_2, sl_i, sl_j, sl_a, sl_v, sp_p, sp_f1, sp_f2, sc_w, sc_c, sc_r, sc_f, sc_a, sc_k, pp_in, pp_al, ↓reduceIte, Nat.reduceEqDiff, Nat.reduceLT, Nat.reduceLeDiff, Nat.reduceAdd, Nat.reduceSub, Nat.reduceMul, List.length_cons, List.length_nil, true_and, and_true, and_self, true_implies, eq_self, not_true_eq_false, not_false_eq_true, false_implies, implies_true, false_and, and_false, Bool.false_eq_true, or_true, true_or, or_false, false_or, Classical.not_not, Nat.le_refl, Nat.lt_irrefl, Bool.true_eq_false, n_lit, n_a, n_c, n_s, n_b, n_m, n_g, n_w, n_n, rk_X9_factor, hM]
        refine ⟨fun w2 => ?_, fun w2 => ?_⟩
        · rw [if_neg w2] at hP
          refine pp_go rfl sk_X9_factor_120 ?_
          simp (disch := omega) only [sg_X9_factor_120, sw_c, sw_n, sx, sf_4, sv_i, sv_j, sv_r, sv_q1, sv_q0, sv_1i, sv_1r, sv_2, sl_i, sl_j, sl_a, sl_v, sp_p, sp_f1, sp_f2, sc_w, sc_c, sc_r, sc_f, sc_a, sc_k, pp_in, pp_al, ↓reduceIte, Nat.reduceEqDiff, Nat.reduceLT, Nat.reduceLeDiff, Nat.reduceAdd, Nat.reduceSub, Nat.reduceMul, List.length_cons, List.length_nil, true_and, and_true, and_self, true_implies, eq_self, not_true_eq_false, not_false_eq_true, false_implies, implies_true, false_and, and_false, Bool.false_eq_true, or_true, true_or, or_false, false_or, Classical.not_not, Nat.le_refl, Nat.lt_irrefl, Bool.true_eq_false, n_lit, n_a, n_c, n_s, n_b, n_m, n_g, n_w, n_n, rk_X9_factor, hM]
          refine m_isWord (i := 14) hM hx ht (by omega) ?_
          simp (disch := omega) only [sw_c, sw_n, sx, sf_4, sv_i, sv_j, sv_r, sv_q1, sv_q0, sv_1i, sv_1r, sv_2, sl_i, sl_j, sl_a, sl_v, sp_p, sp_f1, sp_f2, sc_w, sc_c, sc_r, sc_f, sc_a, sc_k, pp_in, pp_al, ↓reduceIte, Nat.reduceEqDiff, Nat.reduceLT, Nat.reduceLeDiff, Nat.reduceAdd, Nat.reduceSub, Nat.reduceMul, List.length_cons, List.length_nil, true_and, and_true, and_self, true_implies, eq_self, not_true_eq_false, not_false_eq_true, false_implies, implies_true, false_and, and_false, Bool.false_eq_true, or_true, true_or, or_false, false_or, Classical.not_not, Nat.le_refl, Nat.lt_irrefl, Bool.true_eq_false, n_lit, n_a, n_c, n_s, n_b, n_m, n_g, n_w, n_n, rk_X9_factor, hM]
          refine ⟨fun w3 => ?_, fun w3 => ?_⟩
          · rw [if_neg w3] at hP
            refine pp_go rfl sk_X9_factor_133 ?_
            simp (disch := omega) only [sg_X9_factor_133, sw_c, sw_n, sx, sf_4, sv_i, sv_j, sv_r, sv_q1, sv_q0, sv_1i, sv_1r, sv_2, sl_i, sl_j, sl_a, sl_v, sp_p, sp_f1, sp_f2, sc_w, sc_c, sc_r, sc_f, sc_a, sc_k, pp_in, pp_al, ↓reduceIte, Nat.reduceEqDiff, Nat.reduceLT, Nat.reduceLeDiff, Nat.reduceAdd, Nat.reduceSub, Nat.reduceMul, List.length_cons, List.length_nil, true_and, and_true, and_self, true_implies, eq_self, not_true_eq_false, not_false_eq_true, false_implies, implies_true, false_and, and_false, Bool.false_eq_true, or_true, true_or, or_false, false_or, Classical.not_not, Nat.le_refl, Nat.lt_irrefl, Bool.true_eq_false, n_lit, n_a, n_c, n_s, n_b, n_m, n_g, n_w, n_n, rk_X9_factor]
            exact K0 hP
          · rw [if_pos w3] at hP
            exact K1 _ (by omega) (by omega) (by omega) (by have := isw_1 w3; omega) hP
        · rw [if_pos w2] at hP
          exact K1 _ (by omega) (by omega) (by omega) (by have := isw_1 w2; omega) hP
      · rw [if_pos w1] at hP
        exact K1 _ (by omega) (by omega) (by omega) (by have := isw_1 w1; omega) hP
  · rw [if_pos q] at hP
    rcases hop with ⟨ho, rfl⟩ | ⟨ho, s, rfl, hs⟩
    · refine ⟨fun q2 => ?_, fun q2 => absurd (show 5 ≤ o by omega) q2⟩
      refine pp_go rfl sk_X9_factor_23 ?_
      simp (disch := omega) only [sg_X9_factor_23, sw_c, sw_n, sx, sf_4, sv_i, sv_j, sv_r, sv_q1, sv_q0, sv_1i, sv_1r, sv_2, sl_i, sl_j, sl_a, sl_v, sp_p, sp_f1, sp_f2, sc_w, sc_c, sc_r, sc_f, sc_a, sc_k, pp_in, pp_al, ↓reduceIte, Nat.reduceEqDiff, Nat.reduceLT, Nat.reduceLeDiff, Nat.reduceAdd, Nat.reduceSub, Nat.reduceMul, List.length_cons, List.length_nil, true_and, and_true, and_self, true_implies, eq_self, not_true_eq_false, not_false_eq_true, false_implies, implies_true, false_and, and_false, Bool.false_eq_true, or_true, true_or, or_false, false_or, Classical.not_not, Nat.le_refl, Nat.lt_irrefl, Bool.true_eq_false, n_lit, n_a, n_c, n_s, n_b, n_m, n_g, n_w, n_n, rk_X9_factor]
      refine pp_go rfl sk_X9_factor_24 ?_
      simp (disch := omega) only [sg_X9_factor_24, sw_c, sw_n, sx, sf_4, sv_i, sv_j, sv_r, sv_q1, sv_q0, sv_1i, sv_1r, sv_2, sl_i, sl_j, sl_a, sl_v, sp_p, sp_f1, sp_f2, sc_w, sc_c, sc_r, sc_f, sc_a, sc_k, pp_in, pp_al, ↓reduceIte, Nat.reduceEqDiff, Nat.reduceLT, Nat.reduceLeDiff, Nat.reduceAdd, Nat.reduceSub, Nat.reduceMul, List.length_cons, List.length_nil, true_and, and_true, and_self, true_implies, eq_self, not_true_eq_false, not_false_eq_true, false_implies, implies_true, false_and, and_false, Bool.false_eq_true, or_true, true_or, or_false, false_or, Classical.not_not, Nat.le_refl, Nat.lt_irrefl, Bool.true_eq_false, n_lit, n_a, n_c, n_s, n_b, n_m, n_g, n_w, n_n, rk_X9_factor, hM]
      refine m_starts0 hM ht h16 (fun I' a1 a2 a3 => ?_)
      simp (disch := omega) only [sw_c, sw_n, sx, sf_4, sv_i, sv_j, sv_r, sv_q1, sv_q0, sv_1i, sv_1r, sv_2, sl_i, sl_j, sl_a, sl_v, sp_p, sp_f1, sp_f2, sc_w, sc_c, sc_r, sc_f, sc_a, sc_k, pp_in, pp_al, ↓reduceIte, Nat.reduceEqDiff, Nat.reduceLT, Nat.reduceLeDiff, Nat.reduceAdd, Nat.reduceSub, Nat.reduceMul, List.length_cons, List.length_nil, true_and, and_true, and_self, true_implies, eq_self, not_true_eq_false, not_false_eq_true, false_implies, implies_true, false_and, and_false, Bool.false_eq_true, or_true, true_or, or_false, false_or, Classical.not_not, Nat.le_refl, Nat.lt_irrefl, Bool.true_eq_false, n_lit, n_a, n_c, n_s, n_b, n_m, n_g, n_w, n_n, rk_X9_factor]
      exact hP I' a1 a2 a3
    · refine ⟨fun q2 => absurd q2 (by omega), fun q2 => ?_⟩
      refine pp_go rfl sk_X9_factor_24 ?_
      simp (disch := omega) only [sg_X9_factor_24, sw_c, sw_n, sx, sf_4, sv_i, sv_j, sv_r, sv_q1, sv_q0, sv_1i, sv_1r, sv_2, sl_i, sl_j, sl_a, sl_v, sp_p, sp_f1, sp_f2, sc_w, sc_c, sc_r, sc_f, sc_a, sc_k, pp_in, pp_al, ↓reduceIte, Nat.reduceEqDiff, Nat.reduceLT, Nat.reduceLeDiff, Nat.reduceAdd, Nat.reduceSub, Nat.reduceMul, List.length_cons, List.length_nil, true_and, and_true, and_self, true_implies, eq_self, not_true_eq_false, not_false_eq_true, false_implies, implies_true, false_and, and_false, Bool.false_eq_true, or_true, true_or, or_false, false_or, Classical.not_not, Nat.le_refl, Nat.lt_irrefl, Bool.true_eq_false, n_lit, n_a, n_c, n_s, n_b, n_m, n_g, n_w, n_n, rk_X9_factor, hM]
      refine m_starts1 hM hx ht (fun I1 hf ht1 => ?_)
      have e20 : I1 121 20 = Int32.ofNat o := (hf.2 20 (by omega)).trans h20
      have t1 := tb.2.2.1 (by rw [q.1]; omega)
      have nb := (nxt_ok ht.1).2
      simp (disch := omega) only [sw_c, sw_n, sx, sf_4, sv_i, sv_j, sv_r, sv_q1, sv_q0, sv_1i, sv_1r, sv_2, sl_i, sl_j, sl_a, sl_v, sp_p, sp_f1, sp_f2, sc_w, sc_c, sc_r, sc_f, sc_a, sc_k, pp_in, pp_al, ↓reduceIte, Nat.reduceEqDiff, Nat.reduceLT, Nat.reduceLeDiff, Nat.reduceAdd, Nat.reduceSub, Nat.reduceMul, List.length_cons, List.length_nil, true_and, and_true, and_self, true_implies, eq_self, not_true_eq_false, not_false_eq_true, false_implies, implies_true, false_and, and_false, Bool.false_eq_true, or_true, true_or, or_false, false_or, Classical.not_not, Nat.le_refl, Nat.lt_irrefl, Bool.true_eq_false, n_lit, n_a, n_c, n_s, n_b, n_m, n_g, n_w, n_n, rk_X9_factor]
      refine pp_go rfl sk_X9_factor_32 ?_
      simp (disch := omega) only [sg_X9_factor_32, sw_c, sw_n, sx, sf_4, sv_i, sv_j, sv_r, sv_q1, sv_q0, sv_1i, sv_1r, sv_2, sl_i, sl_j, sl_a, sl_v, sp_p, sp_f1, sp_f2, sc_w, sc_c, sc_r, sc_f, sc_a, sc_k, pp_in, pp_al, ↓reduceIte, Nat.reduceEqDiff, Nat.reduceLT, Nat.reduceLeDiff, Nat.reduceAdd, Nat.reduceSub, Nat.reduceMul, List.length_cons, List.length_nil, true_and, and_true, and_self, true_implies, eq_self, not_true_eq_false, not_false_eq_true, false_implies, implies_true, false_and, and_false, Bool.false_eq_true, or_true, true_or, or_false, false_or, Classical.not_not, Nat.le_refl, Nat.lt_irrefl, Bool.true_eq_false, n_lit, n_a, n_c, n_s, n_b, n_m, n_g, n_w, n_n, rk_X9_factor, hM, e20]
      have e121 : ∀ k, k ≠ 20 → pp_s I1 121 (va_up (I1 121) 20 (Int32.ofNat (o + 1))) 121 k = I1 121 k := fun k hk => by simp only [n_m, ↓reduceIte]; rw [if_neg hk]
      refine hs _ _ _ _ _ (nxt b n t) c hM (xM_fr hx ((e121 11 (by omega)).trans (hf.2 11 (by omega))) (hf.1 130 (by omega))) ?_ ((e121 16 (by omega)).trans ((hf.2 16 (by omega)).trans h16)) (cM_cg hc (hf.1 128 (by omega)) (hf.1 129 (by omega))) (by simp only [n_m, ↓reduceIte]) (by omega) ?_
      · simpa only [tM, e121 14 (by omega), e121 12 (by omega), e121 13 (by omega), e121 15 (by omega)] using ht1
      · simp only [] at hP
        have hz : ∀ {I2 : Nat → Nat → Int32}, fP (pp_s I1 121 (va_up (I1 121) 20 (Int32.ofNat (o + 1)))) I2 → fP I I2 := fun a => fP.trans (fP.trans (fF_P (fF_A hf)) (fP_1 (fun a ha => pp_s_ne _ _ ha) (fun k hk => e121 k (by omega)))) a
        have K62 : ∀ (I2 : Nat → Nat → Int32) (e : ER), fP (pp_s I1 121 (va_up (I1 121) 20 (Int32.ofNat (o + 1)))) I2 → I2 121 16 = Int32.ofNat e.1 → I2 121 17 = Int32.ofNat e.2 → pF sh I J R P b n (.inl e) → pp_N g (h + 5) mi_X9_factor P 62 [(0, .ref 121)] [] (sh, I2, J, R) := by
          intro I2 e a1 a2 a3 hP
          refine pp_go rfl sk_X9_factor_62 ?_
          simp (disch := omega) only [sg_X9_factor_62, sw_c, sw_n, sx, sf_4, sv_i, sv_j, sv_r, sv_q1, sv_q0, sv_1i, sv_1r, sv_2, sl_i, sl_j, sl_a, sl_v, sp_p, sp_f1, sp_f2, sc_w, sc_c, sc_r, sc_f, sc_a, sc_k, pp_in, pp_al, ↓reduceIte, Nat.reduceEqDiff, Nat.reduceLT, Nat.reduceLeDiff, Nat.reduceAdd, Nat.reduceSub, Nat.reduceMul, List.length_cons, List.length_nil, true_and, and_true, and_self, true_implies, eq_self, not_true_eq_false, not_false_eq_true, false_implies, implies_true, false_and, and_false, Bool.false_eq_true, or_true, true_or, or_false, false_or, Classical.not_not, Nat.le_refl, Nat.lt_irrefl, Bool.true_eq_false, n_lit, n_a, n_c, n_s, n_b, n_m, n_g, n_w, n_n, rk_X9_factor]
          refine pp_go rfl sk_X9_factor_63 ?_
          simp (disch := omega) only [sg_X9_factor_63, sw_c, sw_n, sx, sf_4, sv_i, sv_j, sv_r, sv_q1, sv_q0, sv_1i, sv_1r, sv_2, sl_i, sl_j, sl_a, sl_v, sp_p, sp_f1, sp_f2, sc_w, sc_c, sc_r, sc_f, sc_a, sc_k, pp_in, pp_al, ↓reduceIte, Nat.reduceEqDiff, Nat.reduceLT, Nat.reduceLeDiff, Nat.reduceAdd, Nat.reduceSub, Nat.reduceMul, List.length_cons, List.length_nil, true_and, and_true, and_self, true_implies, eq_self, not_true_eq_false, not_false_eq_true, false_implies, implies_true, false_and, and_false, Bool.false_eq_true, or_true, true_or, or_false, false_or, Classical.not_not, Nat.le_refl, Nat.lt_irrefl, Bool.true_eq_false, n_lit, n_a, n_c, n_s, n_b, n_m, n_g, n_w, n_n, rk_X9_factor, hM]
          refine hP _ (fP.trans (hz a1) (fP_1 (fun a ha => pp_s_ne _ _ ha) (fun k hk => ?_))) ?_ ?_
          · simp only [n_m, ↓reduceIte]; rw [if_neg (by omega)]
          · simp only [n_m, ↓reduceIte, Nat.reduceEqDiff]; exact a2
          · simp only [n_m, ↓reduceIte, Nat.reduceEqDiff]; exact a3
        cases hr : s (nxt b n t) c with
        | inl e =>
          rw [hr] at hP
          intro I2 a1 a2 a3
          simp (disch := omega) only [sw_c, sw_n, sx, sf_4, sv_i, sv_j, sv_r, sv_q1, sv_q0, sv_1i, sv_1r, sv_2, sl_i, sl_j, sl_a, sl_v, sp_p, sp_f1, sp_f2, sc_w, sc_c, sc_r, sc_f, sc_a, sc_k, pp_in, pp_al, ↓reduceIte, Nat.reduceEqDiff, Nat.reduceLT, Nat.reduceLeDiff, Nat.reduceAdd, Nat.reduceSub, Nat.reduceMul, List.length_cons, List.length_nil, true_and, and_true, and_self, true_implies, eq_self, not_true_eq_false, not_false_eq_true, false_implies, implies_true, false_and, and_false, Bool.false_eq_true, or_true, true_or, or_false, false_or, Classical.not_not, Nat.le_refl, Nat.lt_irrefl, Bool.true_eq_false, n_lit, n_a, n_c, n_s, n_b, n_m, n_g, n_w, n_n, rk_X9_factor]
          exact K62 I2 e a1 a2 a3 hP
        | inr r =>
          obtain ⟨t2, c2⟩ := r
          rw [hr] at hP
          intro I2 a1 a2 a3
          simp only [] at hP
          have f16 : I2 121 16 = Int32.ofNat 0 := (a1.2.2.2 16 (by omega)).trans ((e121 16 (by omega)).trans ((hf.2 16 (by omega)).trans h16))
          have x2 : xM I2 b n := xM_fr hx ((a1.2.2.2 11 (by omega)).trans ((e121 11 (by omega)).trans (hf.2 11 (by omega)))) ((a1.1 130 (by omega) (by omega) (by omega)).trans (hf.1 130 (by omega)))
          have f20 : I2 121 20 = Int32.ofNat (o + 1) := (a1.2.2.2 20 (by omega)).trans (by simp only [n_m, ↓reduceIte])
          simp (disch := omega) only [sw_c, sw_n, sx, sf_4, sv_i, sv_j, sv_r, sv_q1, sv_q0, sv_1i, sv_1r, sv_2, sl_i, sl_j, sl_a, sl_v, sp_p, sp_f1, sp_f2, sc_w, sc_c, sc_r, sc_f, sc_a, sc_k, pp_in, pp_al, ↓reduceIte, Nat.reduceEqDiff, Nat.reduceLT, Nat.reduceLeDiff, Nat.reduceAdd, Nat.reduceSub, Nat.reduceMul, List.length_cons, List.length_nil, true_and, and_true, and_self, true_implies, eq_self, not_true_eq_false, not_false_eq_true, false_implies, implies_true, false_and, and_false, Bool.false_eq_true, or_true, true_or, or_false, false_or, Classical.not_not, Nat.le_refl, Nat.lt_irrefl, Bool.true_eq_false, n_lit, n_a, n_c, n_s, n_b, n_m, n_g, n_w, n_n, rk_X9_factor, hM]
          refine m_closes hM x2 a2 f16 (by omega) (fun q3 I3 b1 b2 b3 => ?_) (fun q3 I3 b1 b2 => ?_)
          · rw [if_neg q3] at hP
            simp (disch := omega) only [sw_c, sw_n, sx, sf_4, sv_i, sv_j, sv_r, sv_q1, sv_q0, sv_1i, sv_1r, sv_2, sl_i, sl_j, sl_a, sl_v, sp_p, sp_f1, sp_f2, sc_w, sc_c, sc_r, sc_f, sc_a, sc_k, pp_in, pp_al, ↓reduceIte, Nat.reduceEqDiff, Nat.reduceLT, Nat.reduceLeDiff, Nat.reduceAdd, Nat.reduceSub, Nat.reduceMul, List.length_cons, List.length_nil, true_and, and_true, and_self, true_implies, eq_self, not_true_eq_false, not_false_eq_true, false_implies, implies_true, false_and, and_false, Bool.false_eq_true, or_true, true_or, or_false, false_or, Classical.not_not, Nat.le_refl, Nat.lt_irrefl, Bool.true_eq_false, n_lit, n_a, n_c, n_s, n_b, n_m, n_g, n_w, n_n, rk_X9_factor]
            exact K62 I3 (1, t2.2.1) (fP.trans (fF_P a1) b1) b2 b3 hP
          · rw [if_pos q3] at hP
            have g20 : I3 121 20 = Int32.ofNat (o + 1) := (b1.2 20 (by omega)).trans f20
            simp (disch := omega) only [sw_c, sw_n, sx, sf_4, sv_i, sv_j, sv_r, sv_q1, sv_q0, sv_1i, sv_1r, sv_2, sl_i, sl_j, sl_a, sl_v, sp_p, sp_f1, sp_f2, sc_w, sc_c, sc_r, sc_f, sc_a, sc_k, pp_in, pp_al, ↓reduceIte, Nat.reduceEqDiff, Nat.reduceLT, Nat.reduceLeDiff, Nat.reduceAdd, Nat.reduceSub, Nat.reduceMul, List.length_cons, List.length_nil, true_and, and_true, and_self, true_implies, eq_self, not_true_eq_false, not_false_eq_true, false_implies, implies_true, false_and, and_false, Bool.false_eq_true, or_true, true_or, or_false, false_or, Classical.not_not, Nat.le_refl, Nat.lt_irrefl, Bool.true_eq_false, n_lit, n_a, n_c, n_s, n_b, n_m, n_g, n_w, n_n, rk_X9_factor]
            refine pp_go rfl sk_X9_factor_63 ?_
            simp (disch := omega) only [sg_X9_factor_63, sw_c, sw_n, sx, sf_4, sv_i, sv_j, sv_r, sv_q1, sv_q0, sv_1i, sv_1r, sv_2, sl_i, sl_j, sl_a, sl_v, sp_p, sp_f1, sp_f2, sc_w, sc_c, sc_r, sc_f, sc_a, sc_k, pp_in, pp_al, ↓reduceIte, Nat.reduceEqDiff, Nat.reduceLT, Nat.reduceLeDiff, Nat.reduceAdd, Nat.reduceSub, Nat.reduceMul, List.length_cons, List.length_nil, true_and, and_true, and_self, true_implies, eq_self, not_true_eq_false, not_false_eq_true, false_implies, implies_true, false_and, and_false, Bool.false_eq_true, or_true, true_or, or_false, false_or, Classical.not_not, Nat.le_refl, Nat.lt_irrefl, Bool.true_eq_false, n_lit, n_a, n_c, n_s, n_b, n_m, n_g, n_w, n_n, rk_X9_factor, hM, g20]
            have r1 : o + 1 - 1 = o := by omega
            refine hP _ ⟨fun a x1 x2 x3 => ?_, ?_, fun i hi => ?_, fun k hk => ?_⟩ ?_ ?_
            · rw [pp_s_ne _ _ x1, b1.1 a x1, a1.1 a x1 x2 x3, pp_s_ne _ _ x1]; exact hf.1 a x1
            · show I3 128 0 = _
              rw [b1.1 128 (by omega), a1.2.1]; show I1 128 0 = _; rw [hf.1 128 (by omega)]
            · show I3 129 i = _
              rw [b1.1 129 (by omega), a1.2.2.1 i hi]; show I1 129 i = _; rw [hf.1 129 (by omega)]
            · simp only [n_m, ↓reduceIte]
              by_cases z : k = 20
              · rw [if_pos z, z, h20]; try rw [r1]
              · rw [if_neg z, b1.2 k (by omega), a1.2.2.2 k hk, e121 k z]; exact hf.2 k hk
            · simpa only [tM, n_m, ↓reduceIte, Nat.reduceEqDiff] using b2
            · exact cM_cg a3 (b1.1 128 (by omega)) (b1.1 129 (by omega))
theorem m_term_l {F : TK → List Nat → PR} {o m : Nat} (hF : cSum g (h + 6) mi_X9_factor b n F o) (gF : pgd b n F m) :
    ∀ (f : Nat) (sh : List (Nat × Nat)) (I : Nat → Nat → Int32) (J : Nat → Nat → Int64) (R : Nat → Nat → Option Nat) (P : pp_R → pp_W → Prop) (t : TK) (c : List Nat) (L : List (Nat × Value)), (L = [(0, .ref 121)] ∨ ∃ v, L = [(0, .ref 121), (1, .int v)]) → n ≤ f + t.2.1 → sM sh R → xM I b n → tM I b n t → I 121 16 = Int32.ofNat 0 → cM I c → I 121 20 = Int32.ofNat o → c.length ≤ t.2.1 → pF sh I J R P b n (lop b n 42 47 6 7 F f t c) → pp_N g (h + 6) mi_X9_term P 9 L [] (sh, I, J, R) := by
  intro f
  induction f with
  | zero =>
    intro sh I J R P t c L hL hf hM hx ht h16 hc h20 hl hP
    have tb := tk_b ht.1
    have t0 : t.1 = 0 := by
      by_cases z : t.1 = 0
      · exact z
      · have := tb.2.2.1 z; omega
    rw [lop] at hP
    have s1 : ¬ sgP t 42 := fun z => by have := z.1; omega
    have s2 : ¬ sgP t 47 := fun z => by have := z.1; omega
    refine pp_N.sub (L' := [(0, .ref 121)]) ?_ (by rcases hL with rfl | ⟨v, rfl⟩ <;> simp)
    refine pp_go rfl sk_X9_term_9 ?_
    simp (disch := omega) only [sg_X9_term_9, sw_c, sw_n, sx, sf_4, sv_i, sv_j, sv_r, sv_q1, sv_q0, sv_1i, sv_1r, sv_2, sl_i, sl_j, sl_a, sl_v, sp_p, sp_f1, sp_f2, sc_w, sc_c, sc_r, sc_f, sc_a, sc_k, pp_in, pp_al, ↓reduceIte, Nat.reduceEqDiff, Nat.reduceLT, Nat.reduceLeDiff, Nat.reduceAdd, Nat.reduceSub, Nat.reduceMul, List.length_cons, List.length_nil, true_and, and_true, and_self, true_implies, eq_self, not_true_eq_false, not_false_eq_true, false_implies, implies_true, false_and, and_false, Bool.false_eq_true, or_true, true_or, or_false, false_or, Classical.not_not, Nat.le_refl, Nat.lt_irrefl, Bool.true_eq_false, n_lit, n_a, n_c, n_s, n_b, n_m, n_g, n_w, n_n, rk_X9_term, hM]
    refine m_isSignHere hM ht (by omega) ?_
    simp (disch := omega) only [sw_c, sw_n, sx, sf_4, sv_i, sv_j, sv_r, sv_q1, sv_q0, sv_1i, sv_1r, sv_2, sl_i, sl_j, sl_a, sl_v, sp_p, sp_f1, sp_f2, sc_w, sc_c, sc_r, sc_f, sc_a, sc_k, pp_in, pp_al, ↓reduceIte, Nat.reduceEqDiff, Nat.reduceLT, Nat.reduceLeDiff, Nat.reduceAdd, Nat.reduceSub, Nat.reduceMul, List.length_cons, List.length_nil, true_and, and_true, and_self, true_implies, eq_self, not_true_eq_false, not_false_eq_true, false_implies, implies_true, false_and, and_false, Bool.false_eq_true, or_true, true_or, or_false, false_or, Classical.not_not, Nat.le_refl, Nat.lt_irrefl, Bool.true_eq_false, n_lit, n_a, n_c, n_s, n_b, n_m, n_g, n_w, n_n, rk_X9_term, hM, s1]
    refine m_isSignHere hM ht (by omega) ?_
    simp (disch := omega) only [sw_c, sw_n, sx, sf_4, sv_i, sv_j, sv_r, sv_q1, sv_q0, sv_1i, sv_1r, sv_2, sl_i, sl_j, sl_a, sl_v, sp_p, sp_f1, sp_f2, sc_w, sc_c, sc_r, sc_f, sc_a, sc_k, pp_in, pp_al, ↓reduceIte, Nat.reduceEqDiff, Nat.reduceLT, Nat.reduceLeDiff, Nat.reduceAdd, Nat.reduceSub, Nat.reduceMul, List.length_cons, List.length_nil, true_and, and_true, and_self, true_implies, eq_self, not_true_eq_false, not_false_eq_true, false_implies, implies_true, false_and, and_false, Bool.false_eq_true, or_true, true_or, or_false, false_or, Classical.not_not, Nat.le_refl, Nat.lt_irrefl, Bool.true_eq_false, n_lit, n_a, n_c, n_s, n_b, n_m, n_g, n_w, n_n, rk_X9_term, hM, s2]
    refine pp_go rfl sk_X9_term_66 ?_
    simp (disch := omega) only [sg_X9_term_66, sw_c, sw_n, sx, sf_4, sv_i, sv_j, sv_r, sv_q1, sv_q0, sv_1i, sv_1r, sv_2, sl_i, sl_j, sl_a, sl_v, sp_p, sp_f1, sp_f2, sc_w, sc_c, sc_r, sc_f, sc_a, sc_k, pp_in, pp_al, ↓reduceIte, Nat.reduceEqDiff, Nat.reduceLT, Nat.reduceLeDiff, Nat.reduceAdd, Nat.reduceSub, Nat.reduceMul, List.length_cons, List.length_nil, true_and, and_true, and_self, true_implies, eq_self, not_true_eq_false, not_false_eq_true, false_implies, implies_true, false_and, and_false, Bool.false_eq_true, or_true, true_or, or_false, false_or, Classical.not_not, Nat.le_refl, Nat.lt_irrefl, Bool.true_eq_false, n_lit, n_a, n_c, n_s, n_b, n_m, n_g, n_w, n_n, rk_X9_term]
    exact hP I ⟨fun _ _ _ _ => rfl, rfl, fun _ _ => rfl, fun _ _ => rfl⟩ ht hc
  | succ f ih =>
    intro sh I J R P t c L hL hf hM hx ht h16 hc h20 hl hP
    have tb := tk_b ht.1
    have h7 := hx.2.2.1
    rw [lop] at hP
    refine pp_N.sub (L' := [(0, .ref 121)]) ?_ (by rcases hL with rfl | ⟨v, rfl⟩ <;> simp)
    have KE : ¬ (sgP t 42 ∨ sgP t 47) → pp_N g (h + 6) mi_X9_term P 66 [(0, .ref 121)] [] (sh, I, J, R) := by
      intro z
      rw [if_neg z] at hP
      refine pp_go rfl sk_X9_term_66 ?_
      simp (disch := omega) only [sg_X9_term_66, sw_c, sw_n, sx, sf_4, sv_i, sv_j, sv_r, sv_q1, sv_q0, sv_1i, sv_1r, sv_2, sl_i, sl_j, sl_a, sl_v, sp_p, sp_f1, sp_f2, sc_w, sc_c, sc_r, sc_f, sc_a, sc_k, pp_in, pp_al, ↓reduceIte, Nat.reduceEqDiff, Nat.reduceLT, Nat.reduceLeDiff, Nat.reduceAdd, Nat.reduceSub, Nat.reduceMul, List.length_cons, List.length_nil, true_and, and_true, and_self, true_implies, eq_self, not_true_eq_false, not_false_eq_true, false_implies, implies_true, false_and, and_false, Bool.false_eq_true, or_true, true_or, or_false, false_or, Classical.not_not, Nat.le_refl, Nat.lt_irrefl, Bool.true_eq_false, n_lit, n_a, n_c, n_s, n_b, n_m, n_g, n_w, n_n, rk_X9_term]
      exact hP I ⟨fun _ _ _ _ => rfl, rfl, fun _ _ => rfl, fun _ _ => rfl⟩ ht hc
    have KL : (sgP t 42 ∨ sgP t 47) → pp_N g (h + 6) mi_X9_term P 27 [(0, .ref 121)] [] (sh, I, J, R) := by
      intro z
      rw [if_pos z] at hP
      have t3 : t.1 = 3 := by rcases z with z | z <;> exact z.1
      have e15 := ht.2.2.2.2 (Or.inr t3)
      have t1 := tb.2.2.1 (by omega)
      have nb := nxt_ok ht.1
      have hv : t.2.2.2 = 42 ∨ t.2.2.2 = 47 := by rcases z with z | z <;> simp [z.2]
      have KS : ∀ (v : Int32) (e : Nat), e = (if t.2.2.2 = 42 then 6 else 7) → v = encM e → pp_N g (h + 6) mi_X9_term P 43 [(0, .ref 121)] [.int v] (sh, I, J, R) := by
        intro v e he hv
        rw [← he] at hP
        refine pp_go rfl sk_X9_term_43 ?_
        simp (disch := omega) only [sg_X9_term_43, sw_c, sw_n, sx, sf_4, sv_i, sv_j, sv_r, sv_q1, sv_q0, sv_1i, sv_1r, sv_2, sl_i, sl_j, sl_a, sl_v, sp_p, sp_f1, sp_f2, sc_w, sc_c, sc_r, sc_f, sc_a, sc_k, pp_in, pp_al, ↓reduceIte, Nat.reduceEqDiff, Nat.reduceLT, Nat.reduceLeDiff, Nat.reduceAdd, Nat.reduceSub, Nat.reduceMul, List.length_cons, List.length_nil, true_and, and_true, and_self, true_implies, eq_self, not_true_eq_false, not_false_eq_true, false_implies, implies_true, false_and, and_false, Bool.false_eq_true, or_true, true_or, or_false, false_or, Classical.not_not, Nat.le_refl, Nat.lt_irrefl, Bool.true_eq_false, n_lit, n_a, n_c, n_s, n_b, n_m, n_g, n_w, n_n, rk_X9_term, hM]
        refine m_adv hM hx tb.2.1 ht.2.2.2.1 (fun I1 hf1 ht1 => ?_)
        simp (disch := omega) only [sw_c, sw_n, sx, sf_4, sv_i, sv_j, sv_r, sv_q1, sv_q0, sv_1i, sv_1r, sv_2, sl_i, sl_j, sl_a, sl_v, sp_p, sp_f1, sp_f2, sc_w, sc_c, sc_r, sc_f, sc_a, sc_k, pp_in, pp_al, ↓reduceIte, Nat.reduceEqDiff, Nat.reduceLT, Nat.reduceLeDiff, Nat.reduceAdd, Nat.reduceSub, Nat.reduceMul, List.length_cons, List.length_nil, true_and, and_true, and_self, true_implies, eq_self, not_true_eq_false, not_false_eq_true, false_implies, implies_true, false_and, and_false, Bool.false_eq_true, or_true, true_or, or_false, false_or, Classical.not_not, Nat.le_refl, Nat.lt_irrefl, Bool.true_eq_false, n_lit, n_a, n_c, n_s, n_b, n_m, n_g, n_w, n_n, rk_X9_term, hM]
        refine hF _ _ _ _ _ (nxt b n t) c hM (xM_fr hx (hf1.2 11 (by omega)) (hf1.1 130 (by omega))) ht1 ((hf1.2 16 (by omega)).trans h16) (cM_cg hc (hf1.1 128 (by omega)) (hf1.1 129 (by omega))) ((hf1.2 20 (by omega)).trans h20) (by omega) ?_
        cases hr : F (nxt b n t) c with
        | inl er =>
          rw [hr] at hP
          intro I2 a1 a2 a3
          simp (disch := omega) only [sw_c, sw_n, sx, sf_4, sv_i, sv_j, sv_r, sv_q1, sv_q0, sv_1i, sv_1r, sv_2, sl_i, sl_j, sl_a, sl_v, sp_p, sp_f1, sp_f2, sc_w, sc_c, sc_r, sc_f, sc_a, sc_k, pp_in, pp_al, ↓reduceIte, Nat.reduceEqDiff, Nat.reduceLT, Nat.reduceLeDiff, Nat.reduceAdd, Nat.reduceSub, Nat.reduceMul, List.length_cons, List.length_nil, true_and, and_true, and_self, true_implies, eq_self, not_true_eq_false, not_false_eq_true, false_implies, implies_true, false_and, and_false, Bool.false_eq_true, or_true, true_or, or_false, false_or, Classical.not_not, Nat.le_refl, Nat.lt_irrefl, Bool.true_eq_false, n_lit, n_a, n_c, n_s, n_b, n_m, n_g, n_w, n_n, rk_X9_term]
          exact hP I2 (fP.trans (fF_P (fF_A hf1)) a1) a2 a3
        | inr r =>
          obtain ⟨t2, c2⟩ := r
          rw [hr] at hP
          have gg := gF _ _ _ _ nb.1 hr
          have g1 := tk_b gg.1
          intro I2 a1 a2 a3
          dsimp only at a2 a3 hP
          have f12 : fF I I2 := fF.trans (fF_A hf1) a1
          simp (disch := omega) only [sw_c, sw_n, sx, sf_4, sv_i, sv_j, sv_r, sv_q1, sv_q0, sv_1i, sv_1r, sv_2, sl_i, sl_j, sl_a, sl_v, sp_p, sp_f1, sp_f2, sc_w, sc_c, sc_r, sc_f, sc_a, sc_k, pp_in, pp_al, ↓reduceIte, Nat.reduceEqDiff, Nat.reduceLT, Nat.reduceLeDiff, Nat.reduceAdd, Nat.reduceSub, Nat.reduceMul, List.length_cons, List.length_nil, true_and, and_true, and_self, true_implies, eq_self, not_true_eq_false, not_false_eq_true, false_implies, implies_true, false_and, and_false, Bool.false_eq_true, or_true, true_or, or_false, false_or, Classical.not_not, Nat.le_refl, Nat.lt_irrefl, Bool.true_eq_false, n_lit, n_a, n_c, n_s, n_b, n_m, n_g, n_w, n_n, rk_X9_term]
          refine pp_go rfl sk_X9_term_57 ?_
          simp (disch := omega) only [sg_X9_term_57, sw_c, sw_n, sx, sf_4, sv_i, sv_j, sv_r, sv_q1, sv_q0, sv_1i, sv_1r, sv_2, sl_i, sl_j, sl_a, sl_v, sp_p, sp_f1, sp_f2, sc_w, sc_c, sc_r, sc_f, sc_a, sc_k, pp_in, pp_al, ↓reduceIte, Nat.reduceEqDiff, Nat.reduceLT, Nat.reduceLeDiff, Nat.reduceAdd, Nat.reduceSub, Nat.reduceMul, List.length_cons, List.length_nil, true_and, and_true, and_self, true_implies, eq_self, not_true_eq_false, not_false_eq_true, false_implies, implies_true, false_and, and_false, Bool.false_eq_true, or_true, true_or, or_false, false_or, Classical.not_not, Nat.le_refl, Nat.lt_irrefl, Bool.true_eq_false, n_lit, n_a, n_c, n_s, n_b, n_m, n_g, n_w, n_n, rk_X9_term, hM]
          refine m_emit (c := c2) (e := e) hM a3 (by omega) hv (fun I3 b1 b2 b3 b4 => ?_)
          have f23 : fF I2 I3 := ⟨fun a _ x2 x3 => b1 a x2 x3, b2, b3, fun k _ => by rw [b1 121 (by omega) (by omega)]⟩
          have f13 := fF.trans f12 f23
          simp (disch := omega) only [sw_c, sw_n, sx, sf_4, sv_i, sv_j, sv_r, sv_q1, sv_q0, sv_1i, sv_1r, sv_2, sl_i, sl_j, sl_a, sl_v, sp_p, sp_f1, sp_f2, sc_w, sc_c, sc_r, sc_f, sc_a, sc_k, pp_in, pp_al, ↓reduceIte, Nat.reduceEqDiff, Nat.reduceLT, Nat.reduceLeDiff, Nat.reduceAdd, Nat.reduceSub, Nat.reduceMul, List.length_cons, List.length_nil, true_and, and_true, and_self, true_implies, eq_self, not_true_eq_false, not_false_eq_true, false_implies, implies_true, false_and, and_false, Bool.false_eq_true, or_true, true_or, or_false, false_or, Classical.not_not, Nat.le_refl, Nat.lt_irrefl, Bool.true_eq_false, n_lit, n_a, n_c, n_s, n_b, n_m, n_g, n_w, n_n, rk_X9_term]
          refine ih sh I3 J R P t2 (c2 ++ [e]) _ (Or.inr ⟨_, rfl⟩) (by omega) hM (xM_fr hx (f13.2.2.2 11 (by omega)) (f13.1 130 (by omega) (by omega) (by omega))) ?_ ((f13.2.2.2 16 (by omega)).trans h16) b4 ((f13.2.2.2 20 (by omega)).trans h20) ?_ (pF_fr f13 hP)
          · simpa only [tM, b1 121 (by omega) (by omega)] using a2
          · rw [List.length_append, List.length_cons, List.length_nil]; omega
      refine pp_go rfl sk_X9_term_27 ?_
      simp (disch := omega) only [sg_X9_term_27, sw_c, sw_n, sx, sf_4, sv_i, sv_j, sv_r, sv_q1, sv_q0, sv_1i, sv_1r, sv_2, sl_i, sl_j, sl_a, sl_v, sp_p, sp_f1, sp_f2, sc_w, sc_c, sc_r, sc_f, sc_a, sc_k, pp_in, pp_al, ↓reduceIte, Nat.reduceEqDiff, Nat.reduceLT, Nat.reduceLeDiff, Nat.reduceAdd, Nat.reduceSub, Nat.reduceMul, List.length_cons, List.length_nil, true_and, and_true, and_self, true_implies, eq_self, not_true_eq_false, not_false_eq_true, false_implies, implies_true, false_and, and_false, Bool.false_eq_true, or_true, true_or, or_false, false_or, Classical.not_not, Nat.le_refl, Nat.lt_irrefl, Bool.true_eq_false, n_lit, n_a, n_c, n_s, n_b, n_m, n_g, n_w, n_n, rk_X9_term, hM, e15]
      refine ⟨fun q => ?_, fun q => ?_⟩
      · refine pp_go rfl sk_X9_term_41 ?_
        simp (disch := omega) only [sg_X9_term_41, sw_c, sw_n, sx, sf_4, sv_i, sv_j, sv_r, sv_q1, sv_q0, sv_1i, sv_1r, sv_2, sl_i, sl_j, sl_a, sl_v, sp_p, sp_f1, sp_f2, sc_w, sc_c, sc_r, sc_f, sc_a, sc_k, pp_in, pp_al, ↓reduceIte, Nat.reduceEqDiff, Nat.reduceLT, Nat.reduceLeDiff, Nat.reduceAdd, Nat.reduceSub, Nat.reduceMul, List.length_cons, List.length_nil, true_and, and_true, and_self, true_implies, eq_self, not_true_eq_false, not_false_eq_true, false_implies, implies_true, false_and, and_false, Bool.false_eq_true, or_true, true_or, or_false, false_or, Classical.not_not, Nat.le_refl, Nat.lt_irrefl, Bool.true_eq_false, n_lit, n_a, n_c, n_s, n_b, n_m, n_g, n_w, n_n, rk_X9_term]
        exact KS _ 7 (by rw [if_neg q]) (by decide)
      · exact KS _ 6 (by rw [if_pos q]) (by decide)
    refine pp_go rfl sk_X9_term_9 ?_
    simp (disch := omega) only [sg_X9_term_9, sw_c, sw_n, sx, sf_4, sv_i, sv_j, sv_r, sv_q1, sv_q0, sv_1i, sv_1r, sv_2, sl_i, sl_j, sl_a, sl_v, sp_p, sp_f1, sp_f2, sc_w, sc_c, sc_r, sc_f, sc_a, sc_k, pp_in, pp_al, ↓reduceIte, Nat.reduceEqDiff, Nat.reduceLT, Nat.reduceLeDiff, Nat.reduceAdd, Nat.reduceSub, Nat.reduceMul, List.length_cons, List.length_nil, true_and, and_true, and_self, true_implies, eq_self, not_true_eq_false, not_false_eq_true, false_implies, implies_true, false_and, and_false, Bool.false_eq_true, or_true, true_or, or_false, false_or, Classical.not_not, Nat.le_refl, Nat.lt_irrefl, Bool.true_eq_false, n_lit, n_a, n_c, n_s, n_b, n_m, n_g, n_w, n_n, rk_X9_term, hM]
    refine m_isSignHere hM ht (by omega) ?_
    simp (disch := omega) only [sw_c, sw_n, sx, sf_4, sv_i, sv_j, sv_r, sv_q1, sv_q0, sv_1i, sv_1r, sv_2, sl_i, sl_j, sl_a, sl_v, sp_p, sp_f1, sp_f2, sc_w, sc_c, sc_r, sc_f, sc_a, sc_k, pp_in, pp_al, ↓reduceIte, Nat.reduceEqDiff, Nat.reduceLT, Nat.reduceLeDiff, Nat.reduceAdd, Nat.reduceSub, Nat.reduceMul, List.length_cons, List.length_nil, true_and, and_true, and_self, true_implies, eq_self, not_true_eq_false, not_false_eq_true, false_implies, implies_true, false_and, and_false, Bool.false_eq_true, or_true, true_or, or_false, false_or, Classical.not_not, Nat.le_refl, Nat.lt_irrefl, Bool.true_eq_false, n_lit, n_a, n_c, n_s, n_b, n_m, n_g, n_w, n_n, rk_X9_term, hM]
    refine ⟨fun s1 => KL (Or.inl s1), fun s1 => ?_⟩
    refine m_isSignHere hM ht (by omega) ?_
    simp (disch := omega) only [sw_c, sw_n, sx, sf_4, sv_i, sv_j, sv_r, sv_q1, sv_q0, sv_1i, sv_1r, sv_2, sl_i, sl_j, sl_a, sl_v, sp_p, sp_f1, sp_f2, sc_w, sc_c, sc_r, sc_f, sc_a, sc_k, pp_in, pp_al, ↓reduceIte, Nat.reduceEqDiff, Nat.reduceLT, Nat.reduceLeDiff, Nat.reduceAdd, Nat.reduceSub, Nat.reduceMul, List.length_cons, List.length_nil, true_and, and_true, and_self, true_implies, eq_self, not_true_eq_false, not_false_eq_true, false_implies, implies_true, false_and, and_false, Bool.false_eq_true, or_true, true_or, or_false, false_or, Classical.not_not, Nat.le_refl, Nat.lt_irrefl, Bool.true_eq_false, n_lit, n_a, n_c, n_s, n_b, n_m, n_g, n_w, n_n, rk_X9_term, hM]
    refine ⟨fun s2 => KE (fun z => z.elim s1 s2), fun s2 => KL (Or.inr s2)⟩
theorem m_term {F : TK → List Nat → PR} {o m : Nat} (hF : cSum g (h + 6) mi_X9_factor b n F o) (gF : pgd b n F m) : cSum g (h + 7) mi_X9_term b n (jnd b n 42 47 6 7 F) o := by
  intro sh I J R P t c hM hx ht h16 hc h20 hl hP
  refine pp_st0 [(0, .ref 121)] ok_X9_term rfl (Nat.le_of_ble_eq_true rfl) rfl ?_
  have h7 := hx.2.2.1
  unfold jnd at hP
  refine pp_go rfl sk_X9_term_0 ?_
  simp (disch := omega) only [sg_X9_term_0, sw_c, sw_n, sx, sf_4, sv_i, sv_j, sv_r, sv_q1, sv_q0, sv_1i, sv_1r, sv_2, sl_i, sl_j, sl_a, sl_v, sp_p, sp_f1, sp_f2, sc_w, sc_c, sc_r, sc_f, sc_a, sc_k, pp_in, pp_al, ↓reduceIte, Nat.reduceEqDiff, Nat.reduceLT, Nat.reduceLeDiff, Nat.reduceAdd, Nat.reduceSub, Nat.reduceMul, List.length_cons, List.length_nil, true_and, and_true, and_self, true_implies, eq_self, not_true_eq_false, not_false_eq_true, false_implies, implies_true, false_and, and_false, Bool.false_eq_true, or_true, true_or, or_false, false_or, Classical.not_not, Nat.le_refl, Nat.lt_irrefl, Bool.true_eq_false, n_lit, n_a, n_c, n_s, n_b, n_m, n_g, n_w, n_n, rk_X9_term, hM]
  refine hF _ _ _ _ _ t c hM hx ht h16 hc h20 hl ?_
  cases hr : F t c with
  | inl er =>
    rw [hr] at hP
    intro I2 a1 a2 a3
    simp (disch := omega) only [sw_c, sw_n, sx, sf_4, sv_i, sv_j, sv_r, sv_q1, sv_q0, sv_1i, sv_1r, sv_2, sl_i, sl_j, sl_a, sl_v, sp_p, sp_f1, sp_f2, sc_w, sc_c, sc_r, sc_f, sc_a, sc_k, pp_in, pp_al, ↓reduceIte, Nat.reduceEqDiff, Nat.reduceLT, Nat.reduceLeDiff, Nat.reduceAdd, Nat.reduceSub, Nat.reduceMul, List.length_cons, List.length_nil, true_and, and_true, and_self, true_implies, eq_self, not_true_eq_false, not_false_eq_true, false_implies, implies_true, false_and, and_false, Bool.false_eq_true, or_true, true_or, or_false, false_or, Classical.not_not, Nat.le_refl, Nat.lt_irrefl, Bool.true_eq_false, n_lit, n_a, n_c, n_s, n_b, n_m, n_g, n_w, n_n, rk_X9_term]
    exact hP I2 a1 a2 a3
  | inr r =>
    obtain ⟨t2, c2⟩ := r
    rw [hr] at hP
    have gg := gF _ _ _ _ ht.1 hr
    have g1 := tk_b gg.1
    intro I2 a1 a2 a3
    dsimp only at a2 a3 hP
    simp (disch := omega) only [sw_c, sw_n, sx, sf_4, sv_i, sv_j, sv_r, sv_q1, sv_q0, sv_1i, sv_1r, sv_2, sl_i, sl_j, sl_a, sl_v, sp_p, sp_f1, sp_f2, sc_w, sc_c, sc_r, sc_f, sc_a, sc_k, pp_in, pp_al, ↓reduceIte, Nat.reduceEqDiff, Nat.reduceLT, Nat.reduceLeDiff, Nat.reduceAdd, Nat.reduceSub, Nat.reduceMul, List.length_cons, List.length_nil, true_and, and_true, and_self, true_implies, eq_self, not_true_eq_false, not_false_eq_true, false_implies, implies_true, false_and, and_false, Bool.false_eq_true, or_true, true_or, or_false, false_or, Classical.not_not, Nat.le_refl, Nat.lt_irrefl, Bool.true_eq_false, n_lit, n_a, n_c, n_s, n_b, n_m, n_g, n_w, n_n, rk_X9_term]
    exact m_term_l hF gF 700 sh I2 J R P t2 c2 _ (Or.inl rfl) (by omega) hM (xM_fr hx (a1.2.2.2 11 (by omega)) (a1.1 130 (by omega) (by omega) (by omega))) a2 ((a1.2.2.2 16 (by omega)).trans h16) a3 ((a1.2.2.2 20 (by omega)).trans h20) (by omega) (pF_fr a1 hP)
theorem m_sum_l {F : TK → List Nat → PR} {o m : Nat} (hF : cSum g (h + 7) mi_X9_term b n F o) (gF : pgd b n F m) :
    ∀ (f : Nat) (sh : List (Nat × Nat)) (I : Nat → Nat → Int32) (J : Nat → Nat → Int64) (R : Nat → Nat → Option Nat) (P : pp_R → pp_W → Prop) (t : TK) (c : List Nat) (L : List (Nat × Value)), (L = [(0, .ref 121)] ∨ ∃ v, L = [(0, .ref 121), (1, .int v)]) → n ≤ f + t.2.1 → sM sh R → xM I b n → tM I b n t → I 121 16 = Int32.ofNat 0 → cM I c → I 121 20 = Int32.ofNat o → c.length ≤ t.2.1 → pF sh I J R P b n (lop b n 43 45 4 5 F f t c) → pp_N g (h + 7) mi_X9_sum P 9 L [] (sh, I, J, R) := by
  intro f
  induction f with
  | zero =>
    intro sh I J R P t c L hL hf hM hx ht h16 hc h20 hl hP
    have tb := tk_b ht.1
    have t0 : t.1 = 0 := by
      by_cases z : t.1 = 0
      · exact z
      · have := tb.2.2.1 z; omega
    rw [lop] at hP
    have s1 : ¬ sgP t 43 := fun z => by have := z.1; omega
    have s2 : ¬ sgP t 45 := fun z => by have := z.1; omega
    refine pp_N.sub (L' := [(0, .ref 121)]) ?_ (by rcases hL with rfl | ⟨v, rfl⟩ <;> simp)
    refine pp_go rfl sk_X9_sum_9 ?_
    simp (disch := omega) only [sg_X9_sum_9, sw_c, sw_n, sx, sf_4, sv_i, sv_j, sv_r, sv_q1, sv_q0, sv_1i, sv_1r, sv_2, sl_i, sl_j, sl_a, sl_v, sp_p, sp_f1, sp_f2, sc_w, sc_c, sc_r, sc_f, sc_a, sc_k, pp_in, pp_al, ↓reduceIte, Nat.reduceEqDiff, Nat.reduceLT, Nat.reduceLeDiff, Nat.reduceAdd, Nat.reduceSub, Nat.reduceMul, List.length_cons, List.length_nil, true_and, and_true, and_self, true_implies, eq_self, not_true_eq_false, not_false_eq_true, false_implies, implies_true, false_and, and_false, Bool.false_eq_true, or_true, true_or, or_false, false_or, Classical.not_not, Nat.le_refl, Nat.lt_irrefl, Bool.true_eq_false, n_lit, n_a, n_c, n_s, n_b, n_m, n_g, n_w, n_n, rk_X9_sum, hM]
    refine m_isSignHere hM ht (by omega) ?_
    simp (disch := omega) only [sw_c, sw_n, sx, sf_4, sv_i, sv_j, sv_r, sv_q1, sv_q0, sv_1i, sv_1r, sv_2, sl_i, sl_j, sl_a, sl_v, sp_p, sp_f1, sp_f2, sc_w, sc_c, sc_r, sc_f, sc_a, sc_k, pp_in, pp_al, ↓reduceIte, Nat.reduceEqDiff, Nat.reduceLT, Nat.reduceLeDiff, Nat.reduceAdd, Nat.reduceSub, Nat.reduceMul, List.length_cons, List.length_nil, true_and, and_true, and_self, true_implies, eq_self, not_true_eq_false, not_false_eq_true, false_implies, implies_true, false_and, and_false, Bool.false_eq_true, or_true, true_or, or_false, false_or, Classical.not_not, Nat.le_refl, Nat.lt_irrefl, Bool.true_eq_false, n_lit, n_a, n_c, n_s, n_b, n_m, n_g, n_w, n_n, rk_X9_sum, hM, s1]
    refine m_isSignHere hM ht (by omega) ?_
    simp (disch := omega) only [sw_c, sw_n, sx, sf_4, sv_i, sv_j, sv_r, sv_q1, sv_q0, sv_1i, sv_1r, sv_2, sl_i, sl_j, sl_a, sl_v, sp_p, sp_f1, sp_f2, sc_w, sc_c, sc_r, sc_f, sc_a, sc_k, pp_in, pp_al, ↓reduceIte, Nat.reduceEqDiff, Nat.reduceLT, Nat.reduceLeDiff, Nat.reduceAdd, Nat.reduceSub, Nat.reduceMul, List.length_cons, List.length_nil, true_and, and_true, and_self, true_implies, eq_self, not_true_eq_false, not_false_eq_true, false_implies, implies_true, false_and, and_false, Bool.false_eq_true, or_true, true_or, or_false, false_or, Classical.not_not, Nat.le_refl, Nat.lt_irrefl, Bool.true_eq_false, n_lit, n_a, n_c, n_s, n_b, n_m, n_g, n_w, n_n, rk_X9_sum, hM, s2]
    refine pp_go rfl sk_X9_sum_65 ?_
    simp (disch := omega) only [sg_X9_sum_65, sw_c, sw_n, sx, sf_4, sv_i, sv_j, sv_r, sv_q1, sv_q0, sv_1i, sv_1r, sv_2, sl_i, sl_j, sl_a, sl_v, sp_p, sp_f1, sp_f2, sc_w, sc_c, sc_r, sc_f, sc_a, sc_k, pp_in, pp_al, ↓reduceIte, Nat.reduceEqDiff, Nat.reduceLT, Nat.reduceLeDiff, Nat.reduceAdd, Nat.reduceSub, Nat.reduceMul, List.length_cons, List.length_nil, true_and, and_true, and_self, true_implies, eq_self, not_true_eq_false, not_false_eq_true, false_implies, implies_true, false_and, and_false, Bool.false_eq_true, or_true, true_or, or_false, false_or, Classical.not_not, Nat.le_refl, Nat.lt_irrefl, Bool.true_eq_false, n_lit, n_a, n_c, n_s, n_b, n_m, n_g, n_w, n_n, rk_X9_sum]
    exact hP I ⟨fun _ _ _ _ => rfl, rfl, fun _ _ => rfl, fun _ _ => rfl⟩ ht hc
  | succ f ih =>
    intro sh I J R P t c L hL hf hM hx ht h16 hc h20 hl hP
    have tb := tk_b ht.1
    have h7 := hx.2.2.1
    rw [lop] at hP
    refine pp_N.sub (L' := [(0, .ref 121)]) ?_ (by rcases hL with rfl | ⟨v, rfl⟩ <;> simp)
    have KE : ¬ (sgP t 43 ∨ sgP t 45) → pp_N g (h + 7) mi_X9_sum P 65 [(0, .ref 121)] [] (sh, I, J, R) := by
      intro z
      rw [if_neg z] at hP
      refine pp_go rfl sk_X9_sum_65 ?_
      simp (disch := omega) only [sg_X9_sum_65, sw_c, sw_n, sx, sf_4, sv_i, sv_j, sv_r, sv_q1, sv_q0, sv_1i, sv_1r, sv_2, sl_i, sl_j, sl_a, sl_v, sp_p, sp_f1, sp_f2, sc_w, sc_c, sc_r, sc_f, sc_a, sc_k, pp_in, pp_al, ↓reduceIte, Nat.reduceEqDiff, Nat.reduceLT, Nat.reduceLeDiff, Nat.reduceAdd, Nat.reduceSub, Nat.reduceMul, List.length_cons, List.length_nil, true_and, and_true, and_self, true_implies, eq_self, not_true_eq_false, not_false_eq_true, false_implies, implies_true, false_and, and_false, Bool.false_eq_true, or_true, true_or, or_false, false_or, Classical.not_not, Nat.le_refl, Nat.lt_irrefl, Bool.true_eq_false, n_lit, n_a, n_c, n_s, n_b, n_m, n_g, n_w, n_n, rk_X9_sum]
      exact hP I ⟨fun _ _ _ _ => rfl, rfl, fun _ _ => rfl, fun _ _ => rfl⟩ ht hc
    have KL : (sgP t 43 ∨ sgP t 45) → pp_N g (h + 7) mi_X9_sum P 27 [(0, .ref 121)] [] (sh, I, J, R) := by
      intro z
      rw [if_pos z] at hP
      have t3 : t.1 = 3 := by rcases z with z | z <;> exact z.1
      have e15 := ht.2.2.2.2 (Or.inr t3)
      have t1 := tb.2.2.1 (by omega)
      have nb := nxt_ok ht.1
      have hv : t.2.2.2 = 43 ∨ t.2.2.2 = 45 := by rcases z with z | z <;> simp [z.2]
      have KS : ∀ (v : Int32) (e : Nat), e = (if t.2.2.2 = 43 then 4 else 5) → v = encM e → pp_N g (h + 7) mi_X9_sum P 42 [(0, .ref 121)] [.int v] (sh, I, J, R) := by
        intro v e he hv
        rw [← he] at hP
        refine pp_go rfl sk_X9_sum_42 ?_
        simp (disch := omega) only [sg_X9_sum_42, sw_c, sw_n, sx, sf_4, sv_i, sv_j, sv_r, sv_q1, sv_q0, sv_1i, sv_1r, sv_2, sl_i, sl_j, sl_a, sl_v, sp_p, sp_f1, sp_f2, sc_w, sc_c, sc_r, sc_f, sc_a, sc_k, pp_in, pp_al, ↓reduceIte, Nat.reduceEqDiff, Nat.reduceLT, Nat.reduceLeDiff, Nat.reduceAdd, Nat.reduceSub, Nat.reduceMul, List.length_cons, List.length_nil, true_and, and_true, and_self, true_implies, eq_self, not_true_eq_false, not_false_eq_true, false_implies, implies_true, false_and, and_false, Bool.false_eq_true, or_true, true_or, or_false, false_or, Classical.not_not, Nat.le_refl, Nat.lt_irrefl, Bool.true_eq_false, n_lit, n_a, n_c, n_s, n_b, n_m, n_g, n_w, n_n, rk_X9_sum, hM]
        refine m_adv hM hx tb.2.1 ht.2.2.2.1 (fun I1 hf1 ht1 => ?_)
        simp (disch := omega) only [sw_c, sw_n, sx, sf_4, sv_i, sv_j, sv_r, sv_q1, sv_q0, sv_1i, sv_1r, sv_2, sl_i, sl_j, sl_a, sl_v, sp_p, sp_f1, sp_f2, sc_w, sc_c, sc_r, sc_f, sc_a, sc_k, pp_in, pp_al, ↓reduceIte, Nat.reduceEqDiff, Nat.reduceLT, Nat.reduceLeDiff, Nat.reduceAdd, Nat.reduceSub, Nat.reduceMul, List.length_cons, List.length_nil, true_and, and_true, and_self, true_implies, eq_self, not_true_eq_false, not_false_eq_true, false_implies, implies_true, false_and, and_false, Bool.false_eq_true, or_true, true_or, or_false, false_or, Classical.not_not, Nat.le_refl, Nat.lt_irrefl, Bool.true_eq_false, n_lit, n_a, n_c, n_s, n_b, n_m, n_g, n_w, n_n, rk_X9_sum, hM]
        refine hF _ _ _ _ _ (nxt b n t) c hM (xM_fr hx (hf1.2 11 (by omega)) (hf1.1 130 (by omega))) ht1 ((hf1.2 16 (by omega)).trans h16) (cM_cg hc (hf1.1 128 (by omega)) (hf1.1 129 (by omega))) ((hf1.2 20 (by omega)).trans h20) (by omega) ?_
        cases hr : F (nxt b n t) c with
        | inl er =>
          rw [hr] at hP
          intro I2 a1 a2 a3
          simp (disch := omega) only [sw_c, sw_n, sx, sf_4, sv_i, sv_j, sv_r, sv_q1, sv_q0, sv_1i, sv_1r, sv_2, sl_i, sl_j, sl_a, sl_v, sp_p, sp_f1, sp_f2, sc_w, sc_c, sc_r, sc_f, sc_a, sc_k, pp_in, pp_al, ↓reduceIte, Nat.reduceEqDiff, Nat.reduceLT, Nat.reduceLeDiff, Nat.reduceAdd, Nat.reduceSub, Nat.reduceMul, List.length_cons, List.length_nil, true_and, and_true, and_self, true_implies, eq_self, not_true_eq_false, not_false_eq_true, false_implies, implies_true, false_and, and_false, Bool.false_eq_true, or_true, true_or, or_false, false_or, Classical.not_not, Nat.le_refl, Nat.lt_irrefl, Bool.true_eq_false, n_lit, n_a, n_c, n_s, n_b, n_m, n_g, n_w, n_n, rk_X9_sum]
          exact hP I2 (fP.trans (fF_P (fF_A hf1)) a1) a2 a3
        | inr r =>
          obtain ⟨t2, c2⟩ := r
          rw [hr] at hP
          have gg := gF _ _ _ _ nb.1 hr
          have g1 := tk_b gg.1
          intro I2 a1 a2 a3
          dsimp only at a2 a3 hP
          have f12 : fF I I2 := fF.trans (fF_A hf1) a1
          simp (disch := omega) only [sw_c, sw_n, sx, sf_4, sv_i, sv_j, sv_r, sv_q1, sv_q0, sv_1i, sv_1r, sv_2, sl_i, sl_j, sl_a, sl_v, sp_p, sp_f1, sp_f2, sc_w, sc_c, sc_r, sc_f, sc_a, sc_k, pp_in, pp_al, ↓reduceIte, Nat.reduceEqDiff, Nat.reduceLT, Nat.reduceLeDiff, Nat.reduceAdd, Nat.reduceSub, Nat.reduceMul, List.length_cons, List.length_nil, true_and, and_true, and_self, true_implies, eq_self, not_true_eq_false, not_false_eq_true, false_implies, implies_true, false_and, and_false, Bool.false_eq_true, or_true, true_or, or_false, false_or, Classical.not_not, Nat.le_refl, Nat.lt_irrefl, Bool.true_eq_false, n_lit, n_a, n_c, n_s, n_b, n_m, n_g, n_w, n_n, rk_X9_sum]
          refine pp_go rfl sk_X9_sum_56 ?_
          simp (disch := omega) only [sg_X9_sum_56, sw_c, sw_n, sx, sf_4, sv_i, sv_j, sv_r, sv_q1, sv_q0, sv_1i, sv_1r, sv_2, sl_i, sl_j, sl_a, sl_v, sp_p, sp_f1, sp_f2, sc_w, sc_c, sc_r, sc_f, sc_a, sc_k, pp_in, pp_al, ↓reduceIte, Nat.reduceEqDiff, Nat.reduceLT, Nat.reduceLeDiff, Nat.reduceAdd, Nat.reduceSub, Nat.reduceMul, List.length_cons, List.length_nil, true_and, and_true, and_self, true_implies, eq_self, not_true_eq_false, not_false_eq_true, false_implies, implies_true, false_and, and_false, Bool.false_eq_true, or_true, true_or, or_false, false_or, Classical.not_not, Nat.le_refl, Nat.lt_irrefl, Bool.true_eq_false, n_lit, n_a, n_c, n_s, n_b, n_m, n_g, n_w, n_n, rk_X9_sum, hM]
          refine m_emit (c := c2) (e := e) hM a3 (by omega) hv (fun I3 b1 b2 b3 b4 => ?_)
          have f23 : fF I2 I3 := ⟨fun a _ x2 x3 => b1 a x2 x3, b2, b3, fun k _ => by rw [b1 121 (by omega) (by omega)]⟩
          have f13 := fF.trans f12 f23
          simp (disch := omega) only [sw_c, sw_n, sx, sf_4, sv_i, sv_j, sv_r, sv_q1, sv_q0, sv_1i, sv_1r, sv_2, sl_i, sl_j, sl_a, sl_v, sp_p, sp_f1, sp_f2, sc_w, sc_c, sc_r, sc_f, sc_a, sc_k, pp_in, pp_al, ↓reduceIte, Nat.reduceEqDiff, Nat.reduceLT, Nat.reduceLeDiff, Nat.reduceAdd, Nat.reduceSub, Nat.reduceMul, List.length_cons, List.length_nil, true_and, and_true, and_self, true_implies, eq_self, not_true_eq_false, not_false_eq_true, false_implies, implies_true, false_and, and_false, Bool.false_eq_true, or_true, true_or, or_false, false_or, Classical.not_not, Nat.le_refl, Nat.lt_irrefl, Bool.true_eq_false, n_lit, n_a, n_c, n_s, n_b, n_m, n_g, n_w, n_n, rk_X9_sum]
          refine ih sh I3 J R P t2 (c2 ++ [e]) _ (Or.inr ⟨_, rfl⟩) (by omega) hM (xM_fr hx (f13.2.2.2 11 (by omega)) (f13.1 130 (by omega) (by omega) (by omega))) ?_ ((f13.2.2.2 16 (by omega)).trans h16) b4 ((f13.2.2.2 20 (by omega)).trans h20) ?_ (pF_fr f13 hP)
          · simpa only [tM, b1 121 (by omega) (by omega)] using a2
          · rw [List.length_append, List.length_cons, List.length_nil]; omega
      refine pp_go rfl sk_X9_sum_27 ?_
      simp (disch := omega) only [sg_X9_sum_27, sw_c, sw_n, sx, sf_4, sv_i, sv_j, sv_r, sv_q1, sv_q0, sv_1i, sv_1r, sv_2, sl_i, sl_j, sl_a, sl_v, sp_p, sp_f1, sp_f2, sc_w, sc_c, sc_r, sc_f, sc_a, sc_k, pp_in, pp_al, ↓reduceIte, Nat.reduceEqDiff, Nat.reduceLT, Nat.reduceLeDiff, Nat.reduceAdd, Nat.reduceSub, Nat.reduceMul, List.length_cons, List.length_nil, true_and, and_true, and_self, true_implies, eq_self, not_true_eq_false, not_false_eq_true, false_implies, implies_true, false_and, and_false, Bool.false_eq_true, or_true, true_or, or_false, false_or, Classical.not_not, Nat.le_refl, Nat.lt_irrefl, Bool.true_eq_false, n_lit, n_a, n_c, n_s, n_b, n_m, n_g, n_w, n_n, rk_X9_sum, hM, e15]
      refine ⟨fun q => ?_, fun q => ?_⟩
      · refine pp_go rfl sk_X9_sum_40 ?_
        simp (disch := omega) only [sg_X9_sum_40, sw_c, sw_n, sx, sf_4, sv_i, sv_j, sv_r, sv_q1, sv_q0, sv_1i, sv_1r, sv_2, sl_i, sl_j, sl_a, sl_v, sp_p, sp_f1, sp_f2, sc_w, sc_c, sc_r, sc_f, sc_a, sc_k, pp_in, pp_al, ↓reduceIte, Nat.reduceEqDiff, Nat.reduceLT, Nat.reduceLeDiff, Nat.reduceAdd, Nat.reduceSub, Nat.reduceMul, List.length_cons, List.length_nil, true_and, and_true, and_self, true_implies, eq_self, not_true_eq_false, not_false_eq_true, false_implies, implies_true, false_and, and_false, Bool.false_eq_true, or_true, true_or, or_false, false_or, Classical.not_not, Nat.le_refl, Nat.lt_irrefl, Bool.true_eq_false, n_lit, n_a, n_c, n_s, n_b, n_m, n_g, n_w, n_n, rk_X9_sum]
        exact KS _ 5 (by rw [if_neg q]) (by decide)
      · exact KS _ 4 (by rw [if_pos q]) (by decide)
    refine pp_go rfl sk_X9_sum_9 ?_
    simp (disch := omega) only [sg_X9_sum_9, sw_c, sw_n, sx, sf_4, sv_i, sv_j, sv_r, sv_q1, sv_q0, sv_1i, sv_1r, sv_2, sl_i, sl_j, sl_a, sl_v, sp_p, sp_f1, sp_f2, sc_w, sc_c, sc_r, sc_f, sc_a, sc_k, pp_in, pp_al, ↓reduceIte, Nat.reduceEqDiff, Nat.reduceLT, Nat.reduceLeDiff, Nat.reduceAdd, Nat.reduceSub, Nat.reduceMul, List.length_cons, List.length_nil, true_and, and_true, and_self, true_implies, eq_self, not_true_eq_false, not_false_eq_true, false_implies, implies_true, false_and, and_false, Bool.false_eq_true, or_true, true_or, or_false, false_or, Classical.not_not, Nat.le_refl, Nat.lt_irrefl, Bool.true_eq_false, n_lit, n_a, n_c, n_s, n_b, n_m, n_g, n_w, n_n, rk_X9_sum, hM]
    refine m_isSignHere hM ht (by omega) ?_
    simp (disch := omega) only [sw_c, sw_n, sx, sf_4, sv_i, sv_j, sv_r, sv_q1, sv_q0, sv_1i, sv_1r, sv_2, sl_i, sl_j, sl_a, sl_v, sp_p, sp_f1, sp_f2, sc_w, sc_c, sc_r, sc_f, sc_a, sc_k, pp_in, pp_al, ↓reduceIte, Nat.reduceEqDiff, Nat.reduceLT, Nat.reduceLeDiff, Nat.reduceAdd, Nat.reduceSub, Nat.reduceMul, List.length_cons, List.length_nil, true_and, and_true, and_self, true_implies, eq_self, not_true_eq_false, not_false_eq_true, false_implies, implies_true, false_and, and_false, Bool.false_eq_true, or_true, true_or, or_false, false_or, Classical.not_not, Nat.le_refl, Nat.lt_irrefl, Bool.true_eq_false, n_lit, n_a, n_c, n_s, n_b, n_m, n_g, n_w, n_n, rk_X9_sum, hM]
    refine ⟨fun s1 => KL (Or.inl s1), fun s1 => ?_⟩
    refine m_isSignHere hM ht (by omega) ?_
    simp (disch := omega) only [sw_c, sw_n, sx, sf_4, sv_i, sv_j, sv_r, sv_q1, sv_q0, sv_1i, sv_1r, sv_2, sl_i, sl_j, sl_a, sl_v, sp_p, sp_f1, sp_f2, sc_w, sc_c, sc_r, sc_f, sc_a, sc_k, pp_in, pp_al, ↓reduceIte, Nat.reduceEqDiff, Nat.reduceLT, Nat.reduceLeDiff, Nat.reduceAdd, Nat.reduceSub, Nat.reduceMul, List.length_cons, List.length_nil, true_and, and_true, and_self, true_implies, eq_self, not_true_eq_false, not_false_eq_true, false_implies, implies_true, false_and, and_false, Bool.false_eq_true, or_true, true_or, or_false, false_or, Classical.not_not, Nat.le_refl, Nat.lt_irrefl, Bool.true_eq_false, n_lit, n_a, n_c, n_s, n_b, n_m, n_g, n_w, n_n, rk_X9_sum, hM]
    refine ⟨fun s2 => KE (fun z => z.elim s1 s2), fun s2 => KL (Or.inr s2)⟩
theorem m_sum {F : TK → List Nat → PR} {o m : Nat} (hF : cSum g (h + 7) mi_X9_term b n F o) (gF : pgd b n F m) : cSum g (h + 8) mi_X9_sum b n (jnd b n 43 45 4 5 F) o := by
  intro sh I J R P t c hM hx ht h16 hc h20 hl hP
  refine pp_st0 [(0, .ref 121)] ok_X9_sum rfl (Nat.le_of_ble_eq_true rfl) rfl ?_
  have h7 := hx.2.2.1
  unfold jnd at hP
  refine pp_go rfl sk_X9_sum_0 ?_
  simp (disch := omega) only [sg_X9_sum_0, sw_c, sw_n, sx, sf_4, sv_i, sv_j, sv_r, sv_q1, sv_q0, sv_1i, sv_1r, sv_2, sl_i, sl_j, sl_a, sl_v, sp_p, sp_f1, sp_f2, sc_w, sc_c, sc_r, sc_f, sc_a, sc_k, pp_in, pp_al, ↓reduceIte, Nat.reduceEqDiff, Nat.reduceLT, Nat.reduceLeDiff, Nat.reduceAdd, Nat.reduceSub, Nat.reduceMul, List.length_cons, List.length_nil, true_and, and_true, and_self, true_implies, eq_self, not_true_eq_false, not_false_eq_true, false_implies, implies_true, false_and, and_false, Bool.false_eq_true, or_true, true_or, or_false, false_or, Classical.not_not, Nat.le_refl, Nat.lt_irrefl, Bool.true_eq_false, n_lit, n_a, n_c, n_s, n_b, n_m, n_g, n_w, n_n, rk_X9_sum, hM]
  refine hF _ _ _ _ _ t c hM hx ht h16 hc h20 hl ?_
  cases hr : F t c with
  | inl er =>
    rw [hr] at hP
    intro I2 a1 a2 a3
    simp (disch := omega) only [sw_c, sw_n, sx, sf_4, sv_i, sv_j, sv_r, sv_q1, sv_q0, sv_1i, sv_1r, sv_2, sl_i, sl_j, sl_a, sl_v, sp_p, sp_f1, sp_f2, sc_w, sc_c, sc_r, sc_f, sc_a, sc_k, pp_in, pp_al, ↓reduceIte, Nat.reduceEqDiff, Nat.reduceLT, Nat.reduceLeDiff, Nat.reduceAdd, Nat.reduceSub, Nat.reduceMul, List.length_cons, List.length_nil, true_and, and_true, and_self, true_implies, eq_self, not_true_eq_false, not_false_eq_true, false_implies, implies_true, false_and, and_false, Bool.false_eq_true, or_true, true_or, or_false, false_or, Classical.not_not, Nat.le_refl, Nat.lt_irrefl, Bool.true_eq_false, n_lit, n_a, n_c, n_s, n_b, n_m, n_g, n_w, n_n, rk_X9_sum]
    exact hP I2 a1 a2 a3
  | inr r =>
    obtain ⟨t2, c2⟩ := r
    rw [hr] at hP
    have gg := gF _ _ _ _ ht.1 hr
    have g1 := tk_b gg.1
    intro I2 a1 a2 a3
    dsimp only at a2 a3 hP
    simp (disch := omega) only [sw_c, sw_n, sx, sf_4, sv_i, sv_j, sv_r, sv_q1, sv_q0, sv_1i, sv_1r, sv_2, sl_i, sl_j, sl_a, sl_v, sp_p, sp_f1, sp_f2, sc_w, sc_c, sc_r, sc_f, sc_a, sc_k, pp_in, pp_al, ↓reduceIte, Nat.reduceEqDiff, Nat.reduceLT, Nat.reduceLeDiff, Nat.reduceAdd, Nat.reduceSub, Nat.reduceMul, List.length_cons, List.length_nil, true_and, and_true, and_self, true_implies, eq_self, not_true_eq_false, not_false_eq_true, false_implies, implies_true, false_and, and_false, Bool.false_eq_true, or_true, true_or, or_false, false_or, Classical.not_not, Nat.le_refl, Nat.lt_irrefl, Bool.true_eq_false, n_lit, n_a, n_c, n_s, n_b, n_m, n_g, n_w, n_n, rk_X9_sum]
    exact m_sum_l hF gF 700 sh I2 J R P t2 c2 _ (Or.inl rfl) (by omega) hM (xM_fr hx (a1.2.2.2 11 (by omega)) (a1.1 130 (by omega) (by omega) (by omega))) a2 ((a1.2.2.2 16 (by omega)).trans h16) a3 ((a1.2.2.2 20 (by omega)).trans h20) (by omega) (pF_fr a1 hP)
theorem m_sumN : ∀ r, r ≤ 5 → cSum g (h + 3 * r + 8) mi_X9_sum b n (sumN b n r) (5 - r) := by
  have step : ∀ r k, r ≤ 5 → ((5 - r = 5 ∧ opN b n r = none) ∨ (5 - r < 5 ∧ ∃ s, opN b n r = some s ∧ cSum g (k + 5) mi_X9_sum b n s (5 - r + 1))) → cSum g (k + 8) mi_X9_sum b n (sumN b n r) (5 - r) := fun r k hr hop => by
    have gs := sumN_g (b := b) (n := n) r
    exact m_sum (m_term (m_factor hop) gs.2.2) gs.2.1
  intro r
  induction r with
  | zero => intro _; exact step 0 h (by omega) (Or.inl ⟨rfl, rfl⟩)
  | succ r ih =>
    intro hr
    rw [show h + 3 * (r + 1) + 8 = (h + 3 * r + 3) + 8 by omega]
    refine step (r + 1) (h + 3 * r + 3) hr (Or.inr ⟨by omega, _, rfl, ?_⟩)
    rw [show 5 - (r + 1) + 1 = 5 - r by omega]
    exact ih (by omega)
end
