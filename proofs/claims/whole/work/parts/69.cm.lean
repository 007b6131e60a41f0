/-! THE CLASS, 22: parse -/
set_option maxHeartbeats 4000000
set_option maxRecDepth 100000
abbrev T00 : TM := (t00, fun _ => 0, fun _ => 0, [1])
theorem dG_00 : dG D00 = G00 := by
  refine Prod.ext ?_ rfl
  funext i
  show (if i = 7 then t00 0 else if i = 8 then t00 2 else if 9 ≤ i ∧ i < 9 + t00 0 then 0 else if 17 ≤ i ∧ i < 17 + t00 2 then 0 else if 33 ≤ i ∧ i < 33 + t00 2 then 0 else 0) = 0
  repeat' split
  all_goals rfl
theorem sD00_s : ∀ i, D00.2.2.2.2.2.2 i = false := fun _ => rfl
section
variable {g : pp_G} {h : Nat} {sh : List (Nat × Nat)} {I : Nat → Nat → Int32} {J : Nat → Nat → Int64} {R : Nat → Nat → Option Nat} {w : pp_W} {P : pp_R → pp_W → Prop} {b : Nat → Nat} {n : Nat} {t : TK} {D : DR} {A : AS} {T : TM}
theorem c_reset {a a1 a2 a3 a4 a5 a6 : Nat} (hs : sTx sh R a a1 a2 a3 a4 a5 a6) (ne : (a = a4) = False ∧ (a4 = a) = False ∧ (a = a5) = False ∧ (a5 = a) = False ∧ (a4 = a5) = False ∧ (a5 = a4) = False) (hP : ∀ I', (∀ c, c ≠ a → c ≠ a4 → c ≠ a5 → I' c = I c) → cTx I' a a1 a2 a3 a4 a5 T00 → P (.inl none) (sh, I', J, R)) : pp_MW g (h + 2) mi_X6_reset [.ref a] (sh, I, J, R) P := by
  refine pp_st0 [(0, .ref a)] ok_X6_reset rfl (Nat.le_of_ble_eq_true rfl) rfl ?_
  obtain ⟨q0, q1, q2, q3, q4, q5, q6, r1, r2, r3, r4, r5, r6⟩ := hs
  refine pp_go rfl sk_X6_reset_0 ?_
  simp only [sg_X6_reset_0, sw_c, sw_n, sx, sf_4, sv_i, sv_j, sv_r, sv_q1, sv_q0, sv_1i, sv_1r, sv_2, sl_i, sl_j, sl_a, sl_v, sp_p, sp_f1, sp_f2, sc_w, sc_c, sc_r, sc_f, sc_a, sc_k, pp_in, pp_al, ↓reduceIte, Nat.reduceEqDiff, Nat.reduceLT, Nat.reduceLeDiff, Nat.reduceAdd, Nat.reduceSub, Nat.reduceMul, List.length_cons, List.length_nil, true_and, and_true, and_self, true_implies, eq_self, not_true_eq_false, not_false_eq_true, false_implies, implies_true, false_and, and_false, Bool.false_eq_true, or_true, true_or, or_false, false_or, Classical.not_not, Nat.le_refl, Nat.lt_irrefl, Bool.true_eq_false, n_lit, n_a, n_c, n_s, n_b, n_m, n_g, n_w, n_n, q0, r4, q4, ne]
  refine c_clear q4 ?_
  simp only [sw_c, sw_n, sx, sf_4, sv_i, sv_j, sv_r, sv_q1, sv_q0, sv_1i, sv_1r, sv_2, sl_i, sl_j, sl_a, sl_v, sp_p, sp_f1, sp_f2, sc_w, sc_c, sc_r, sc_f, sc_a, sc_k, pp_in, pp_al, ↓reduceIte, Nat.reduceEqDiff, Nat.reduceLT, Nat.reduceLeDiff, Nat.reduceAdd, Nat.reduceSub, Nat.reduceMul, List.length_cons, List.length_nil, true_and, and_true, and_self, true_implies, eq_self, not_true_eq_false, not_false_eq_true, false_implies, implies_true, false_and, and_false, Bool.false_eq_true, or_true, true_or, or_false, false_or, Classical.not_not, Nat.le_refl, Nat.lt_irrefl, Bool.true_eq_false, n_lit, n_a, n_c, n_s, n_b, n_m, n_g, n_w, n_n, q0, r4, q4, ne]
  refine c_add (F := a4) (K := a5) (m := 0) q4 q5 r5 ⟨ne.2.2.2.2.1, ne.2.2.2.2.2⟩ (by simp only [n_m, ↓reduceIte]) (by omega) (fun I' b1 b2 b3 b4 => ?_)
  have b4 := b4 (by omega)
  have n1 : a ≠ a4 := fun e => by rw [ne.1] at e; exact e
  have n2 : a ≠ a5 := fun e => by rw [ne.2.2.1] at e; exact e
  have ea := b1 a n1 n2
  simp only [n_m, ne, ↓reduceIte] at ea
  simp only [sw_c, sw_n, sx, sf_4, sv_i, sv_j, sv_r, sv_q1, sv_q0, sv_1i, sv_1r, sv_2, sl_i, sl_j, sl_a, sl_v, sp_p, sp_f1, sp_f2, sc_w, sc_c, sc_r, sc_f, sc_a, sc_k, pp_in, pp_al, ↓reduceIte, Nat.reduceEqDiff, Nat.reduceLT, Nat.reduceLeDiff, Nat.reduceAdd, Nat.reduceSub, Nat.reduceMul, List.length_cons, List.length_nil, true_and, and_true, and_self, true_implies, eq_self, not_true_eq_false, not_false_eq_true, false_implies, implies_true, false_and, and_false, Bool.false_eq_true, or_true, true_or, or_false, false_or, Classical.not_not, Nat.le_refl, Nat.lt_irrefl, Bool.true_eq_false, n_lit, n_a, n_c, n_s, n_b, n_m, n_g, n_w, n_n]
  refine hP I' (fun c x y z => ?_) ⟨?_, ?_, ?_, ?_, ?_, ?_, ?_, ?_, ?_, ?_, ?_, ?_, fun v hv => absurd hv (Nat.not_lt_zero _), fun v hv => absurd hv (Nat.not_lt_zero _), fun v hv => absurd hv (Nat.not_lt_zero _), b4.1, fun i hi => ?_⟩
  · rw [b1 c y z]; simp only [n_m]; rw [if_neg y, if_neg x]
  · rw [ea]; simp only [n_m, ↓reduceIte, Nat.reduceEqDiff]; rfl
  · rw [ea]; simp only [n_m, ↓reduceIte, Nat.reduceEqDiff]; rfl
  · rw [ea]; simp only [n_m, ↓reduceIte, Nat.reduceEqDiff]; rfl
  · rw [ea]; simp only [n_m, ↓reduceIte, Nat.reduceEqDiff]; rfl
  · rw [ea]; simp only [n_m, ↓reduceIte, Nat.reduceEqDiff]; rfl
  · rw [ea]; simp only [n_m, ↓reduceIte, Nat.reduceEqDiff]; rfl
  · rw [ea]; simp only [n_m, ↓reduceIte, Nat.reduceEqDiff]; rfl
  · rw [ea]; simp only [n_m, ↓reduceIte, Nat.reduceEqDiff]; rfl
  · rw [ea]; simp only [n_m, ↓reduceIte, Nat.reduceEqDiff]; rfl
  · rw [ea]; simp only [n_m, ↓reduceIte, Nat.reduceEqDiff]; rfl
  · rw [ea]; simp only [n_m, ↓reduceIte, Nat.reduceEqDiff]; rfl
  · rw [ea]; simp only [n_m, ↓reduceIte, Nat.reduceEqDiff]; rfl
  · have hi : i < 1 := hi
    have i0 : i = 0 := by omega
    subst i0
    rw [b4.2.1]; rfl
abbrev fW (I I' : Nat → Nat → Int32) (J J' : Nat → Nat → Int64) : Prop := ∀ a, (a < 66 ∨ a = 73 ∨ (83 < a ∧ a ≠ 94)) → I' a = I a ∧ J' a = J a
theorem c_begin {k : Nat} (hC : sC sh R) (h65 : ∀ i, i < 700 → I 65 i = sgn8 (b i)) (hb : ∀ i, b i < 256) (hk : k ≤ 700) (hP : ∀ I', (∀ a, a ≠ 94 → I' a = I a) → xC I' b k → tC I' b k (tok b k 0) → P (.inl none) (sh, I', J, R)) : pp_MW g (h + 3) mi_X7_begin [.ref 94, .int (Int32.ofNat k)] (sh, I, J, R) P := by
  refine pp_st0 [(0, .ref 94), (1, .int (Int32.ofNat k))] ok_X7_begin rfl (Nat.le_of_ble_eq_true rfl) rfl ?_
  have q : ¬ 700 < k := by omega
  refine pp_go rfl sk_X7_begin_0 ?_
  simp (disch := omega) only [sg_X7_begin_0, sw_c, sw_n, sx, sf_4, sv_i, sv_j, sv_r, sv_q1, sv_q0, sv_1i, sv_1r, sv_2, sl_i, sl_j, sl_a, sl_v, sp_p, sp_f1, sp_f2, sc_w, sc_c, sc_r, sc_f, sc_a, sc_k, pp_in, pp_al, ↓reduceIte, Nat.reduceEqDiff, Nat.reduceLT, Nat.reduceLeDiff, Nat.reduceAdd, Nat.reduceSub, Nat.reduceMul, List.length_cons, List.length_nil, true_and, and_true, and_self, true_implies, eq_self, not_true_eq_false, not_false_eq_true, false_implies, implies_true, false_and, and_false, Bool.false_eq_true, or_true, true_or, or_false, false_or, Classical.not_not, Nat.le_refl, Nat.lt_irrefl, Bool.true_eq_false, n_lit, n_a, n_c, n_s, n_b, n_m, n_g, n_w, n_n, hC, q]
  have x1 : xC (pp_s I 94 (va_up (va_up (I 94) 1 (Int32.ofNat k)) 2 (Int32.ofNat 0))) b k := ⟨by simp only [n_m, ↓reduceIte, Nat.reduceEqDiff], fun i hi => by rw [pp_s_ne _ _ (by omega)]; exact h65 i hi, hk, hb⟩
  refine c_next (p := 0) hC x1 (Nat.zero_le _) (by simp only [n_m, ↓reduceIte]) (fun I' f t => ?_)
  simp (disch := omega) only [sw_c, sw_n, sx, sf_4, sv_i, sv_j, sv_r, sv_q1, sv_q0, sv_1i, sv_1r, sv_2, sl_i, sl_j, sl_a, sl_v, sp_p, sp_f1, sp_f2, sc_w, sc_c, sc_r, sc_f, sc_a, sc_k, pp_in, pp_al, ↓reduceIte, Nat.reduceEqDiff, Nat.reduceLT, Nat.reduceLeDiff, Nat.reduceAdd, Nat.reduceSub, Nat.reduceMul, List.length_cons, List.length_nil, true_and, and_true, and_self, true_implies, eq_self, not_true_eq_false, not_false_eq_true, false_implies, implies_true, false_and, and_false, Bool.false_eq_true, or_true, true_or, or_false, false_or, Classical.not_not, Nat.le_refl, Nat.lt_irrefl, Bool.true_eq_false, n_lit, n_a, n_c, n_s, n_b, n_m, n_g, n_w, n_n]
  exact hP I' (fun a ha => (f.1 a ha).trans (pp_s_ne _ _ ha)) (xC_fr x1 f.2 (f.1 65 (by omega))) t
theorem c_readPool {k : Nat} (hC : sC sh R) (h65 : ∀ i, i < 700 → I 65 i = sgn8 (b i)) (hb : ∀ i, b i < 256) (hk : k ≤ 700) (h84 : cL I J 84 G00)
    (hE : ∀ e, lps b k 700 (tok b k 0) D00 = .inl e → ∀ I' J', fW I I' J J' → I' 94 4 = Int32.ofNat e.2 → P (.inl (some (.int (Int32.ofNat e.1)))) (sh, I', J', R))
    (hP : ∀ q, lps b k 700 (tok b k 0) D00 = .inr q → ∀ I' J', fW I I' J J' → PC b k I' J' q.1 q.2 → P (.inl (some (.int (Int32.ofNat 0)))) (sh, I', J', R)) : pp_MW g (h + 25) mi_X5_readPool [.ref 66, .int (Int32.ofNat k)] (sh, I, J, R) P := by
  refine pp_st0 [(0, .ref 66), (1, .int (Int32.ofNat k))] ok_X5_readPool rfl (Nat.le_of_ble_eq_true rfl) rfl ?_
  refine pp_go rfl sk_X5_readPool_0 ?_
  simp (disch := omega) only [sg_X5_readPool_0, sw_c, sw_n, sx, sf_4, sv_i, sv_j, sv_r, sv_q1, sv_q0, sv_1i, sv_1r, sv_2, sl_i, sl_j, sl_a, sl_v, sp_p, sp_f1, sp_f2, sc_w, sc_c, sc_r, sc_f, sc_a, sc_k, pp_in, pp_al, ↓reduceIte, Nat.reduceEqDiff, Nat.reduceLT, Nat.reduceLeDiff, Nat.reduceAdd, Nat.reduceSub, Nat.reduceMul, List.length_cons, List.length_nil, true_and, and_true, and_self, true_implies, eq_self, not_true_eq_false, not_false_eq_true, false_implies, implies_true, false_and, and_false, Bool.false_eq_true, or_true, true_or, or_false, false_or, Classical.not_not, Nat.le_refl, Nat.lt_irrefl, Bool.true_eq_false, n_lit, n_a, n_c, n_s, n_b, n_m, n_g, n_w, n_n, rk_X5_readPool, hC]
  refine c_reset (a := 67) (a4 := 71) (a5 := 72) hC.2.2.2.1 ⟨by simp, by simp, by simp, by simp, by simp, by simp⟩ (fun I1 f1 t1 => ?_)
  simp (disch := omega) only [sw_c, sw_n, sx, sf_4, sv_i, sv_j, sv_r, sv_q1, sv_q0, sv_1i, sv_1r, sv_2, sl_i, sl_j, sl_a, sl_v, sp_p, sp_f1, sp_f2, sc_w, sc_c, sc_r, sc_f, sc_a, sc_k, pp_in, pp_al, ↓reduceIte, Nat.reduceEqDiff, Nat.reduceLT, Nat.reduceLeDiff, Nat.reduceAdd, Nat.reduceSub, Nat.reduceMul, List.length_cons, List.length_nil, true_and, and_true, and_self, true_implies, eq_self, not_true_eq_false, not_false_eq_true, false_implies, implies_true, false_and, and_false, Bool.false_eq_true, or_true, true_or, or_false, false_or, Classical.not_not, Nat.le_refl, Nat.lt_irrefl, Bool.true_eq_false, n_lit, n_a, n_c, n_s, n_b, n_m, n_g, n_w, n_n, rk_X5_readPool, hC]
  refine c_copyFrom (L := 74) (M := 84) (G := G00) hC.2.2.2.2.2.1 hC.2.2.2.2.2.2.1 (Or.inl (by omega)) (cL_cg h84 (fun a x y => f1 a (by omega) (by omega) (by omega)) (fun _ _ _ => rfl)) (fun I2 J2 f2 w2 => ?_)
  simp (disch := omega) only [sw_c, sw_n, sx, sf_4, sv_i, sv_j, sv_r, sv_q1, sv_q0, sv_1i, sv_1r, sv_2, sl_i, sl_j, sl_a, sl_v, sp_p, sp_f1, sp_f2, sc_w, sc_c, sc_r, sc_f, sc_a, sc_k, pp_in, pp_al, ↓reduceIte, Nat.reduceEqDiff, Nat.reduceLT, Nat.reduceLeDiff, Nat.reduceAdd, Nat.reduceSub, Nat.reduceMul, List.length_cons, List.length_nil, true_and, and_true, and_self, true_implies, eq_self, not_true_eq_false, not_false_eq_true, false_implies, implies_true, false_and, and_false, Bool.false_eq_true, or_true, true_or, or_false, false_or, Classical.not_not, Nat.le_refl, Nat.lt_irrefl, Bool.true_eq_false, n_lit, n_a, n_c, n_s, n_b, n_m, n_g, n_w, n_n, rk_X5_readPool, hC]
  refine c_begin (b := b) hC (fun i hi => ?_) hb hk (fun I3 f3 x3 t3 => ?_)
  · rw [pp_s_ne _ _ (by omega), (f2 65 (by omega)).1, f1 65 (by omega) (by omega) (by omega)]; exact h65 i hi
  simp (disch := omega) only [sw_c, sw_n, sx, sf_4, sv_i, sv_j, sv_r, sv_q1, sv_q0, sv_1i, sv_1r, sv_2, sl_i, sl_j, sl_a, sl_v, sp_p, sp_f1, sp_f2, sc_w, sc_c, sc_r, sc_f, sc_a, sc_k, pp_in, pp_al, ↓reduceIte, Nat.reduceEqDiff, Nat.reduceLT, Nat.reduceLeDiff, Nat.reduceAdd, Nat.reduceSub, Nat.reduceMul, List.length_cons, List.length_nil, true_and, and_true, and_self, true_implies, eq_self, not_true_eq_false, not_false_eq_true, false_implies, implies_true, false_and, and_false, Bool.false_eq_true, or_true, true_or, or_false, false_or, Classical.not_not, Nat.le_refl, Nat.lt_irrefl, Bool.true_eq_false, n_lit, n_a, n_c, n_s, n_b, n_m, n_g, n_w, n_n, rk_X5_readPool]
  have fr : fW I I3 J J2 := fun a x => ⟨by rw [f3 a (by omega), pp_s_ne _ _ (by omega), (f2 a (by omega)).1, f1 a (by omega) (by omega) (by omega)], (f2 a (by omega)).2⟩
  have p3 : PC b k I3 J2 (tok b k 0) D00 := by
    refine ⟨x3, t3, ?_, ?_, ⟨0, by omega, ?_, fun i hi => by simp [bit, D00]⟩, D00_g⟩
    · rw [dG_00]
      exact cL_cg (L := 74) w2 (fun a x y => by rw [f3 a (by omega), pp_s_ne _ _ (by omega)]) (fun _ _ _ => rfl)
    · refine cV_cg (I := I1) (D := D00) t1 (fun a x y => ?_)
      rw [f3 a (by omega), pp_s_ne _ _ (by omega), (f2 a (by omega)).1]
    · rw [f3 66 (by omega)]; simp only [n_m, ↓reduceIte]
  refine c_rp_l hC 700 0 I3 (tok b k 0) D00 (by omega) p3 ?_
  cases hr : lps b k 700 (tok b k 0) D00 with
  | inl e => exact fun I' a c => hE e hr I' J2 (fun x y => ⟨(a.1 x y).trans (fr x y).1, (fr x y).2⟩) c
  | inr q => exact fun I' a c => hP q hr I' J2 (fun x y => ⟨(a.1 x y).trans (fr x y).1, (fr x y).2⟩) c
theorem c_Fcopy (hC : sC sh R) (hP : P (.inl none) (sh, pp_s (pp_s I 100 (va_cpy (I 72) (I 100) 0 0 700)) 99 (va_up (I 99) 1 (I 71 1)), J, R)) : pp_MW g (h + 1) mi_X2_copyFrom [.ref 99, .ref 71] (sh, I, J, R) P := by
  refine pp_st0 [(0, .ref 99), (1, .ref 71)] ok_X2_copyFrom rfl (Nat.le_of_ble_eq_true rfl) rfl ?_
  refine pp_go rfl sk_X2_copyFrom_0 ?_
  simp only [sg_X2_copyFrom_0, sw_c, sw_n, sx, sf_4, sv_i, sv_j, sv_r, sv_q1, sv_q0, sv_1i, sv_1r, sv_2, sl_i, sl_j, sl_a, sl_v, sp_p, sp_f1, sp_f2, sc_w, sc_c, sc_r, sc_f, sc_a, sc_k, pp_in, pp_al, ↓reduceIte, Nat.reduceEqDiff, Nat.reduceLT, Nat.reduceLeDiff, Nat.reduceAdd, Nat.reduceSub, Nat.reduceMul, List.length_cons, List.length_nil, true_and, and_true, and_self, true_implies, eq_self, not_true_eq_false, not_false_eq_true, false_implies, implies_true, false_and, and_false, Bool.false_eq_true, or_true, true_or, or_false, false_or, Classical.not_not, Nat.le_refl, Nat.lt_irrefl, Bool.true_eq_false, n_lit, n_a, n_c, n_s, n_b, n_m, n_g, n_w, n_n, hC, Option.map_some, Nat.zero_le, Nat.zero_add]
  exact hP
theorem c_tcopy (hC : sC sh R) (hV : cTx I 67 68 69 70 71 72 T) (h1 : T.1 1 ≤ 4) (h3 : T.1 3 ≤ 6) (hl : T.2.2.2.length ≤ 700) (hP : ∀ I', (∀ a, a < 95 ∨ 101 ≤ a → I' a = I a) → cT I' T → P (.inl none) (sh, I', J, R)) : pp_MW g (h + 2) mi_X6_copyFrom [.ref 95, .ref 67] (sh, I, J, R) P := by
  refine pp_st0 [(0, .ref 95), (1, .ref 67)] ok_X6_copyFrom rfl (Nat.le_of_ble_eq_true rfl) rfl ?_
  refine pp_go rfl sk_X6_copyFrom_0 ?_
  simp only [sg_X6_copyFrom_0, sw_c, sw_n, sx, sf_4, sv_i, sv_j, sv_r, sv_q1, sv_q0, sv_1i, sv_1r, sv_2, sl_i, sl_j, sl_a, sl_v, sp_p, sp_f1, sp_f2, sc_w, sc_c, sc_r, sc_f, sc_a, sc_k, pp_in, pp_al, ↓reduceIte, Nat.reduceEqDiff, Nat.reduceLT, Nat.reduceLeDiff, Nat.reduceAdd, Nat.reduceSub, Nat.reduceMul, List.length_cons, List.length_nil, true_and, and_true, and_self, true_implies, eq_self, not_true_eq_false, not_false_eq_true, false_implies, implies_true, false_and, and_false, Bool.false_eq_true, or_true, true_or, or_false, false_or, Classical.not_not, Nat.le_refl, Nat.lt_irrefl, Bool.true_eq_false, n_lit, n_a, n_c, n_s, n_b, n_m, n_g, n_w, n_n, hC, Option.map_some, Nat.zero_le, Nat.zero_add]
  refine c_Fcopy hC ?_
  simp only [sw_c, sw_n, sx, sf_4, sv_i, sv_j, sv_r, sv_q1, sv_q0, sv_1i, sv_1r, sv_2, sl_i, sl_j, sl_a, sl_v, sp_p, sp_f1, sp_f2, sc_w, sc_c, sc_r, sc_f, sc_a, sc_k, pp_in, pp_al, ↓reduceIte, Nat.reduceEqDiff, Nat.reduceLT, Nat.reduceLeDiff, Nat.reduceAdd, Nat.reduceSub, Nat.reduceMul, List.length_cons, List.length_nil, true_and, and_true, and_self, true_implies, eq_self, not_true_eq_false, not_false_eq_true, false_implies, implies_true, false_and, and_false, Bool.false_eq_true, or_true, true_or, or_false, false_or, Classical.not_not, Nat.le_refl, Nat.lt_irrefl, Bool.true_eq_false, n_lit, n_a, n_c, n_s, n_b, n_m, n_g, n_w, n_n]
  obtain ⟨v0, v3, w4, w5, w6, w7, w8, w9, w10, w11, w12, w13, r1, r2, r3, r4, r5⟩ := hV
  refine hP _ (fun a ha => ?_) ⟨?_, ?_, ?_, ?_, ?_, ?_, ?_, ?_, ?_, ?_, ?_, ?_, fun k hk => ?_, fun k hk => ?_, fun k hk => ?_, ?_, fun k hk => ?_⟩
  · simp only [n_m]
    repeat rw [if_neg (by omega)]
  all_goals simp only [n_m, ↓reduceIte, Nat.reduceEqDiff]
  · exact v0
  · exact v3
  · exact w4
  · exact w5
  · exact w6
  · exact w7
  · exact w8
  · exact w9
  · exact w10
  · exact w11
  · exact w12
  · exact w13
  · rw [cpy_0 _ _ (by omega)]; exact r1 k hk
  · rw [cpy_0 _ _ (by omega)]; exact r2 k hk
  · rw [cpy_0 _ _ (by omega)]; exact r3 k hk
  · exact r4
  · rw [cpy_0 _ _ (by omega)]; exact r5 k hk
/-- the picture, when nothing behind the parser is written but fields of the pool -/
theorem RC_F {I' : Nat → Nat → Int32} {J' : Nat → Nat → Int64} {B : Nat → Int8} {N : Nat} {E : Int32} (h : RC A sh I J R) (hf : ∀ a, 83 < a → a ≠ 94 → I' a = I a ∧ J' a = J a) (hB : ∀ i, i < 700 → I' 65 i = (B i).toInt32) (hN : I' 64 1 = Int32.ofNat N) (hE : I' 64 2 = E) : RC (B, N, E, aT A, aG A, aU A, aS A) sh I' J' R := by
  obtain ⟨h1, h2, h3, h4, h5, h6, h7, h8, h9⟩ := h
  refine ⟨cL_cg (L := 102) h1 (fun a x y => (hf a (by omega) (by omega)).1) (fun a x y => (hf a (by omega) (by omega)).2), cT_cg h2 (fun a x y => (hf a (by omega) (by omega)).1), hB, hN, hE, h6, ?_, ?_, cL_cg (L := 84) h9 (fun a x y => (hf a (by omega) (by omega)).1) (fun a x y => (hf a (by omega) (by omega)).2)⟩
  · obtain ⟨nw, u1, u2, u3, u4, u5⟩ := h7
    refine ⟨nw, u1, ?_, ?_, u4, fun i hi => ?_⟩
    · rw [(hf 118 (by omega) (by omega)).1]; exact u2
    · rw [(hf 118 (by omega) (by omega)).1]; exact u3
    · obtain ⟨L, l1, l2⟩ := u5 i hi
      have b := (h6.1 _ (by omega) L l1).1
      exact ⟨L, l1, cL_cg l2 (fun a x y => (hf a (by omega) (by omega)).1) (fun a x y => (hf a (by omega) (by omega)).2)⟩
  · intro s hs
    rcases h8 s hs with q | ⟨L, G, q1, q2, q3⟩
    · exact Or.inl q
    · have b := (h6.1 (10 + s) (by omega) L (by rw [ent, if_neg (by omega), show 10 + s - 10 = s by omega]; exact q1)).1
      exact Or.inr ⟨L, G, q1, q2, cL_cg q3 (fun a x y => (hf a (by omega) (by omega)).1) (fun a x y => (hf a (by omega) (by omega)).2)⟩
theorem c_startOver {T : TM} {G : LG} (hC : sC sh R) (hV : cTx I 67 68 69 70 71 72 T) (hW : cW I J G) (h1 : T.1 1 ≤ 4) (h3 : T.1 3 ≤ 6) (hl : T.2.2.2.length ≤ 700) (hP : ∀ I' J' R', (∀ a, a < 95 ∨ (112 ≤ a ∧ a ≠ 118) → I' a = I a ∧ J' a = J a) → I' 118 1 = I 118 1 → I' 118 2 = Int32.ofNat 0 → cT I' T → cG I' J' G → (∀ a, a ≠ 120 → R' a = R a) → R' 120 0 = none → R' 120 1 = none → P (.inl none) (sh, I', J', R')) : pp_MW g (h + 3) mi_X8_startOver [.ref 64] (sh, I, J, R) P := by
  refine pp_st0 [(0, .ref 64)] ok_X8_startOver rfl (Nat.le_of_ble_eq_true rfl) rfl ?_
  refine pp_go rfl sk_X8_startOver_0 ?_
  simp (disch := omega) only [sg_X8_startOver_0, sw_c, sw_n, sx, sf_4, sv_i, sv_j, sv_r, sv_q1, sv_q0, sv_1i, sv_1r, sv_2, sl_i, sl_j, sl_a, sl_v, sp_p, sp_f1, sp_f2, sc_w, sc_c, sc_r, sc_f, sc_a, sc_k, pp_in, pp_al, ↓reduceIte, Nat.reduceEqDiff, Nat.reduceLT, Nat.reduceLeDiff, Nat.reduceAdd, Nat.reduceSub, Nat.reduceMul, List.length_cons, List.length_nil, true_and, and_true, and_self, true_implies, eq_self, not_true_eq_false, not_false_eq_true, false_implies, implies_true, false_and, and_false, Bool.false_eq_true, or_true, true_or, or_false, false_or, Classical.not_not, Nat.le_refl, Nat.lt_irrefl, Bool.true_eq_false, n_lit, n_a, n_c, n_s, n_b, n_m, n_g, n_w, n_n, hC]
  refine c_tcopy hC hV h1 h3 hl (fun I1 f1 t1 => ?_)
  simp (disch := omega) only [sw_c, sw_n, sx, sf_4, sv_i, sv_j, sv_r, sv_q1, sv_q0, sv_1i, sv_1r, sv_2, sl_i, sl_j, sl_a, sl_v, sp_p, sp_f1, sp_f2, sc_w, sc_c, sc_r, sc_f, sc_a, sc_k, pp_in, pp_al, ↓reduceIte, Nat.reduceEqDiff, Nat.reduceLT, Nat.reduceLeDiff, Nat.reduceAdd, Nat.reduceSub, Nat.reduceMul, List.length_cons, List.length_nil, true_and, and_true, and_self, true_implies, eq_self, not_true_eq_false, not_false_eq_true, false_implies, implies_true, false_and, and_false, Bool.false_eq_true, or_true, true_or, or_false, false_or, Classical.not_not, Nat.le_refl, Nat.lt_irrefl, Bool.true_eq_false, n_lit, n_a, n_c, n_s, n_b, n_m, n_g, n_w, n_n, hC]
  refine c_copyFrom (L := 102) (M := 74) (G := G) hC.2.2.2.2.2.2.2 hC.2.2.2.2.2.1 (Or.inr (by omega)) (cL_cg (L := 74) hW (fun a x y => f1 a (by omega)) (fun _ _ _ => rfl)) (fun I2 J2 f2 g2 => ?_)
  simp (disch := omega) only [sw_c, sw_n, sx, sf_4, sv_i, sv_j, sv_r, sv_q1, sv_q0, sv_1i, sv_1r, sv_2, sl_i, sl_j, sl_a, sl_v, sp_p, sp_f1, sp_f2, sc_w, sc_c, sc_r, sc_f, sc_a, sc_k, pp_in, pp_al, ↓reduceIte, Nat.reduceEqDiff, Nat.reduceLT, Nat.reduceLeDiff, Nat.reduceAdd, Nat.reduceSub, Nat.reduceMul, List.length_cons, List.length_nil, true_and, and_true, and_self, true_implies, eq_self, not_true_eq_false, not_false_eq_true, false_implies, implies_true, false_and, and_false, Bool.false_eq_true, or_true, true_or, or_false, false_or, Classical.not_not, Nat.le_refl, Nat.lt_irrefl, Bool.true_eq_false, n_lit, n_a, n_c, n_s, n_b, n_m, n_g, n_w, n_n, hC]
  refine c_hclear hC ?_
  simp (disch := omega) only [sw_c, sw_n, sx, sf_4, sv_i, sv_j, sv_r, sv_q1, sv_q0, sv_1i, sv_1r, sv_2, sl_i, sl_j, sl_a, sl_v, sp_p, sp_f1, sp_f2, sc_w, sc_c, sc_r, sc_f, sc_a, sc_k, pp_in, pp_al, ↓reduceIte, Nat.reduceEqDiff, Nat.reduceLT, Nat.reduceLeDiff, Nat.reduceAdd, Nat.reduceSub, Nat.reduceMul, List.length_cons, List.length_nil, true_and, and_true, and_self, true_implies, eq_self, not_true_eq_false, not_false_eq_true, false_implies, implies_true, false_and, and_false, Bool.false_eq_true, or_true, true_or, or_false, false_or, Classical.not_not, Nat.le_refl, Nat.lt_irrefl, Bool.true_eq_false, n_lit, n_a, n_c, n_s, n_b, n_m, n_g, n_w, n_n]
  have q1 : ¬ 2 ≤ 0 := by omega
  have q2 : ¬ 2 ≤ 1 := by omega
  refine pp_go rfl sk_X8_startOver_37 ?_
  simp (disch := omega) only [sg_X8_startOver_37, sw_c, sw_n, sx, sf_4, sv_i, sv_j, sv_r, sv_q1, sv_q0, sv_1i, sv_1r, sv_2, sl_i, sl_j, sl_a, sl_v, sp_p, sp_f1, sp_f2, sc_w, sc_c, sc_r, sc_f, sc_a, sc_k, pp_in, pp_al, ↓reduceIte, Nat.reduceEqDiff, Nat.reduceLT, Nat.reduceLeDiff, Nat.reduceAdd, Nat.reduceSub, Nat.reduceMul, List.length_cons, List.length_nil, true_and, and_true, and_self, true_implies, eq_self, not_true_eq_false, not_false_eq_true, false_implies, implies_true, false_and, and_false, Bool.false_eq_true, or_true, true_or, or_false, false_or, Classical.not_not, Nat.le_refl, Nat.lt_irrefl, Bool.true_eq_false, n_lit, n_a, n_c, n_s, n_b, n_m, n_g, n_w, n_n, hC, q1]
  refine ⟨fun b hb => (by cases hb), ?_⟩
  refine pp_go rfl sk_X8_startOver_37 ?_
  simp (disch := omega) only [sg_X8_startOver_37, sw_c, sw_n, sx, sf_4, sv_i, sv_j, sv_r, sv_q1, sv_q0, sv_1i, sv_1r, sv_2, sl_i, sl_j, sl_a, sl_v, sp_p, sp_f1, sp_f2, sc_w, sc_c, sc_r, sc_f, sc_a, sc_k, pp_in, pp_al, ↓reduceIte, Nat.reduceEqDiff, Nat.reduceLT, Nat.reduceLeDiff, Nat.reduceAdd, Nat.reduceSub, Nat.reduceMul, List.length_cons, List.length_nil, true_and, and_true, and_self, true_implies, eq_self, not_true_eq_false, not_false_eq_true, false_implies, implies_true, false_and, and_false, Bool.false_eq_true, or_true, true_or, or_false, false_or, Classical.not_not, Nat.le_refl, Nat.lt_irrefl, Bool.true_eq_false, n_lit, n_a, n_c, n_s, n_b, n_m, n_g, n_w, n_n, hC, q2]
  refine ⟨fun b hb => (by cases hb), ?_⟩
  refine pp_go rfl sk_X8_startOver_37 ?_
  simp (disch := omega) only [sg_X8_startOver_37, sw_c, sw_n, sx, sf_4, sv_i, sv_j, sv_r, sv_q1, sv_q0, sv_1i, sv_1r, sv_2, sl_i, sl_j, sl_a, sl_v, sp_p, sp_f1, sp_f2, sc_w, sc_c, sc_r, sc_f, sc_a, sc_k, pp_in, pp_al, ↓reduceIte, Nat.reduceEqDiff, Nat.reduceLT, Nat.reduceLeDiff, Nat.reduceAdd, Nat.reduceSub, Nat.reduceMul, List.length_cons, List.length_nil, true_and, and_true, and_self, true_implies, eq_self, not_true_eq_false, not_false_eq_true, false_implies, implies_true, false_and, and_false, Bool.false_eq_true, or_true, true_or, or_false, false_or, Classical.not_not, Nat.le_refl, Nat.lt_irrefl, Bool.true_eq_false, n_lit, n_a, n_c, n_s, n_b, n_m, n_g, n_w, n_n, hC]
  refine pp_go rfl sk_X8_startOver_59 ?_
  simp (disch := omega) only [sg_X8_startOver_59, sw_c, sw_n, sx, sf_4, sv_i, sv_j, sv_r, sv_q1, sv_q0, sv_1i, sv_1r, sv_2, sl_i, sl_j, sl_a, sl_v, sp_p, sp_f1, sp_f2, sc_w, sc_c, sc_r, sc_f, sc_a, sc_k, pp_in, pp_al, ↓reduceIte, Nat.reduceEqDiff, Nat.reduceLT, Nat.reduceLeDiff, Nat.reduceAdd, Nat.reduceSub, Nat.reduceMul, List.length_cons, List.length_nil, true_and, and_true, and_self, true_implies, eq_self, not_true_eq_false, not_false_eq_true, false_implies, implies_true, false_and, and_false, Bool.false_eq_true, or_true, true_or, or_false, false_or, Classical.not_not, Nat.le_refl, Nat.lt_irrefl, Bool.true_eq_false, n_lit, n_a, n_c, n_s, n_b, n_m, n_g, n_w, n_n]
  refine hP _ J2 _ (fun a x => ⟨by rw [pp_s_ne _ _ (by omega), (f2 a (by omega)).1, f1 a (by omega)], (f2 a (by omega)).2⟩) ?_ ?_ (cT_cg t1 (fun a x y => by rw [pp_s_ne _ _ (by omega), (f2 a (by omega)).1])) (cL_cg (L := 102) g2 (fun a x y => pp_s_ne _ _ (by omega)) (fun _ _ _ => rfl)) (fun a x => ?_) ?_ ?_
  · simp only [n_m, ↓reduceIte, Nat.reduceEqDiff]; rw [(f2 118 (by omega)).1, f1 118 (by omega)]
  · simp only [n_m, ↓reduceIte]
  · simp only [n_m]; rw [if_neg x]
  · simp only [n_m, ↓reduceIte, Nat.reduceEqDiff]
  · simp only [n_m, ↓reduceIte, Nat.reduceEqDiff]
theorem lps_e : ∀ f (t : TK) (D : DR) (e : ER), lps b n f t D = .inl e → 0 < e.1 ∧ e.1 < 5 := by
  intro f
  induction f with
  | zero => intro t D e h; rw [lps] at h; cases h
  | succ f ih =>
    intro t D e h
    rw [lps] at h
    split at h
    · cases h
    · cases hs : stc b n t D with
      | inl z => rw [hs] at h; cases h; exact stc_e hs
      | inr q => rw [hs] at h; exact ih _ _ _ h
theorem c_position {m : Nat} (hC : sC sh R) (h4 : I 94 4 = Int32.ofNat m) (hP : P (.inl (some (.int (Int32.ofNat m)))) (sh, I, J, R)) : pp_MW g (h + 1) mi_X5_position [.ref 66] (sh, I, J, R) P := by
  refine pp_st0 [(0, .ref 66)] ok_X5_position rfl (Nat.le_of_ble_eq_true rfl) rfl ?_
  refine pp_go rfl sk_X5_position_0 ?_
  simp (disch := omega) only [sg_X5_position_0, sw_c, sw_n, sx, sf_4, sv_i, sv_j, sv_r, sv_q1, sv_q0, sv_1i, sv_1r, sv_2, sl_i, sl_j, sl_a, sl_v, sp_p, sp_f1, sp_f2, sc_w, sc_c, sc_r, sc_f, sc_a, sc_k, pp_in, pp_al, ↓reduceIte, Nat.reduceEqDiff, Nat.reduceLT, Nat.reduceLeDiff, Nat.reduceAdd, Nat.reduceSub, Nat.reduceMul, List.length_cons, List.length_nil, true_and, and_true, and_self, true_implies, eq_self, not_true_eq_false, not_false_eq_true, false_implies, implies_true, false_and, and_false, Bool.false_eq_true, or_true, true_or, or_false, false_or, Classical.not_not, Nat.le_refl, Nat.lt_irrefl, Bool.true_eq_false, n_lit, n_a, n_c, n_s, n_b, n_m, n_g, n_w, n_n, rk_X5_position, hC, h4]
  exact hP
theorem c_parse {p : Int32} (hC : sC sh R) (hA : RC A sh I J R) (hN : aN A ≤ 700) (hE : (o_parse A p).1 = 1 → xB sh I J R P eA) (hP : (o_parse A p).1 = 0 → cP sh I J R P (.int (o_parse A p).2.1) (o_parse A p).2.2) : pp_MW g (h + 26) mi_X8_parse [.ref 64, .int p] (sh, I, J, R) P := by
  refine pp_st0 [(0, .ref 64), (1, .int p)] ok_X8_parse rfl (Nat.le_of_ble_eq_true rfl) rfl ?_
  have r4 := hA.2.2.2.1
  rcases idx_cases p (aN A + 1) (by omega) with ⟨k, k1, rfl, e1⟩ | ⟨ho, e1⟩
  · have q1 : ¬ k < 0 := by omega
    have q2 : k ≤ aN A := by omega
    have tx : txt (cod (aB A)) k = (match lps (cod (aB A)) k 700 (tok (cod (aB A)) k 0) D00 with
      | .inl e => .inl e
      | .inr (_, D) => .inr D) := rfl
    simp only [o_parse, e1] at hP
    refine pp_go rfl sk_X8_parse_0 ?_
    simp (disch := omega) only [sg_X8_parse_0, sw_c, sw_n, sx, sf_4, sv_i, sv_j, sv_r, sv_q1, sv_q0, sv_1i, sv_1r, sv_2, sl_i, sl_j, sl_a, sl_v, sp_p, sp_f1, sp_f2, sc_w, sc_c, sc_r, sc_f, sc_a, sc_k, pp_in, pp_al, ↓reduceIte, Nat.reduceEqDiff, Nat.reduceLT, Nat.reduceLeDiff, Nat.reduceAdd, Nat.reduceSub, Nat.reduceMul, List.length_cons, List.length_nil, true_and, and_true, and_self, true_implies, eq_self, not_true_eq_false, not_false_eq_true, false_implies, implies_true, false_and, and_false, Bool.false_eq_true, or_true, true_or, or_false, false_or, Classical.not_not, Nat.le_refl, Nat.lt_irrefl, Bool.true_eq_false, n_lit, n_a, n_c, n_s, n_b, n_m, n_g, n_w, n_n, rk_X8_parse, hC, r4, q1, q2]
    refine pp_go rfl sk_X8_parse_22 ?_
    simp (disch := omega) only [sg_X8_parse_22, sw_c, sw_n, sx, sf_4, sv_i, sv_j, sv_r, sv_q1, sv_q0, sv_1i, sv_1r, sv_2, sl_i, sl_j, sl_a, sl_v, sp_p, sp_f1, sp_f2, sc_w, sc_c, sc_r, sc_f, sc_a, sc_k, pp_in, pp_al, ↓reduceIte, Nat.reduceEqDiff, Nat.reduceLT, Nat.reduceLeDiff, Nat.reduceAdd, Nat.reduceSub, Nat.reduceMul, List.length_cons, List.length_nil, true_and, and_true, and_self, true_implies, eq_self, not_true_eq_false, not_false_eq_true, false_implies, implies_true, false_and, and_false, Bool.false_eq_true, or_true, true_or, or_false, false_or, Classical.not_not, Nat.le_refl, Nat.lt_irrefl, Bool.true_eq_false, n_lit, n_a, n_c, n_s, n_b, n_m, n_g, n_w, n_n, rk_X8_parse, hC]
    refine c_readPool (b := cod (aB A)) hC (fun i hi => ?_) (fun i => cod_lt _ _) (by omega) (cL_cg (L := 84) hA.2.2.2.2.2.2.2.2 (fun a x y => pp_s_ne _ _ (by omega)) (fun _ _ _ => rfl)) (fun e he I1 J1 f1 p1 => ?_) (fun q he I1 J1 f1 p1 => ?_)
    · rw [pp_s_ne _ _ (by omega), hA.2.2.1 i hi]; exact cod_sgn _ _
    · rw [he] at tx
      rw [tx] at hP
      dsimp only at hP
      have e0 : ¬ e.1 = 0 := by
        have := lps_e _ _ _ _ he
        omega
      have e5 := lps_e _ _ _ _ he
      simp (disch := omega) only [sw_c, sw_n, sx, sf_4, sv_i, sv_j, sv_r, sv_q1, sv_q0, sv_1i, sv_1r, sv_2, sl_i, sl_j, sl_a, sl_v, sp_p, sp_f1, sp_f2, sc_w, sc_c, sc_r, sc_f, sc_a, sc_k, pp_in, pp_al, ↓reduceIte, Nat.reduceEqDiff, Nat.reduceLT, Nat.reduceLeDiff, Nat.reduceAdd, Nat.reduceSub, Nat.reduceMul, List.length_cons, List.length_nil, true_and, and_true, and_self, true_implies, eq_self, not_true_eq_false, not_false_eq_true, false_implies, implies_true, false_and, and_false, Bool.false_eq_true, or_true, true_or, or_false, false_or, Classical.not_not, Nat.le_refl, Nat.lt_irrefl, Bool.true_eq_false, n_lit, n_a, n_c, n_s, n_b, n_m, n_g, n_w, n_n, rk_X8_parse, e0]
      refine pp_go rfl sk_X8_parse_52 ?_
      simp (disch := omega) only [sg_X8_parse_52, sw_c, sw_n, sx, sf_4, sv_i, sv_j, sv_r, sv_q1, sv_q0, sv_1i, sv_1r, sv_2, sl_i, sl_j, sl_a, sl_v, sp_p, sp_f1, sp_f2, sc_w, sc_c, sc_r, sc_f, sc_a, sc_k, pp_in, pp_al, ↓reduceIte, Nat.reduceEqDiff, Nat.reduceLT, Nat.reduceLeDiff, Nat.reduceAdd, Nat.reduceSub, Nat.reduceMul, List.length_cons, List.length_nil, true_and, and_true, and_self, true_implies, eq_self, not_true_eq_false, not_false_eq_true, false_implies, implies_true, false_and, and_false, Bool.false_eq_true, or_true, true_or, or_false, false_or, Classical.not_not, Nat.le_refl, Nat.lt_irrefl, Bool.true_eq_false, n_lit, n_a, n_c, n_s, n_b, n_m, n_g, n_w, n_n, rk_X8_parse, hC]
      refine c_position hC p1 ?_
      simp (disch := omega) only [sw_c, sw_n, sx, sf_4, sv_i, sv_j, sv_r, sv_q1, sv_q0, sv_1i, sv_1r, sv_2, sl_i, sl_j, sl_a, sl_v, sp_p, sp_f1, sp_f2, sc_w, sc_c, sc_r, sc_f, sc_a, sc_k, pp_in, pp_al, ↓reduceIte, Nat.reduceEqDiff, Nat.reduceLT, Nat.reduceLeDiff, Nat.reduceAdd, Nat.reduceSub, Nat.reduceMul, List.length_cons, List.length_nil, true_and, and_true, and_self, true_implies, eq_self, not_true_eq_false, not_false_eq_true, false_implies, implies_true, false_and, and_false, Bool.false_eq_true, or_true, true_or, or_false, false_or, Classical.not_not, Nat.le_refl, Nat.lt_irrefl, Bool.true_eq_false, n_lit, n_a, n_c, n_s, n_b, n_m, n_g, n_w, n_n, rk_X8_parse, hC]
      refine pp_go rfl sk_X8_parse_63 ?_
      simp (disch := omega) only [sg_X8_parse_63, sw_c, sw_n, sx, sf_4, sv_i, sv_j, sv_r, sv_q1, sv_q0, sv_1i, sv_1r, sv_2, sl_i, sl_j, sl_a, sl_v, sp_p, sp_f1, sp_f2, sc_w, sc_c, sc_r, sc_f, sc_a, sc_k, pp_in, pp_al, ↓reduceIte, Nat.reduceEqDiff, Nat.reduceLT, Nat.reduceLeDiff, Nat.reduceAdd, Nat.reduceSub, Nat.reduceMul, List.length_cons, List.length_nil, true_and, and_true, and_self, true_implies, eq_self, not_true_eq_false, not_false_eq_true, false_implies, implies_true, false_and, and_false, Bool.false_eq_true, or_true, true_or, or_false, false_or, Classical.not_not, Nat.le_refl, Nat.lt_irrefl, Bool.true_eq_false, n_lit, n_a, n_c, n_s, n_b, n_m, n_g, n_w, n_n, rk_X8_parse]
      have f0 : ∀ a, a < 64 ∨ a = 65 ∨ (83 < a ∧ a ≠ 94) → I1 a = I a := fun a x => by rw [(f1 a (by omega)).1, pp_s_ne _ _ (by omega)]
      refine hP rfl sh _ J1 R hC ⟨⟨[], by simp⟩, fun a x y => ⟨by rw [pp_s_ne _ _ (by omega)]; exact f0 a (by omega), (f1 a (by omega)).2, rfl⟩⟩ (RC_F hA (fun a x y => ⟨by rw [pp_s_ne _ _ (by omega)]; exact f0 a (by omega), (f1 a (by omega)).2⟩) (fun i hi => by rw [pp_s_ne _ _ (by omega), f0 65 (by omega)]; exact hA.2.2.1 i hi) ?_ ?_)
      · simp only [n_m, ↓reduceIte, Nat.reduceEqDiff]; rw [(f1 64 (by omega)).1]; simp only [n_m, ↓reduceIte]
      · simp only [n_m, ↓reduceIte]
    · obtain ⟨tq, D⟩ := q
      rw [he] at tx
      rw [tx] at hP
      dsimp only at hP p1
      have wD : wfD D := p1.2.2.2.2.2
      simp (disch := omega) only [sw_c, sw_n, sx, sf_4, sv_i, sv_j, sv_r, sv_q1, sv_q0, sv_1i, sv_1r, sv_2, sl_i, sl_j, sl_a, sl_v, sp_p, sp_f1, sp_f2, sc_w, sc_c, sc_r, sc_f, sc_a, sc_k, pp_in, pp_al, ↓reduceIte, Nat.reduceEqDiff, Nat.reduceLT, Nat.reduceLeDiff, Nat.reduceAdd, Nat.reduceSub, Nat.reduceMul, List.length_cons, List.length_nil, true_and, and_true, and_self, true_implies, eq_self, not_true_eq_false, not_false_eq_true, false_implies, implies_true, false_and, and_false, Bool.false_eq_true, or_true, true_or, or_false, false_or, Classical.not_not, Nat.le_refl, Nat.lt_irrefl, Bool.true_eq_false, n_lit, n_a, n_c, n_s, n_b, n_m, n_g, n_w, n_n, rk_X8_parse, hC]
      refine c_startOver (T := dT D) (G := dG D) hC (cV_cg (D := D) p1.2.2.2.1 (fun a x y => pp_s_ne _ _ (by omega))) (cW_cg p1.2.2.1 (fun a x y => pp_s_ne _ _ (by omega))) wD.2.1 wD.2.2.2.1 wD.2.2.2.2.2.2.2.2.2.2.2.2.2.2.2.2.2.2.2.1 (fun I2 J2 R2 b1 b2 b3 b4 b5 b6 b7 b8 => ?_)
      simp (disch := omega) only [sw_c, sw_n, sx, sf_4, sv_i, sv_j, sv_r, sv_q1, sv_q0, sv_1i, sv_1r, sv_2, sl_i, sl_j, sl_a, sl_v, sp_p, sp_f1, sp_f2, sc_w, sc_c, sc_r, sc_f, sc_a, sc_k, pp_in, pp_al, ↓reduceIte, Nat.reduceEqDiff, Nat.reduceLT, Nat.reduceLeDiff, Nat.reduceAdd, Nat.reduceSub, Nat.reduceMul, List.length_cons, List.length_nil, true_and, and_true, and_self, true_implies, eq_self, not_true_eq_false, not_false_eq_true, false_implies, implies_true, false_and, and_false, Bool.false_eq_true, or_true, true_or, or_false, false_or, Classical.not_not, Nat.le_refl, Nat.lt_irrefl, Bool.true_eq_false, n_lit, n_a, n_c, n_s, n_b, n_m, n_g, n_w, n_n, rk_X8_parse]
      refine pp_go rfl sk_X8_parse_63 ?_
      simp (disch := omega) only [sg_X8_parse_63, sw_c, sw_n, sx, sf_4, sv_i, sv_j, sv_r, sv_q1, sv_q0, sv_1i, sv_1r, sv_2, sl_i, sl_j, sl_a, sl_v, sp_p, sp_f1, sp_f2, sc_w, sc_c, sc_r, sc_f, sc_a, sc_k, pp_in, pp_al, ↓reduceIte, Nat.reduceEqDiff, Nat.reduceLT, Nat.reduceLeDiff, Nat.reduceAdd, Nat.reduceSub, Nat.reduceMul, List.length_cons, List.length_nil, true_and, and_true, and_self, true_implies, eq_self, not_true_eq_false, not_false_eq_true, false_implies, implies_true, false_and, and_false, Bool.false_eq_true, or_true, true_or, or_false, false_or, Classical.not_not, Nat.le_refl, Nat.lt_irrefl, Bool.true_eq_false, n_lit, n_a, n_c, n_s, n_b, n_m, n_g, n_w, n_n, rk_X8_parse]
      have f0 : ∀ a, a < 64 ∨ a = 65 ∨ (83 < a ∧ a < 94) ∨ (112 ≤ a ∧ a ≠ 118) → I2 a = I a ∧ J2 a = J a := fun a x => by
        rw [(b1 a (by omega)).1, (b1 a (by omega)).2, pp_s_ne _ _ (by omega), (f1 a (by omega)).1, (f1 a (by omega)).2, pp_s_ne _ _ (by omega)]
        exact ⟨rfl, rfl⟩
      have en : ∀ j, j < 12 → ent R2 j = if j < 10 then ent R j else none := fun j hj => by
        rw [ent]
        by_cases c : j < 10
        · rw [if_pos c, if_pos c, ent, if_pos c, b6 119 (by omega)]
        · rw [if_neg c, if_neg c]
          have : j = 10 ∨ j = 11 := by omega
          rcases this with rfl | rfl
          · exact b7
          · exact b8
      have hE2 : cE sh R2 := by
        refine ⟨fun j hj L hL => ?_, fun j j' hj hj' hne L L' hL hL' => ?_⟩
        · rw [en j hj] at hL
          by_cases c : j < 10
          · rw [if_pos c] at hL
            have z := hA.2.2.2.2.2.1.1 j hj L hL
            have y := sLg_cg (e := []) (R' := R2) z.2 (b6 L (by omega))
            rw [List.append_nil] at y
            exact ⟨z.1, y⟩
          · rw [if_neg c] at hL; cases hL
        · rw [en j hj] at hL
          rw [en j' hj'] at hL'
          by_cases c : j < 10
          · by_cases c' : j' < 10
            · rw [if_pos c] at hL
              rw [if_pos c'] at hL'
              exact hA.2.2.2.2.2.1.2 j j' hj hj' hne L L' hL hL'
            · rw [if_neg c'] at hL'; cases hL'
          · rw [if_neg c] at hL; cases hL
      have hC2 : sC sh R2 := by
        have y := sC_cg (e := []) (R' := R2) hC (fun a ha => b6 a (by omega))
        rw [List.append_nil] at y
        exact y
      obtain ⟨nw, u1, u2, u3, u4, u5⟩ := hA.2.2.2.2.2.2.1
      refine hP rfl sh I2 J2 R2 hC2 ⟨⟨[], by simp⟩, fun a x y => ⟨(f0 a (by omega)).1, (f0 a (by omega)).2, b6 a (by omega)⟩⟩ ⟨b5, b4, fun i hi => by rw [(f0 65 (by omega)).1]; exact hA.2.2.1 i hi, ?_, ?_, hE2, ⟨nw, u1, ?_, b3, Nat.zero_le _, fun i hi => absurd hi (Nat.not_lt_zero _)⟩, fun s hs => Or.inl ⟨rfl, ?_⟩, cL_cg (L := 84) hA.2.2.2.2.2.2.2.2 (fun a x y => (f0 a (by omega)).1) (fun a x y => (f0 a (by omega)).2)⟩
      · rw [(b1 64 (by omega)).1]; simp only [n_m, ↓reduceIte, Nat.reduceEqDiff]; rw [(f1 64 (by omega)).1]; simp only [n_m, ↓reduceIte]
      · rw [(b1 64 (by omega)).1]; simp only [n_m, ↓reduceIte]; rfl
      · rw [b2, pp_s_ne _ _ (by omega), (f1 118 (by omega)).1, pp_s_ne _ _ (by omega)]; exact u2
      · have : s = 0 ∨ s = 1 := by omega
        rcases this with rfl | rfl
        · exact b7
        · exact b8
  · simp only [o_parse, e1] at hE
    have K : pp_N g (h + 25) mi_X8_parse P 12 [(0, .ref 64), (1, .int p)] [] (sh, I, J, R) := by
      refine pp_go rfl sk_X8_parse_12 ?_
      simp (disch := omega) only [sg_X8_parse_12, sw_c, sw_n, sx, sf_4, sv_i, sv_j, sv_r, sv_q1, sv_q0, sv_1i, sv_1r, sv_2, sl_i, sl_j, sl_a, sl_v, sp_p, sp_f1, sp_f2, sc_w, sc_c, sc_r, sc_f, sc_a, sc_k, pp_in, pp_al, ↓reduceIte, Nat.reduceEqDiff, Nat.reduceLT, Nat.reduceLeDiff, Nat.reduceAdd, Nat.reduceSub, Nat.reduceMul, List.length_cons, List.length_nil, true_and, and_true, and_self, true_implies, eq_self, not_true_eq_false, not_false_eq_true, false_implies, implies_true, false_and, and_false, Bool.false_eq_true, or_true, true_or, or_false, false_or, Classical.not_not, Nat.le_refl, Nat.lt_irrefl, Bool.true_eq_false, n_lit, n_a, n_c, n_s, n_b, n_m, n_g, n_w, n_n, rk_X8_parse, ex_0]
      exact hE trivial
    by_cases c : p.toInt < 0
    · have q1 := n_ng c
      refine pp_go rfl sk_X8_parse_0 ?_
      simp (disch := omega) only [sg_X8_parse_0, sw_c, sw_n, sx, sf_4, sv_i, sv_j, sv_r, sv_q1, sv_q0, sv_1i, sv_1r, sv_2, sl_i, sl_j, sl_a, sl_v, sp_p, sp_f1, sp_f2, sc_w, sc_c, sc_r, sc_f, sc_a, sc_k, pp_in, pp_al, ↓reduceIte, Nat.reduceEqDiff, Nat.reduceLT, Nat.reduceLeDiff, Nat.reduceAdd, Nat.reduceSub, Nat.reduceMul, List.length_cons, List.length_nil, true_and, and_true, and_self, true_implies, eq_self, not_true_eq_false, not_false_eq_true, false_implies, implies_true, false_and, and_false, Bool.false_eq_true, or_true, true_or, or_false, false_or, Classical.not_not, Nat.le_refl, Nat.lt_irrefl, Bool.true_eq_false, n_lit, n_a, n_c, n_s, n_b, n_m, n_g, n_w, n_n, rk_X8_parse, q1]
      exact K
    · have q1 := n_nn (p := p) (by omega)
      have q2 : (p ≤ Int32.ofNat (aN A)) = False := eq_false (by rw [Int32.le_iff_toInt_le, Int32.toInt_ofNat_of_lt (by omega)]; omega)
      refine pp_go rfl sk_X8_parse_0 ?_
      simp (disch := omega) only [sg_X8_parse_0, sw_c, sw_n, sx, sf_4, sv_i, sv_j, sv_r, sv_q1, sv_q0, sv_1i, sv_1r, sv_2, sl_i, sl_j, sl_a, sl_v, sp_p, sp_f1, sp_f2, sc_w, sc_c, sc_r, sc_f, sc_a, sc_k, pp_in, pp_al, ↓reduceIte, Nat.reduceEqDiff, Nat.reduceLT, Nat.reduceLeDiff, Nat.reduceAdd, Nat.reduceSub, Nat.reduceMul, List.length_cons, List.length_nil, true_and, and_true, and_self, true_implies, eq_self, not_true_eq_false, not_false_eq_true, false_implies, implies_true, false_and, and_false, Bool.false_eq_true, or_true, true_or, or_false, false_or, Classical.not_not, Nat.le_refl, Nat.lt_irrefl, Bool.true_eq_false, n_lit, n_a, n_c, n_s, n_b, n_m, n_g, n_w, n_n, rk_X8_parse, hC, r4, q1, q2]
      exact K
end
