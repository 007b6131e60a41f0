/-! THE CLASS, 14: snapshots kept; bytes -/
set_option maxHeartbeats 2000000
set_option maxRecDepth 100000
theorem RC_S {A : AS} {sh e : List (Nat × Nat)} {I I' : Nat → Nat → Int32} {J J' : Nat → Nat → Int64} {R R' : Nat → Nat → Option Nat} {k L : Nat} (h : RC A sh I J R) (hk : k < 2) (hI : ∀ a, a < 141 → I' a = I a ∧ J' a = J a) (hO : ∀ a, 141 ≤ a → a < sh.length → (a < L ∨ L + 10 ≤ a) → I' a = I a ∧ J' a = J a) (hE : cE (sh ++ e) R') (hR : R' 119 = R 119) (hR2 : ∀ j, j ≠ k → R' 120 j = R 120 j) (hL : R' 120 k = some L) (hG : cL I' J' L (aG A)) : RC (aB A, aN A, aE A, aT A, aG A, aU A, va_up (aS A) k (some (aG A))) (sh ++ e) I' J' R' := by
  obtain ⟨h1, h2, h3, h4, h5, h6, h7, h8, h9⟩ := h
  have eL : ent R' (10 + k) = some L := by rw [ent, if_neg (by omega), show 10 + k - 10 = k by omega]; exact hL
  refine ⟨cL_cg (L := 102) h1 (fun a x y => (hI a (by omega)).1) (fun a x y => (hI a (by omega)).2), cT_cg h2 (fun a x y => (hI a (by omega)).1), ?_, ?_, ?_, hE, ?_, ?_, cL_cg (L := 84) h9 (fun a x y => (hI a (by omega)).1) (fun a x y => (hI a (by omega)).2)⟩
  · rw [(hI 65 (by omega)).1]; exact h3
  · rw [(hI 64 (by omega)).1]; exact h4
  · rw [(hI 64 (by omega)).1]; exact h5
  · obtain ⟨nw, u1, u2, u3, u4, u5⟩ := h7
    refine ⟨nw, u1, ?_, ?_, u4, fun i hi => ?_⟩
    · rw [(hI 118 (by omega)).1]; exact u2
    · rw [(hI 118 (by omega)).1]; exact u3
    · obtain ⟨M, m1, m2⟩ := u5 i hi
      have m3 : ent R' ((nw + 10 - i) % 10) = some M := by rw [ent, if_pos (by omega), hR]; rw [ent, if_pos (by omega)] at m1; exact m1
      have b := h6.1 _ (by omega) M m1
      have b2 := sLg_len b.2
      have b3 := hE.2 _ (10 + k) (by omega) (by omega) (by omega) M L m3 eL
      exact ⟨M, m3, cL_cg m2 (fun a x y => (hO a (by omega) (by omega) (by omega)).1) (fun a x y => (hO a (by omega) (by omega) (by omega)).2)⟩
  · intro s hs
    by_cases c : s = k
    · subst c
      exact Or.inr ⟨L, aG A, hL, by show va_up (aS A) s (some (aG A)) s = _; rw [va_up, if_pos rfl], hG⟩
    · have ee : va_up (aS A) k (some (aG A)) s = aS A s := by rw [va_up, if_neg c]
      rcases h8 s hs with q | ⟨M, G, q1, q2, q3⟩
      · exact Or.inl ⟨ee.trans q.1, by rw [hR2 s c]; exact q.2⟩
      · have m0 : ent R (10 + s) = some M := by rw [ent, if_neg (by omega), show 10 + s - 10 = s by omega]; exact q1
        have m1 : ent R' (10 + s) = some M := by rw [ent, if_neg (by omega), show 10 + s - 10 = s by omega, hR2 s c]; exact q1
        have b := h6.1 (10 + s) (by omega) M m0
        have b2 := sLg_len b.2
        have b3 := hE.2 (10 + s) (10 + k) (by omega) (by omega) (by omega) M L m1 eL
        exact Or.inr ⟨M, G, by rw [hR2 s c]; exact q1, ee.trans q2, cL_cg q3 (fun a x y => (hO a (by omega) (by omega) (by omega)).1) (fun a x y => (hO a (by omega) (by omega) (by omega)).2)⟩
section
variable {g : pp_G} {h : Nat} {sh : List (Nat × Nat)} {I : Nat → Nat → Int32} {J : Nat → Nat → Int64} {R : Nat → Nat → Option Nat} {w : pp_W} {P : pp_R → pp_W → Prop} {G : LG} {T : TM} {n : Nat} {A : AS}
theorem c_save {p : Int32} (hC : sC sh R) (hA : RC A sh I J R) (h141 : 141 ≤ sh.length) (hE : (o_save A p).1 = 1 → xB sh I J R P eB) (hP : (o_save A p).1 = 0 → cP sh I J R P (.int (o_save A p).2.1) (o_save A p).2.2) : pp_MW g (h + 3) mi_X8_saveSnapshot [.ref 64, .int p] (sh, I, J, R) P := by
  refine pp_st0 [(0, .ref 64), (1, .int p)] ok_X8_saveSnapshot rfl (Nat.le_of_ble_eq_true rfl) rfl ?_
  refine pp_go rfl sk_X8_saveSnapshot_0 ?_
  simp (disch := omega) only [sg_X8_saveSnapshot_0, sw_c, sw_n, sx, sf_4, sv_i, sv_j, sv_r, sv_q1, sv_q0, sv_1i, sv_1r, sv_2, sl_i, sl_j, sl_a, sl_v, sp_p, sp_f1, sp_f2, sc_w, sc_c, sc_r, sc_f, sc_a, sc_k, pp_in, pp_al, ↓reduceIte, Nat.reduceEqDiff, Nat.reduceLT, Nat.reduceLeDiff, Nat.reduceAdd, Nat.reduceSub, Nat.reduceMul, List.length_cons, List.length_nil, true_and, and_true, and_self, true_implies, eq_self, not_true_eq_false, not_false_eq_true, false_implies, implies_true, false_and, and_false, Bool.false_eq_true, or_true, true_or, or_false, false_or, Classical.not_not, Nat.le_refl, Nat.lt_irrefl, Bool.true_eq_false, n_lit, n_a, n_c, n_s, n_b, n_m, n_g, n_w, n_n, rk_X8_saveSnapshot, hC]
  rcases idx_cases p 2 (by omega) with ⟨k, k1, rfl, e1⟩ | ⟨ho, e1⟩
  · rcases hA.2.2.2.2.2.2.2.1 k k1 with ⟨q1, q2⟩ | ⟨L, G, q1, q2, q3⟩
    · simp only [o_save, e1, q1] at hP
      refine c_ckS0 hC k1 ?_
      simp (disch := omega) only [sw_c, sw_n, sx, sf_4, sv_i, sv_j, sv_r, sv_q1, sv_q0, sv_1i, sv_1r, sv_2, sl_i, sl_j, sl_a, sl_v, sp_p, sp_f1, sp_f2, sc_w, sc_c, sc_r, sc_f, sc_a, sc_k, pp_in, pp_al, ↓reduceIte, Nat.reduceEqDiff, Nat.reduceLT, Nat.reduceLeDiff, Nat.reduceAdd, Nat.reduceSub, Nat.reduceMul, List.length_cons, List.length_nil, true_and, and_true, and_self, true_implies, eq_self, not_true_eq_false, not_false_eq_true, false_implies, implies_true, false_and, and_false, Bool.false_eq_true, or_true, true_or, or_false, false_or, Classical.not_not, Nat.le_refl, Nat.lt_irrefl, Bool.true_eq_false, n_lit, n_a, n_c, n_s, n_b, n_m, n_g, n_w, n_n, rk_X8_saveSnapshot, hC, q2]
      refine pp_go rfl sk_X8_saveSnapshot_26 ?_
      simp (disch := omega) only [sg_X8_saveSnapshot_26, sw_c, sw_n, sx, sf_4, sv_i, sv_j, sv_r, sv_q1, sv_q0, sv_1i, sv_1r, sv_2, sl_i, sl_j, sl_a, sl_v, sp_p, sp_f1, sp_f2, sc_w, sc_c, sc_r, sc_f, sc_a, sc_k, pp_in, pp_al, ↓reduceIte, Nat.reduceEqDiff, Nat.reduceLT, Nat.reduceLeDiff, Nat.reduceAdd, Nat.reduceSub, Nat.reduceMul, List.length_cons, List.length_nil, true_and, and_true, and_self, true_implies, eq_self, not_true_eq_false, not_false_eq_true, false_implies, implies_true, false_and, and_false, Bool.false_eq_true, or_true, true_or, or_false, false_or, Classical.not_not, Nat.le_refl, Nat.lt_irrefl, Bool.true_eq_false, n_lit, n_a, n_c, n_s, n_b, n_m, n_g, n_w, n_n, rk_X8_saveSnapshot, hC, pp_nw]
      have s4 : (sh ++ [(4, 0)])[sh.length]? = some (4, 0) := by simp
      refine c_Linit (L := sh.length) (by simp) s4 (by rw [pp_s_eq]) (by rw [pp_s_eq]) (fun I2 J2 R2 l2 c2 f2 => ?_)
      have r2 : ∀ a, a < sh.length → R2 a = R a := fun a ha => by rw [(f2 a ha).2.2, pp_s_ne _ _ (by omega)]
      have ie : ∀ a, a < sh.length → I2 a = I a ∧ J2 a = J a := fun a x => by
        rw [(f2 a x).1, (f2 a x).2.1, pp_s_ne _ _ (by omega), pp_s_ne _ _ (by omega)]
        exact ⟨rfl, rfl⟩
      have hC2 : sC (sh ++ [(4, 0)] ++ ls9) R2 := by
        rw [List.append_assoc]
        exact sC_cg hC (fun a ha => r2 a (by omega))
      simp (disch := omega) only [sw_c, sw_n, sx, sf_4, sv_i, sv_j, sv_r, sv_q1, sv_q0, sv_1i, sv_1r, sv_2, sl_i, sl_j, sl_a, sl_v, sp_p, sp_f1, sp_f2, sc_w, sc_c, sc_r, sc_f, sc_a, sc_k, pp_in, pp_al, ↓reduceIte, Nat.reduceEqDiff, Nat.reduceLT, Nat.reduceLeDiff, Nat.reduceAdd, Nat.reduceSub, Nat.reduceMul, List.length_cons, List.length_nil, true_and, and_true, and_self, true_implies, eq_self, not_true_eq_false, not_false_eq_true, false_implies, implies_true, false_and, and_false, Bool.false_eq_true, or_true, true_or, or_false, false_or, Classical.not_not, Nat.le_refl, Nat.lt_irrefl, Bool.true_eq_false, n_lit, n_a, n_c, n_s, n_b, n_m, n_g, n_w, n_n, rk_X8_saveSnapshot, hC2, l2]
      refine c_copyFrom (L := sh.length) (M := 102) (G := aG A) l2 hC2.2.2.2.2.2.2.2 (Or.inr (by omega)) (cL_cg (L := 102) hA.1 (fun a x y => (ie a (by omega)).1) (fun a x y => (ie a (by omega)).2)) (fun I3 J3 f3 c3 => ?_)
      simp (disch := omega) only [sw_c, sw_n, sx, sf_4, sv_i, sv_j, sv_r, sv_q1, sv_q0, sv_1i, sv_1r, sv_2, sl_i, sl_j, sl_a, sl_v, sp_p, sp_f1, sp_f2, sc_w, sc_c, sc_r, sc_f, sc_a, sc_k, pp_in, pp_al, ↓reduceIte, Nat.reduceEqDiff, Nat.reduceLT, Nat.reduceLeDiff, Nat.reduceAdd, Nat.reduceSub, Nat.reduceMul, List.length_cons, List.length_nil, true_and, and_true, and_self, true_implies, eq_self, not_true_eq_false, not_false_eq_true, false_implies, implies_true, false_and, and_false, Bool.false_eq_true, or_true, true_or, or_false, false_or, Classical.not_not, Nat.le_refl, Nat.lt_irrefl, Bool.true_eq_false, n_lit, n_a, n_c, n_s, n_b, n_m, n_g, n_w, n_n, rk_X8_saveSnapshot, hC2, l2]
      refine ⟨fun b hb => by cases hb; exact l2.1, ?_⟩
      have r3 : ∀ a, a ≠ 120 → pp_s R2 120 (va_up (R2 120) k (some sh.length)) a = R2 a := fun a ha => pp_s_ne _ _ ha
      have l3 : sLg (sh ++ [(4, 0)] ++ ls9) (pp_s R2 120 (va_up (R2 120) k (some sh.length))) sh.length := by
        obtain ⟨h0, h1, h2, h3, h4, h5, h6, h7, h8, h9, r⟩ := l2
        refine ⟨h0, h1, h2, h3, h4, h5, h6, h7, h8, h9, ?_⟩
        rw [r3 _ (by omega)]; exact r
      have en : ∀ j, j < 12 → ent (pp_s R2 120 (va_up (R2 120) k (some sh.length))) j = if j = 10 + k then some sh.length else ent R j := fun j hj => by
        rw [ent, ent, pp_s_eq, r3 119 (by omega), va_up, r2 119 (by omega), r2 120 (by omega)]
        by_cases c : j < 10
        · rw [if_pos c, if_pos c, if_neg (by omega)]
        · rw [if_neg c, if_neg c]
          by_cases d : j = 10 + k
          · rw [if_pos (by omega), if_pos d]
          · rw [if_neg (by omega), if_neg d]
      have fr : ∀ a, a < sh.length → I3 a = I a ∧ J3 a = J a := fun a x => by
        rw [(f3 a (Or.inl x)).1, (f3 a (Or.inl x)).2]; exact ie a x
      rw [List.append_assoc] at l3 ⊢
      have hE3 : cE (sh ++ ([(4, 0)] ++ ls9)) (pp_s R2 120 (va_up (R2 120) k (some sh.length))) := cE_put (k := 10 + k) (L := sh.length) hA.2.2.2.2.2.1 (by omega) h141 l3 (Nat.le_refl _) (fun j x y => by rw [en j x, if_neg y]) (by rw [en _ (by omega), if_pos rfl]) (fun a x y => by rw [r3 a (by omega)]; exact r2 a y)
      refine hP trivial _ I3 J3 _ (sC_cg hC (fun a ha => by rw [r3 a (by omega)]; exact r2 a (by omega))) ⟨⟨_, rfl⟩, fun a x y => ⟨(fr a (by omega)).1, (fr a (by omega)).2, by rw [r3 a (by omega)]; exact r2 a (by omega)⟩⟩ ?_
      exact RC_S (L := sh.length) hA k1 (fun a x => fr a (by omega)) (fun a x y z => fr a y) hE3 (by rw [r3 119 (by omega)]; exact r2 119 (by omega)) (fun j hj => by rw [pp_s_eq, va_up, if_neg hj, r2 120 (by omega)]) (by rw [pp_s_eq, va_up, if_pos rfl]) c3
    · simp only [o_save, e1, q2] at hP
      have ek : ent R (10 + k) = some L := by rw [ent, if_neg (by omega), show 10 + k - 10 = k by omega]; exact q1
      have q := hA.2.2.2.2.2.1.1 (10 + k) (by omega) L ek
      refine c_ckS0 hC k1 ?_
      simp (disch := omega) only [sw_c, sw_n, sx, sf_4, sv_i, sv_j, sv_r, sv_q1, sv_q0, sv_1i, sv_1r, sv_2, sl_i, sl_j, sl_a, sl_v, sp_p, sp_f1, sp_f2, sc_w, sc_c, sc_r, sc_f, sc_a, sc_k, pp_in, pp_al, ↓reduceIte, Nat.reduceEqDiff, Nat.reduceLT, Nat.reduceLeDiff, Nat.reduceAdd, Nat.reduceSub, Nat.reduceMul, List.length_cons, List.length_nil, true_and, and_true, and_self, true_implies, eq_self, not_true_eq_false, not_false_eq_true, false_implies, implies_true, false_and, and_false, Bool.false_eq_true, or_true, true_or, or_false, false_or, Classical.not_not, Nat.le_refl, Nat.lt_irrefl, Bool.true_eq_false, n_lit, n_a, n_c, n_s, n_b, n_m, n_g, n_w, n_n, rk_X8_saveSnapshot, hC, q1, q.2]
      refine c_copyFrom (L := L) (M := 102) (G := aG A) q.2 hC.2.2.2.2.2.2.2 (Or.inr (by omega)) hA.1 (fun I3 J3 f3 c3 => ?_)
      simp (disch := omega) only [sw_c, sw_n, sx, sf_4, sv_i, sv_j, sv_r, sv_q1, sv_q0, sv_1i, sv_1r, sv_2, sl_i, sl_j, sl_a, sl_v, sp_p, sp_f1, sp_f2, sc_w, sc_c, sc_r, sc_f, sc_a, sc_k, pp_in, pp_al, ↓reduceIte, Nat.reduceEqDiff, Nat.reduceLT, Nat.reduceLeDiff, Nat.reduceAdd, Nat.reduceSub, Nat.reduceMul, List.length_cons, List.length_nil, true_and, and_true, and_self, true_implies, eq_self, not_true_eq_false, not_false_eq_true, false_implies, implies_true, false_and, and_false, Bool.false_eq_true, or_true, true_or, or_false, false_or, Classical.not_not, Nat.le_refl, Nat.lt_irrefl, Bool.true_eq_false, n_lit, n_a, n_c, n_s, n_b, n_m, n_g, n_w, n_n, rk_X8_saveSnapshot]
      refine hP trivial sh I3 J3 R hC ⟨⟨[], by simp⟩, fun a x y => ⟨(f3 a (by omega)).1, (f3 a (by omega)).2, rfl⟩⟩ ?_
      have z := RC_S (e := []) (L := L) (R' := R) (I' := I3) (J' := J3) hA k1 (fun a x => f3 a (by omega)) (fun a x y z => f3 a z) (by rw [List.append_nil]; exact hA.2.2.2.2.2.1) rfl (fun j hj => rfl) q1 c3
      rw [List.append_nil] at z
      exact z
  · simp only [o_save, e1] at hE
    exact c_ckS1 hC ho (hE trivial)
end
