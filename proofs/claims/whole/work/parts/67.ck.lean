/-! THE CLASS, 20: statements, the pool text -/
set_option maxHeartbeats 2000000
set_option maxRecDepth 100000
def kD (D : DR) (i v u : Nat) : DR := if i = 11 then (D.1, D.2.1, D.2.2.1, D.2.2.2.1, D.2.2.2.2.1, D.2.2.2.2.2.1, va_up D.2.2.2.2.2.2 7 true) else uDr D i v u
theorem kD_seen {D : DR} {i v u : Nat} : (kD D i v u).2.2.2.2.2.2 = if i < 4 then D.2.2.2.2.2.2 else va_up D.2.2.2.2.2.2 (i - 4) true := by
  unfold kD
  by_cases c : i = 11
  · subst c; rfl
  rw [if_neg c]
  unfold uDr
  by_cases c0 : i = 0
  · subst c0; rfl
  rw [if_neg c0]
  by_cases c1 : i = 1
  · subst c1; rfl
  rw [if_neg c1]
  by_cases c2 : i = 2
  · subst c2; rfl
  rw [if_neg c2]
  by_cases c3 : i = 3
  · subst c3; rfl
  rw [if_neg c3]
  show va_up D.2.2.2.2.2.2 (i - 4) true = _
  rw [if_neg (show ¬ i < 4 by omega)]
abbrev fQ (I I' : Nat → Nat → Int32) : Prop := (∀ a, (a < 66 ∨ a = 73 ∨ (83 < a ∧ a ≠ 94)) → I' a = I a) ∧ I' 94 1 = I 94 1
theorem fQ.trans {I I1 I2 : Nat → Nat → Int32} (a : fQ I I1) (b : fQ I1 I2) : fQ I I2 := ⟨fun i h => (b.1 i h).trans (a.1 i h), b.2.trans a.2⟩
theorem fQ.refl (I : Nat → Nat → Int32) : fQ I I := ⟨fun _ _ => rfl, rfl⟩
theorem fQ_B {I I' : Nat → Nat → Int32} (a : fB I I') : fQ I I' := ⟨fun i h => a.1 i (by omega), a.2⟩
theorem fQ_R {I I' : Nat → Nat → Int32} (a : fR I I') : fQ I I' := ⟨fun i h => a.1 i (by omega) (by omega), a.2.1⟩
theorem fQ_G {I I' : Nat → Nat → Int32} (a : fG I I') : fQ I I' := ⟨fun i h => a.1 i (by omega) (by omega) (by omega), a.2.1⟩
theorem cW_cg {I I' : Nat → Nat → Int32} {J : Nat → Nat → Int64} {G : LG} (h : cW I J G) (hI : ∀ a, 74 ≤ a → a < 84 → I' a = I a) : cW I' J G := cL_cg (L := 74) h (fun a x y => hI a x (by omega)) (fun _ _ _ => rfl)
theorem cV_cg {I I' : Nat → Nat → Int32} {D : DR} (h : cV I D) (hI : ∀ a, 67 ≤ a → a < 73 → I' a = I a) : cV I' D := by
  simpa only [cV, cTx, hI 67 (by omega) (by omega), hI 68 (by omega) (by omega), hI 69 (by omega) (by omega), hI 70 (by omega) (by omega), hI 71 (by omega) (by omega), hI 72 (by omega) (by omega)] using h
section
variable {g : pp_G} {h : Nat} {sh : List (Nat × Nat)} {I : Nat → Nat → Int32} {J : Nat → Nat → Int64} {R : Nat → Nat → Option Nat} {w : pp_W} {P : pp_R → pp_W → Prop} {b : Nat → Nat} {n : Nat} {t : TK} {D : DR}
theorem c_keep {i v u : Nat} (hC : sC sh R) (hW : cW I J (dG D)) (hV : cV I D) (hs : sNC I D.2.2.2.2.2.2) (hw : wfD D) (ha : adm D i = 0) (hi : i < 12) (h5 : i ≠ 11 → I 66 5 = Int32.ofNat v) (h6 : tw i = true → I 66 6 = Int32.ofNat u)
    (hP : ∀ I', fQ I I' → I' 94 = I 94 → cW I' J (dG (kD D i v u)) → cV I' (kD D i v u) → sNC I' (kD D i v u).2.2.2.2.2.2 → P (.inl none) (sh, I', J, R)) : pp_MW g (h + 2) mi_X5_keep [.ref 66, .int (Int32.ofNat i)] (sh, I, J, R) P := by
  refine pp_st0 [(0, .ref 66), (1, .int (Int32.ofNat i))] ok_X5_keep rfl (Nat.le_of_ble_eq_true rfl) rfl ?_
  obtain ⟨s, s1, s2, s3⟩ := hs
  obtain ⟨d0, d1, d2, d3, -⟩ := hw
  have so : s ||| 1 <<< i < 4096 := by
    rw [Nat.one_shiftLeft]
    exact Nat.or_lt_two_pow (n := 12) s1 (Nat.lt_of_lt_of_le (Nat.pow_lt_pow_right (by omega) hi) (by omega))
  refine pp_go rfl sk_X5_keep_0 ?_
  simp (disch := omega) only [sg_X5_keep_0, sw_c, sw_n, sx, sf_4, sv_i, sv_j, sv_r, sv_q1, sv_q0, sv_1i, sv_1r, sv_2, sl_i, sl_j, sl_a, sl_v, sp_p, sp_f1, sp_f2, sc_w, sc_c, sc_r, sc_f, sc_a, sc_k, pp_in, pp_al, ↓reduceIte, Nat.reduceEqDiff, Nat.reduceLT, Nat.reduceLeDiff, Nat.reduceAdd, Nat.reduceSub, Nat.reduceMul, List.length_cons, List.length_nil, true_and, and_true, and_self, true_implies, eq_self, not_true_eq_false, not_false_eq_true, false_implies, implies_true, false_and, and_false, Bool.false_eq_true, or_true, true_or, or_false, false_or, Classical.not_not, Nat.le_refl, Nat.lt_irrefl, Bool.true_eq_false, n_lit, n_a, n_c, n_s, n_b, n_m, n_g, n_w, n_n, hC, s2, sc_s, n_i]
  generalize hI1 : pp_s I 66 (va_up (I 66) 4 (Int32.ofNat (s ||| 1 <<< i))) = I1
  have f1 : ∀ a, a ≠ 66 → I1 a = I a := fun a x => by rw [← hI1]; exact pp_s_ne _ _ x
  have g1 : ∀ k, k ≠ 4 → I1 66 k = I 66 k := fun k x => by rw [← hI1]; simp only [n_m, ↓reduceIte]; rw [if_neg x]
  have g4 : I1 66 4 = Int32.ofNat (s ||| 1 <<< i) := by rw [← hI1]; simp only [n_m, ↓reduceIte]
  clear hI1
  have sn : ∀ I' : Nat → Nat → Int32, I' 66 = I1 66 → sNC I' (kD D i v u).2.2.2.2.2.2 := fun I' e => by
    refine ⟨s ||| 1 <<< i, so, by rw [e]; exact g4, fun j hj => ?_⟩
    rw [bit_set, kD_seen]
    by_cases c : i < 4
    · rw [if_pos c, if_neg (by omega)]; exact s3 j hj
    · rw [if_neg c, va_up]
      by_cases d : j = i - 4
      · rw [if_pos (by omega), if_pos d]
      · rw [if_neg (by omega), if_neg d]; exact s3 j hj
  have W1 : cW I1 J (dG D) := cW_cg hW (fun a x y => f1 a (by omega))
  have V1 : cV I1 D := cV_cg hV (fun a x y => f1 a (by omega))
  have K150 : ∀ I', (∀ a, (a < 66 ∨ a = 73 ∨ (83 < a ∧ a ≠ 94)) → I' a = I1 a) → I' 94 = I1 94 → I' 66 = I1 66 → cW I' J (dG (kD D i v u)) → cV I' (kD D i v u) → pp_N g (h + 1) mi_X5_keep P 150 [(0, .ref 66), (1, .int (Int32.ofNat i))] [] (sh, I', J, R) := by
    intro I' a1 a2 a3 a4 a5
    refine pp_go rfl sk_X5_keep_150 ?_
    simp (disch := omega) only [sg_X5_keep_150, sw_c, sw_n, sx, sf_4, sv_i, sv_j, sv_r, sv_q1, sv_q0, sv_1i, sv_1r, sv_2, sl_i, sl_j, sl_a, sl_v, sp_p, sp_f1, sp_f2, sc_w, sc_c, sc_r, sc_f, sc_a, sc_k, pp_in, pp_al, ↓reduceIte, Nat.reduceEqDiff, Nat.reduceLT, Nat.reduceLeDiff, Nat.reduceAdd, Nat.reduceSub, Nat.reduceMul, List.length_cons, List.length_nil, true_and, and_true, and_self, true_implies, eq_self, not_true_eq_false, not_false_eq_true, false_implies, implies_true, false_and, and_false, Bool.false_eq_true, or_true, true_or, or_false, false_or, Classical.not_not, Nat.le_refl, Nat.lt_irrefl, Bool.true_eq_false, n_lit, n_a, n_c, n_s, n_b, n_m, n_g, n_w, n_n]
    exact hP I' ⟨fun a x => (a1 a x).trans (f1 a (by omega)), by rw [a2, f1 94 (by omega)]⟩ (by rw [a2, f1 94 (by omega)]) a4 a5 (sn I' a3)
  have KR : 4 ≤ i → i < 11 → pp_N g (h + 1) mi_X5_keep P 145 [(0, .ref 66), (1, .int (Int32.ofNat i))] [] (sh, I1, J, R) := by
    intro i4 i11
    have ek : kD D i v u = uDr D i v u := if_neg (by omega)
    have eg : dG (uDr D i v u) = dG D := by
      unfold uDr
      rw [if_neg (by omega), if_neg (by omega), if_neg (by omega), if_neg (by omega)]
      refine Prod.ext ?_ rfl
      funext k
      have z : ∀ j, j = 0 ∨ j = 2 → (if i = 4 then va_up (va_up D.1 4 v) 5 u else if i = 5 then va_up D.1 6 v else if i = 6 then va_up D.1 7 v else if i = 7 then va_up D.1 8 v else if i = 8 then va_up (va_up D.1 9 v) 10 u else if i = 9 then va_up (va_up D.1 11 v) 12 u else va_up D.1 13 v) j = D.1 j := by
        intro j hj
        repeat' split
        all_goals (rcases hj with rfl | rfl <;> rfl)
      simp only [dG, z 0 (Or.inl rfl), z 2 (Or.inr rfl)]
    refine pp_go rfl sk_X5_keep_145 ?_
    simp (disch := omega) only [sg_X5_keep_145, sw_c, sw_n, sx, sf_4, sv_i, sv_j, sv_r, sv_q1, sv_q0, sv_1i, sv_1r, sv_2, sl_i, sl_j, sl_a, sl_v, sp_p, sp_f1, sp_f2, sc_w, sc_c, sc_r, sc_f, sc_a, sc_k, pp_in, pp_al, ↓reduceIte, Nat.reduceEqDiff, Nat.reduceLT, Nat.reduceLeDiff, Nat.reduceAdd, Nat.reduceSub, Nat.reduceMul, List.length_cons, List.length_nil, true_and, and_true, and_self, true_implies, eq_self, not_true_eq_false, not_false_eq_true, false_implies, implies_true, false_and, and_false, Bool.false_eq_true, or_true, true_or, or_false, false_or, Classical.not_not, Nat.le_refl, Nat.lt_irrefl, Bool.true_eq_false, n_lit, n_a, n_c, n_s, n_b, n_m, n_g, n_w, n_n, hC]
    refine c_keepRule (v := v) (u := u) hC V1 ⟨i4, i11⟩ ((g1 5 (by omega)).trans (h5 (by omega))) (fun z => (g1 6 (by omega)).trans (h6 z)) (fun I2 a1 a2 => ?_)
    simp (disch := omega) only [sw_c, sw_n, sx, sf_4, sv_i, sv_j, sv_r, sv_q1, sv_q0, sv_1i, sv_1r, sv_2, sl_i, sl_j, sl_a, sl_v, sp_p, sp_f1, sp_f2, sc_w, sc_c, sc_r, sc_f, sc_a, sc_k, pp_in, pp_al, ↓reduceIte, Nat.reduceEqDiff, Nat.reduceLT, Nat.reduceLeDiff, Nat.reduceAdd, Nat.reduceSub, Nat.reduceMul, List.length_cons, List.length_nil, true_and, and_true, and_self, true_implies, eq_self, not_true_eq_false, not_false_eq_true, false_implies, implies_true, false_and, and_false, Bool.false_eq_true, or_true, true_or, or_false, false_or, Classical.not_not, Nat.le_refl, Nat.lt_irrefl, Bool.true_eq_false, n_lit, n_a, n_c, n_s, n_b, n_m, n_g, n_w, n_n]
    refine K150 I2 (fun a x => a1 a (by omega)) (a1 94 (by omega)) (a1 66 (by omega)) ?_ (by rw [ek]; exact a2)
    rw [ek, eg]
    exact cW_cg W1 (fun a x y => a1 a (by omega))
  refine ⟨⟨fun q => ?_, fun q => ?_, fun q => ?_, fun q => ?_, fun q => KR (by omega) (by omega), fun q => KR (by omega) (by omega), fun q => KR (by omega) (by omega), fun q => KR (by omega) (by omega), fun q => KR (by omega) (by omega), fun q => KR (by omega) (by omega), fun q => KR (by omega) (by omega), fun q => ?_⟩, fun q => ?_⟩
  · have e0 : i = 0 := by omega
    subst e0
    have m8 : D.1 0 < 8 := by
      by_cases z : D.1 0 < 8
      · exact z
      · rw [adm, if_pos rfl, if_neg z] at ha; omega
    have ek : kD D 0 v u = uDr D 0 v u := rfl
    have e5 : I1 66 5 = Int32.ofNat v := (g1 5 (by omega)).trans (h5 (by omega))
    refine pp_go rfl sk_X5_keep_76 ?_
    simp (disch := omega) only [sg_X5_keep_76, sw_c, sw_n, sx, sf_4, sv_i, sv_j, sv_r, sv_q1, sv_q0, sv_1i, sv_1r, sv_2, sl_i, sl_j, sl_a, sl_v, sp_p, sp_f1, sp_f2, sc_w, sc_c, sc_r, sc_f, sc_a, sc_k, pp_in, pp_al, ↓reduceIte, Nat.reduceEqDiff, Nat.reduceLT, Nat.reduceLeDiff, Nat.reduceAdd, Nat.reduceSub, Nat.reduceMul, List.length_cons, List.length_nil, true_and, and_true, and_self, true_implies, eq_self, not_true_eq_false, not_false_eq_true, false_implies, implies_true, false_and, and_false, Bool.false_eq_true, or_true, true_or, or_false, false_or, Classical.not_not, Nat.le_refl, Nat.lt_irrefl, Bool.true_eq_false, n_lit, n_a, n_c, n_s, n_b, n_m, n_g, n_w, n_n, hC, e5]
    refine c_addMember (L := 74) (m := D.1 0) (x := v) hC.2.2.2.2.2.1 ⟨by simp, by simp⟩ W1.2.2.1 m8 ?_
    simp (disch := omega) only [sw_c, sw_n, sx, sf_4, sv_i, sv_j, sv_r, sv_q1, sv_q0, sv_1i, sv_1r, sv_2, sl_i, sl_j, sl_a, sl_v, sp_p, sp_f1, sp_f2, sc_w, sc_c, sc_r, sc_f, sc_a, sc_k, pp_in, pp_al, ↓reduceIte, Nat.reduceEqDiff, Nat.reduceLT, Nat.reduceLeDiff, Nat.reduceAdd, Nat.reduceSub, Nat.reduceMul, List.length_cons, List.length_nil, true_and, and_true, and_self, true_implies, eq_self, not_true_eq_false, not_false_eq_true, false_implies, implies_true, false_and, and_false, Bool.false_eq_true, or_true, true_or, or_false, false_or, Classical.not_not, Nat.le_refl, Nat.lt_irrefl, Bool.true_eq_false, n_lit, n_a, n_c, n_s, n_b, n_m, n_g, n_w, n_n]
    refine K150 _ (fun a x => ?_) ?_ ?_ ?_ ?_
    · simp only [n_m]; rw [if_neg (by omega), if_neg (by omega)]
    · simp only [n_m, ↓reduceIte, Nat.reduceEqDiff]
    · simp only [n_m, ↓reduceIte, Nat.reduceEqDiff]
    · rw [ek, dG_0 m8]
      exact wF_2 (wA_75 m8 W1)
    · exact cV_cg (D := D) V1 (fun a x y => by simp only [n_m]; rw [if_neg (by omega), if_neg (by omega)])
  · have e0 : i = 1 := by omega
    subst e0
    have m8 : D.1 1 < 4 := by
      by_cases z : D.1 1 < 4
      · exact z
      · rw [adm, if_neg (by omega), if_pos rfl, if_neg z] at ha; omega
    have e5 : I1 66 5 = Int32.ofNat v := (g1 5 (by omega)).trans (h5 (by omega))
    have e6 : I1 66 6 = Int32.ofNat u := (g1 6 (by omega)).trans (h6 rfl)
    refine pp_go rfl sk_X5_keep_91 ?_
    simp (disch := omega) only [sg_X5_keep_91, sw_c, sw_n, sx, sf_4, sv_i, sv_j, sv_r, sv_q1, sv_q0, sv_1i, sv_1r, sv_2, sl_i, sl_j, sl_a, sl_v, sp_p, sp_f1, sp_f2, sc_w, sc_c, sc_r, sc_f, sc_a, sc_k, pp_in, pp_al, ↓reduceIte, Nat.reduceEqDiff, Nat.reduceLT, Nat.reduceLeDiff, Nat.reduceAdd, Nat.reduceSub, Nat.reduceMul, List.length_cons, List.length_nil, true_and, and_true, and_self, true_implies, eq_self, not_true_eq_false, not_false_eq_true, false_implies, implies_true, false_and, and_false, Bool.false_eq_true, or_true, true_or, or_false, false_or, Classical.not_not, Nat.le_refl, Nat.lt_irrefl, Bool.true_eq_false, n_lit, n_a, n_c, n_s, n_b, n_m, n_g, n_w, n_n, hC, e5, e6]
    refine c_addVersion (m := D.1 1) (v := v) (u := u) hC V1.1 m8 ?_
    simp (disch := omega) only [sw_c, sw_n, sx, sf_4, sv_i, sv_j, sv_r, sv_q1, sv_q0, sv_1i, sv_1r, sv_2, sl_i, sl_j, sl_a, sl_v, sp_p, sp_f1, sp_f2, sc_w, sc_c, sc_r, sc_f, sc_a, sc_k, pp_in, pp_al, ↓reduceIte, Nat.reduceEqDiff, Nat.reduceLT, Nat.reduceLeDiff, Nat.reduceAdd, Nat.reduceSub, Nat.reduceMul, List.length_cons, List.length_nil, true_and, and_true, and_self, true_implies, eq_self, not_true_eq_false, not_false_eq_true, false_implies, implies_true, false_and, and_false, Bool.false_eq_true, or_true, true_or, or_false, false_or, Classical.not_not, Nat.le_refl, Nat.lt_irrefl, Bool.true_eq_false, n_lit, n_a, n_c, n_s, n_b, n_m, n_g, n_w, n_n]
    refine K150 _ (fun a x => ?_) ?_ ?_ ?_ ?_
    · simp only [n_m]; rw [if_neg (by omega), if_neg (by omega), if_neg (by omega)]
    · simp only [n_m, ↓reduceIte, Nat.reduceEqDiff]
    · simp only [n_m, ↓reduceIte, Nat.reduceEqDiff]
    · exact cW_cg (G := dG D) W1 (fun a x y => by simp only [n_m]; rw [if_neg (by omega), if_neg (by omega), if_neg (by omega)])
    · obtain ⟨v0, v3, w4, w5, w6, w7, w8, w9, w10, w11, w12, w13, r1, r2, r3, r4, r5⟩ := V1
      refine ⟨?_, ?_, ?_, ?_, ?_, ?_, ?_, ?_, ?_, ?_, ?_, ?_, fun k hk => ?_, fun k hk => ?_, fun k hk => ?_, ?_, fun k hk => ?_⟩ <;> simp only [n_m, ↓reduceIte, Nat.reduceEqDiff]
      · rfl
      · exact v3
      · exact w4
      · exact w5
      · exact w6
      · exact w7
      · exact w8
      · exact w9
      · exact w10
      · exact w11
      · exact w12
      · exact w13
      · have hk : k < D.1 1 + 1 := hk
        show _ = Int32.ofNat (va_up (va_up D.2.2.1 (2 * D.1 1) v) (2 * D.1 1 + 1) u (2 * k))
        rw [va_up, va_up, if_neg (show ¬ 2 * k = 2 * D.1 1 + 1 by omega)]
        by_cases z : k = D.1 1
        · rw [if_pos z, if_pos (by omega)]
        · rw [if_neg z, if_neg (by omega)]; exact r1 k (by show k < D.1 1; omega)
      · have hk : k < D.1 1 + 1 := hk
        show _ = Int32.ofNat (va_up (va_up D.2.2.1 (2 * D.1 1) v) (2 * D.1 1 + 1) u (2 * k + 1))
        rw [va_up, va_up]
        by_cases z : k = D.1 1
        · rw [if_pos z, if_pos (by omega)]
        · rw [if_neg z, if_neg (by omega), if_neg (by omega)]; exact r2 k (by show k < D.1 1; omega)
      · exact r3 k hk
      · exact r4
      · exact r5 k hk
  · have e0 : i = 2 := by omega
    subst e0
    have m8 : D.1 2 < 16 := by
      by_cases z : D.1 2 < 16
      · exact z
      · rw [adm, if_neg (by omega), if_neg (by omega), if_pos rfl, if_neg z] at ha; omega
    have ek : kD D 2 v u = uDr D 2 v u := rfl
    have e5 : I1 66 5 = Int32.ofNat v := (g1 5 (by omega)).trans (h5 (by omega))
    have e6 : I1 66 6 = Int32.ofNat u := (g1 6 (by omega)).trans (h6 rfl)
    refine pp_go rfl sk_X5_keep_109 ?_
    simp (disch := omega) only [sg_X5_keep_109, sw_c, sw_n, sx, sf_4, sv_i, sv_j, sv_r, sv_q1, sv_q0, sv_1i, sv_1r, sv_2, sl_i, sl_j, sl_a, sl_v, sp_p, sp_f1, sp_f2, sc_w, sc_c, sc_r, sc_f, sc_a, sc_k, pp_in, pp_al, ↓reduceIte, Nat.reduceEqDiff, Nat.reduceLT, Nat.reduceLeDiff, Nat.reduceAdd, Nat.reduceSub, Nat.reduceMul, List.length_cons, List.length_nil, true_and, and_true, and_self, true_implies, eq_self, not_true_eq_false, not_false_eq_true, false_implies, implies_true, false_and, and_false, Bool.false_eq_true, or_true, true_or, or_false, false_or, Classical.not_not, Nat.le_refl, Nat.lt_irrefl, Bool.true_eq_false, n_lit, n_a, n_c, n_s, n_b, n_m, n_g, n_w, n_n, hC, e5, e6]
    refine c_addPatent (L := 74) (m := D.1 2) (x := v) (y := u) hC.2.2.2.2.2.1 ⟨by simp, by simp, by simp, by simp, by simp⟩ W1.2.2.2.1 m8 ?_
    simp (disch := omega) only [sw_c, sw_n, sx, sf_4, sv_i, sv_j, sv_r, sv_q1, sv_q0, sv_1i, sv_1r, sv_2, sl_i, sl_j, sl_a, sl_v, sp_p, sp_f1, sp_f2, sc_w, sc_c, sc_r, sc_f, sc_a, sc_k, pp_in, pp_al, ↓reduceIte, Nat.reduceEqDiff, Nat.reduceLT, Nat.reduceLeDiff, Nat.reduceAdd, Nat.reduceSub, Nat.reduceMul, List.length_cons, List.length_nil, true_and, and_true, and_self, true_implies, eq_self, not_true_eq_false, not_false_eq_true, false_implies, implies_true, false_and, and_false, Bool.false_eq_true, or_true, true_or, or_false, false_or, Classical.not_not, Nat.le_refl, Nat.lt_irrefl, Bool.true_eq_false, n_lit, n_a, n_c, n_s, n_b, n_m, n_g, n_w, n_n]
    refine K150 _ (fun a x => ?_) ?_ ?_ ?_ ?_
    · simp only [n_m]; rw [if_neg (by omega), if_neg (by omega), if_neg (by omega)]
    · simp only [n_m, ↓reduceIte, Nat.reduceEqDiff]
    · simp only [n_m, ↓reduceIte, Nat.reduceEqDiff]
    · rw [ek, dG_2 d0 m8]
      exact wF_4 (wA_77 m8 (wA_76 m8 W1))
    · exact cV_cg (D := D) V1 (fun a x y => by simp only [n_m]; rw [if_neg (by omega), if_neg (by omega), if_neg (by omega)])
  · have e0 : i = 3 := by omega
    subst e0
    have m8 : D.1 3 < 6 := by
      by_cases z : D.1 3 < 6
      · exact z
      · rw [adm, if_neg (by omega), if_neg (by omega), if_neg (by omega), if_pos rfl, if_neg z] at ha; omega
    have e5 : I1 66 5 = Int32.ofNat v := (g1 5 (by omega)).trans (h5 (by omega))
    refine pp_go rfl sk_X5_keep_128 ?_
    simp (disch := omega) only [sg_X5_keep_128, sw_c, sw_n, sx, sf_4, sv_i, sv_j, sv_r, sv_q1, sv_q0, sv_1i, sv_1r, sv_2, sl_i, sl_j, sl_a, sl_v, sp_p, sp_f1, sp_f2, sc_w, sc_c, sc_r, sc_f, sc_a, sc_k, pp_in, pp_al, ↓reduceIte, Nat.reduceEqDiff, Nat.reduceLT, Nat.reduceLeDiff, Nat.reduceAdd, Nat.reduceSub, Nat.reduceMul, List.length_cons, List.length_nil, true_and, and_true, and_self, true_implies, eq_self, not_true_eq_false, not_false_eq_true, false_implies, implies_true, false_and, and_false, Bool.false_eq_true, or_true, true_or, or_false, false_or, Classical.not_not, Nat.le_refl, Nat.lt_irrefl, Bool.true_eq_false, n_lit, n_a, n_c, n_s, n_b, n_m, n_g, n_w, n_n, hC, e5]
    refine c_addLicensee (m := D.1 3) (v := v) hC V1.2.1 m8 ?_
    simp (disch := omega) only [sw_c, sw_n, sx, sf_4, sv_i, sv_j, sv_r, sv_q1, sv_q0, sv_1i, sv_1r, sv_2, sl_i, sl_j, sl_a, sl_v, sp_p, sp_f1, sp_f2, sc_w, sc_c, sc_r, sc_f, sc_a, sc_k, pp_in, pp_al, ↓reduceIte, Nat.reduceEqDiff, Nat.reduceLT, Nat.reduceLeDiff, Nat.reduceAdd, Nat.reduceSub, Nat.reduceMul, List.length_cons, List.length_nil, true_and, and_true, and_self, true_implies, eq_self, not_true_eq_false, not_false_eq_true, false_implies, implies_true, false_and, and_false, Bool.false_eq_true, or_true, true_or, or_false, false_or, Classical.not_not, Nat.le_refl, Nat.lt_irrefl, Bool.true_eq_false, n_lit, n_a, n_c, n_s, n_b, n_m, n_g, n_w, n_n]
    refine K150 _ (fun a x => ?_) ?_ ?_ ?_ ?_
    · simp only [n_m]; rw [if_neg (by omega), if_neg (by omega)]
    · simp only [n_m, ↓reduceIte, Nat.reduceEqDiff]
    · simp only [n_m, ↓reduceIte, Nat.reduceEqDiff]
    · exact cW_cg (G := dG D) W1 (fun a x y => by simp only [n_m]; rw [if_neg (by omega), if_neg (by omega)])
    · obtain ⟨v0, v3, w4, w5, w6, w7, w8, w9, w10, w11, w12, w13, r1, r2, r3, r4, r5⟩ := V1
      refine ⟨?_, ?_, ?_, ?_, ?_, ?_, ?_, ?_, ?_, ?_, ?_, ?_, fun k hk => ?_, fun k hk => ?_, fun k hk => ?_, ?_, fun k hk => ?_⟩ <;> simp only [n_m, ↓reduceIte, Nat.reduceEqDiff]
      · exact v0
      · rfl
      · exact w4
      · exact w5
      · exact w6
      · exact w7
      · exact w8
      · exact w9
      · exact w10
      · exact w11
      · exact w12
      · exact w13
      · exact r1 k hk
      · exact r2 k hk
      · have hk : k < D.1 3 + 1 := hk
        show _ = Int32.ofNat (va_up D.2.2.2.2.1 (D.1 3) v k)
        rw [va_up]
        by_cases z : k = D.1 3
        · rw [if_pos z, if_pos z]
        · rw [if_neg z, if_neg z]; exact r3 k (by show k < D.1 3; omega)
      · exact r4
      · exact r5 k hk
  · have e0 : i = 11 := by omega
    subst e0
    refine pp_go rfl sk_X5_keep_142 ?_
    simp (disch := omega) only [sg_X5_keep_142, sw_c, sw_n, sx, sf_4, sv_i, sv_j, sv_r, sv_q1, sv_q0, sv_1i, sv_1r, sv_2, sl_i, sl_j, sl_a, sl_v, sp_p, sp_f1, sp_f2, sc_w, sc_c, sc_r, sc_f, sc_a, sc_k, pp_in, pp_al, ↓reduceIte, Nat.reduceEqDiff, Nat.reduceLT, Nat.reduceLeDiff, Nat.reduceAdd, Nat.reduceSub, Nat.reduceMul, List.length_cons, List.length_nil, true_and, and_true, and_self, true_implies, eq_self, not_true_eq_false, not_false_eq_true, false_implies, implies_true, false_and, and_false, Bool.false_eq_true, or_true, true_or, or_false, false_or, Classical.not_not, Nat.le_refl, Nat.lt_irrefl, Bool.true_eq_false, n_lit, n_a, n_c, n_s, n_b, n_m, n_g, n_w, n_n]
    exact K150 I1 (fun _ _ => rfl) rfl rfl W1 V1
  · exfalso; omega
end
