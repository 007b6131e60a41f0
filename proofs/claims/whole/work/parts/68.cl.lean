/-! THE CLASS, 21: the pool text read -/
set_option maxHeartbeats 2000000
set_option maxRecDepth 100000
theorem adm_b (D : DR) (i : Nat) : adm D i < 5 := by
  unfold adm
  repeat' split
  all_goals omega
theorem rd1_e {b : Nat → Nat} {n lo hi : Nat} {t : TK} {e : ER} (h : rd1 b n lo hi t = .inl e) : 0 < e.1 ∧ e.1 < 5 := by
  unfold rd1 at h
  split at h
  · cases h; exact ⟨by show 0 < 1; omega, by show 1 < 5; omega⟩
  · split at h
    · cases h
    · cases h; exact ⟨by show 0 < 3; omega, by show 3 < 5; omega⟩
theorem rd2_e {b : Nat → Nat} {n lo hi lo' hi' : Nat} {t : TK} {e : ER} (h : rd2 b n lo hi lo' hi' t = .inl e) : 0 < e.1 ∧ e.1 < 5 := by
  unfold rd2 at h
  cases h1 : rd1 b n lo hi t with
  | inl z => rw [h1] at h; cases h; exact rd1_e h1
  | inr q =>
    rw [h1] at h
    simp only [] at h
    cases h2 : rd1 b n lo' hi' q.1 with
    | inl z => rw [h2] at h; cases h; exact rd1_e h2
    | inr q' => rw [h2] at h; cases h
theorem rdN_e {b : Nat → Nat} {n : Nat} {D : DR} {i : Nat} {t : TK} {e : ER} (h : rdN b n D i t = .inl e) : 0 < e.1 ∧ e.1 < 5 := by
  unfold rdN at h
  repeat' split at h
  all_goals first | exact rd1_e h | exact rd2_e h
theorem stc_e {b : Nat → Nat} {n : Nat} {t : TK} {D : DR} {e : ER} (h : stc b n t D = .inl e) : 0 < e.1 ∧ e.1 < 5 := by
  have f1 : ∀ (t : TK) (D : DR) (e : ER), fin1 b n t D = .inl e → 0 < e.1 ∧ e.1 < 5 := by
    intro t D e h
    unfold fin1 at h
    split at h
    · cases h
    · cases h; exact ⟨by show 0 < 1; omega, by show 1 < 5; omega⟩
  rw [stc_eq, stc'] at h
  cases hs : stw b t with
  | none => rw [hs] at h; cases h; exact ⟨by show 0 < 1; omega, by show 1 < 5; omega⟩
  | some i =>
    rw [hs] at h
    simp only [] at h
    by_cases a : adm D i = 0
    · rw [if_pos a] at h
      by_cases c : i = 11
      · rw [if_pos c] at h
        cases hr : sumN b n 5 (nxt b n t) [] with
        | inl z => rw [hr] at h; cases h; exact (eok_sumN 5).1 _ _ _ hr
        | inr q => rw [hr] at h; exact f1 _ _ _ h
      · rw [if_neg c] at h
        cases hr : rdN b n D i (nxt b n t) with
        | inl z => rw [hr] at h; cases h; exact rdN_e hr
        | inr q => rw [hr] at h; exact f1 _ _ _ h
    · rw [if_neg a] at h; cases h
      have := adm_b D i
      exact ⟨by show 0 < adm D i; omega, this⟩
def pL (sh : List (Nat × Nat)) (I : Nat → Nat → Int32) (J : Nat → Nat → Int64) (R : Nat → Nat → Option Nat) (P : pp_R → pp_W → Prop) (b : Nat → Nat) (n : Nat) (r : SR) : Prop := match r with
  | .inl e => ∀ I', fQ I I' → I' 94 4 = Int32.ofNat e.2 → P (.inl (some (.int (Int32.ofNat e.1)))) (sh, I', J, R)
  | .inr q => ∀ I', fQ I I' → PC b n I' J q.1 q.2 → P (.inl (some (.int (Int32.ofNat 0)))) (sh, I', J, R)
section
variable {g : pp_G} {h : Nat} {sh : List (Nat × Nat)} {I : Nat → Nat → Int32} {J : Nat → Nat → Int64} {R : Nat → Nat → Option Nat} {w : pp_W} {P : pp_R → pp_W → Prop} {b : Nat → Nat} {n : Nat} {t : TK} {D : DR}
theorem c_clear {F : Nat} (hF : sh[F]? = some (2, 0)) (hP : P (.inl none) (sh, pp_s I F (va_up (I F) 1 (Int32.ofNat 0)), J, R)) : pp_MW g (h + 1) mi_X2_clear [.ref F] (sh, I, J, R) P := by
  refine pp_st0 [(0, .ref F)] ok_X2_clear rfl (Nat.le_of_ble_eq_true rfl) rfl ?_
  refine pp_go rfl sk_X2_clear_0 ?_
  simp (disch := omega) only [sg_X2_clear_0, sw_c, sw_n, sx, sf_4, sv_i, sv_j, sv_r, sv_q1, sv_q0, sv_1i, sv_1r, sv_2, sl_i, sl_j, sl_a, sl_v, sp_p, sp_f1, sp_f2, sc_w, sc_c, sc_r, sc_f, sc_a, sc_k, pp_in, pp_al, ↓reduceIte, Nat.reduceEqDiff, Nat.reduceLT, Nat.reduceLeDiff, Nat.reduceAdd, Nat.reduceSub, Nat.reduceMul, List.length_cons, List.length_nil, true_and, and_true, and_self, true_implies, eq_self, not_true_eq_false, not_false_eq_true, false_implies, implies_true, false_and, and_false, Bool.false_eq_true, or_true, true_or, or_false, false_or, Classical.not_not, Nat.le_refl, Nat.lt_irrefl, Bool.true_eq_false, n_lit, n_a, n_c, n_s, n_b, n_m, n_g, n_w, n_n, hF]
  exact hP
/-- behind the numbers: a semicolon, then it is kept -/
theorem c_rs_61 {i v u : Nat} {e2 : Int32} {D1 D2 : DR} (hC : sC sh R) (hx : xC I b n) (ht : tC I b n t) (hW : cW I J (dG D1)) (hV : cV I D1) (hs : sNC I D1.2.2.2.2.2.2) (hw : wfD D1) (hw2 : sgP t 59 → wfD D2) (ha : adm D1 i = 0) (hi : i < 12) (h5 : i ≠ 11 → I 66 5 = Int32.ofNat v) (h6 : tw i = true → I 66 6 = Int32.ofNat u) (hk : kD D1 i v u = D2)
    (hP : pL sh I J R P b n (fin1 b n t D2)) : pp_N g (h + 5) mi_X5_readStatement P 61 [(0, .ref 66), (1, .int (Int32.ofNat i)), (2, .int e2)] [] (sh, I, J, R) := by
  have tb := tk_b ht.1
  unfold fin1 at hP
  refine pp_go rfl sk_X5_readStatement_61 ?_
  simp (disch := omega) only [sg_X5_readStatement_61, sw_c, sw_n, sx, sf_4, sv_i, sv_j, sv_r, sv_q1, sv_q0, sv_1i, sv_1r, sv_2, sl_i, sl_j, sl_a, sl_v, sp_p, sp_f1, sp_f2, sc_w, sc_c, sc_r, sc_f, sc_a, sc_k, pp_in, pp_al, ↓reduceIte, Nat.reduceEqDiff, Nat.reduceLT, Nat.reduceLeDiff, Nat.reduceAdd, Nat.reduceSub, Nat.reduceMul, List.length_cons, List.length_nil, true_and, and_true, and_self, true_implies, eq_self, not_true_eq_false, not_false_eq_true, false_implies, implies_true, false_and, and_false, Bool.false_eq_true, or_true, true_or, or_false, false_or, Classical.not_not, Nat.le_refl, Nat.lt_irrefl, Bool.true_eq_false, n_lit, n_a, n_c, n_s, n_b, n_m, n_g, n_w, n_n, rk_X5_readStatement, hC]
  refine c_isSign hC ht (by omega) ?_
  simp (disch := omega) only [sw_c, sw_n, sx, sf_4, sv_i, sv_j, sv_r, sv_q1, sv_q0, sv_1i, sv_1r, sv_2, sl_i, sl_j, sl_a, sl_v, sp_p, sp_f1, sp_f2, sc_w, sc_c, sc_r, sc_f, sc_a, sc_k, pp_in, pp_al, ↓reduceIte, Nat.reduceEqDiff, Nat.reduceLT, Nat.reduceLeDiff, Nat.reduceAdd, Nat.reduceSub, Nat.reduceMul, List.length_cons, List.length_nil, true_and, and_true, and_self, true_implies, eq_self, not_true_eq_false, not_false_eq_true, false_implies, implies_true, false_and, and_false, Bool.false_eq_true, or_true, true_or, or_false, false_or, Classical.not_not, Nat.le_refl, Nat.lt_irrefl, Bool.true_eq_false, n_lit, n_a, n_c, n_s, n_b, n_m, n_g, n_w, n_n, rk_X5_readStatement, hC]
  refine ⟨fun q => ?_, fun q => ?_⟩
  · rw [if_pos q] at hP
    refine pp_go rfl sk_X5_readStatement_75 ?_
    simp (disch := omega) only [sg_X5_readStatement_75, sw_c, sw_n, sx, sf_4, sv_i, sv_j, sv_r, sv_q1, sv_q0, sv_1i, sv_1r, sv_2, sl_i, sl_j, sl_a, sl_v, sp_p, sp_f1, sp_f2, sc_w, sc_c, sc_r, sc_f, sc_a, sc_k, pp_in, pp_al, ↓reduceIte, Nat.reduceEqDiff, Nat.reduceLT, Nat.reduceLeDiff, Nat.reduceAdd, Nat.reduceSub, Nat.reduceMul, List.length_cons, List.length_nil, true_and, and_true, and_self, true_implies, eq_self, not_true_eq_false, not_false_eq_true, false_implies, implies_true, false_and, and_false, Bool.false_eq_true, or_true, true_or, or_false, false_or, Classical.not_not, Nat.le_refl, Nat.lt_irrefl, Bool.true_eq_false, n_lit, n_a, n_c, n_s, n_b, n_m, n_g, n_w, n_n, rk_X5_readStatement, hC]
    refine c_keep (v := v) (u := u) hC hW hV hs hw ha hi h5 h6 (fun I1 a1 a2 a3 a4 a5 => ?_)
    rw [hk] at a3 a4 a5
    simp (disch := omega) only [sw_c, sw_n, sx, sf_4, sv_i, sv_j, sv_r, sv_q1, sv_q0, sv_1i, sv_1r, sv_2, sl_i, sl_j, sl_a, sl_v, sp_p, sp_f1, sp_f2, sc_w, sc_c, sc_r, sc_f, sc_a, sc_k, pp_in, pp_al, ↓reduceIte, Nat.reduceEqDiff, Nat.reduceLT, Nat.reduceLeDiff, Nat.reduceAdd, Nat.reduceSub, Nat.reduceMul, List.length_cons, List.length_nil, true_and, and_true, and_self, true_implies, eq_self, not_true_eq_false, not_false_eq_true, false_implies, implies_true, false_and, and_false, Bool.false_eq_true, or_true, true_or, or_false, false_or, Classical.not_not, Nat.le_refl, Nat.lt_irrefl, Bool.true_eq_false, n_lit, n_a, n_c, n_s, n_b, n_m, n_g, n_w, n_n, rk_X5_readStatement, hC]
    have x1 : xC I1 b n := xC_fr hx a1.2 (a1.1 65 (by omega))
    refine c_next hC x1 tb.2.1 (by rw [a2]; exact ht.2.2.2.1) (fun I2 f2 t2 => ?_)
    simp (disch := omega) only [sw_c, sw_n, sx, sf_4, sv_i, sv_j, sv_r, sv_q1, sv_q0, sv_1i, sv_1r, sv_2, sl_i, sl_j, sl_a, sl_v, sp_p, sp_f1, sp_f2, sc_w, sc_c, sc_r, sc_f, sc_a, sc_k, pp_in, pp_al, ↓reduceIte, Nat.reduceEqDiff, Nat.reduceLT, Nat.reduceLeDiff, Nat.reduceAdd, Nat.reduceSub, Nat.reduceMul, List.length_cons, List.length_nil, true_and, and_true, and_self, true_implies, eq_self, not_true_eq_false, not_false_eq_true, false_implies, implies_true, false_and, and_false, Bool.false_eq_true, or_true, true_or, or_false, false_or, Classical.not_not, Nat.le_refl, Nat.lt_irrefl, Bool.true_eq_false, n_lit, n_a, n_c, n_s, n_b, n_m, n_g, n_w, n_n, rk_X5_readStatement]
    obtain ⟨s, s1, s2, s3⟩ := a5
    refine hP I2 (fQ.trans a1 (fQ_B f2)) ⟨xC_fr x1 f2.2 (f2.1 65 (by omega)), t2, cW_cg a3 (fun a x y => f2.1 a (by omega)), cV_cg a4 (fun a x y => f2.1 a (by omega)), ⟨s, s1, by rw [f2.1 66 (by omega)]; exact s2, s3⟩, hw2 q⟩
  · rw [if_neg q] at hP
    exact hP I (fQ.refl I) ht.2.2.1
theorem c_readStatement (hC : sC sh R) (hp : PC b n I J t D) (hP : pL sh I J R P b n (stc b n t D)) : pp_MW g (h + 24) mi_X5_readStatement [.ref 66] (sh, I, J, R) P := by
  refine pp_st0 [(0, .ref 66)] ok_X5_readStatement rfl (Nat.le_of_ble_eq_true rfl) rfl ?_
  obtain ⟨hx, ht, hW, hV, hs, hw⟩ := hp
  have h7 := hx.2.2.1
  have tb := tk_b ht.1
  have sg := fun r (e : stc b n t D = .inr r) => stc_g h7 ht.1 hw e
  rw [stc_eq] at hP sg
  rw [stc'] at hP sg
  refine pp_go rfl sk_X5_readStatement_0 ?_
  simp (disch := omega) only [sg_X5_readStatement_0, sw_c, sw_n, sx, sf_4, sv_i, sv_j, sv_r, sv_q1, sv_q0, sv_1i, sv_1r, sv_2, sl_i, sl_j, sl_a, sl_v, sp_p, sp_f1, sp_f2, sc_w, sc_c, sc_r, sc_f, sc_a, sc_k, pp_in, pp_al, ↓reduceIte, Nat.reduceEqDiff, Nat.reduceLT, Nat.reduceLeDiff, Nat.reduceAdd, Nat.reduceSub, Nat.reduceMul, List.length_cons, List.length_nil, true_and, and_true, and_self, true_implies, eq_self, not_true_eq_false, not_false_eq_true, false_implies, implies_true, false_and, and_false, Bool.false_eq_true, or_true, true_or, or_false, false_or, Classical.not_not, Nat.le_refl, Nat.lt_irrefl, Bool.true_eq_false, n_lit, n_a, n_c, n_s, n_b, n_m, n_g, n_w, n_n, rk_X5_readStatement, hC]
  refine c_stTok hC hx ht ?_
  simp only [sw_c, sw_n, sx, sf_4, sv_i, sv_j, sv_r, sv_q1, sv_q0, sv_1i, sv_1r, sv_2, sl_i, sl_j, sl_a, sl_v, sp_p, sp_f1, sp_f2, sc_w, sc_c, sc_r, sc_f, sc_a, sc_k, pp_in, pp_al, ↓reduceIte, Nat.reduceEqDiff, Nat.reduceLT, Nat.reduceLeDiff, Nat.reduceAdd, Nat.reduceSub, Nat.reduceMul, List.length_cons, List.length_nil, true_and, and_true, and_self, true_implies, eq_self, not_true_eq_false, not_false_eq_true, false_implies, implies_true, false_and, and_false, Bool.false_eq_true, or_true, true_or, or_false, false_or, Classical.not_not, Nat.le_refl, Nat.lt_irrefl, Bool.true_eq_false, rk_X5_readStatement, hC]
  refine c_admit (o := stw b t) hC hW hV hs hw (fun i z => (stw_lt z).1) ?_
  cases hst : stw b t with
  | none =>
    rw [hst] at hP
    simp (disch := omega) only [sw_c, sw_n, sx, sf_4, sv_i, sv_j, sv_r, sv_q1, sv_q0, sv_1i, sv_1r, sv_2, sl_i, sl_j, sl_a, sl_v, sp_p, sp_f1, sp_f2, sc_w, sc_c, sc_r, sc_f, sc_a, sc_k, pp_in, pp_al, ↓reduceIte, Nat.reduceEqDiff, Nat.reduceLT, Nat.reduceLeDiff, Nat.reduceAdd, Nat.reduceSub, Nat.reduceMul, List.length_cons, List.length_nil, true_and, and_true, and_self, true_implies, eq_self, not_true_eq_false, not_false_eq_true, false_implies, implies_true, false_and, and_false, Bool.false_eq_true, or_true, true_or, or_false, false_or, Classical.not_not, Nat.le_refl, Nat.lt_irrefl, Bool.true_eq_false, n_lit, n_a, n_c, n_s, n_b, n_m, n_g, n_w, n_n, rk_X5_readStatement, admO]
    exact hP I (fQ.refl I) ht.2.2.1
  | some i =>
    rw [hst] at hP sg
    simp only [] at hP sg
    have i12 := stw_lt hst
    have ab := adm_b D i
    have t1 := tb.2.2.1 (by omega)
    have nb := nxt_ok ht.1
    by_cases a0 : adm D i = 0
    · rw [if_pos a0] at hP sg
      simp only [sw_c, sw_n, sx, sf_4, sv_i, sv_j, sv_r, sv_q1, sv_q0, sv_1i, sv_1r, sv_2, sl_i, sl_j, sl_a, sl_v, sp_p, sp_f1, sp_f2, sc_w, sc_c, sc_r, sc_f, sc_a, sc_k, pp_in, pp_al, ↓reduceIte, Nat.reduceEqDiff, Nat.reduceLT, Nat.reduceLeDiff, Nat.reduceAdd, Nat.reduceSub, Nat.reduceMul, List.length_cons, List.length_nil, true_and, and_true, and_self, true_implies, eq_self, not_true_eq_false, not_false_eq_true, false_implies, implies_true, false_and, and_false, Bool.false_eq_true, or_true, true_or, or_false, false_or, Classical.not_not, Nat.le_refl, Nat.lt_irrefl, Bool.true_eq_false, rk_X5_readStatement, oi, admO]
      simp (disch := omega) only [sw_c, sw_n, sx, sf_4, sv_i, sv_j, sv_r, sv_q1, sv_q0, sv_1i, sv_1r, sv_2, sl_i, sl_j, sl_a, sl_v, sp_p, sp_f1, sp_f2, sc_w, sc_c, sc_r, sc_f, sc_a, sc_k, pp_in, pp_al, ↓reduceIte, Nat.reduceEqDiff, Nat.reduceLT, Nat.reduceLeDiff, Nat.reduceAdd, Nat.reduceSub, Nat.reduceMul, List.length_cons, List.length_nil, true_and, and_true, and_self, true_implies, eq_self, not_true_eq_false, not_false_eq_true, false_implies, implies_true, false_and, and_false, Bool.false_eq_true, or_true, true_or, or_false, false_or, Classical.not_not, Nat.le_refl, Nat.lt_irrefl, Bool.true_eq_false, n_lit, n_a, n_c, n_s, n_b, n_m, n_g, n_w, n_n, rk_X5_readStatement, a0]
      refine pp_go rfl sk_X5_readStatement_17 ?_
      simp (disch := omega) only [sg_X5_readStatement_17, sw_c, sw_n, sx, sf_4, sv_i, sv_j, sv_r, sv_q1, sv_q0, sv_1i, sv_1r, sv_2, sl_i, sl_j, sl_a, sl_v, sp_p, sp_f1, sp_f2, sc_w, sc_c, sc_r, sc_f, sc_a, sc_k, pp_in, pp_al, ↓reduceIte, Nat.reduceEqDiff, Nat.reduceLT, Nat.reduceLeDiff, Nat.reduceAdd, Nat.reduceSub, Nat.reduceMul, List.length_cons, List.length_nil, true_and, and_true, and_self, true_implies, eq_self, not_true_eq_false, not_false_eq_true, false_implies, implies_true, false_and, and_false, Bool.false_eq_true, or_true, true_or, or_false, false_or, Classical.not_not, Nat.le_refl, Nat.lt_irrefl, Bool.true_eq_false, n_lit, n_a, n_c, n_s, n_b, n_m, n_g, n_w, n_n, rk_X5_readStatement, hC]
      refine c_next hC hx tb.2.1 ht.2.2.2.1 (fun I1 f1 t1' => ?_)
      have ht1 : tC I1 b n (nxt b n t) := t1'
      have x1 : xC I1 b n := xC_fr hx f1.2 (f1.1 65 (by omega))
      have W1 : cW I1 J (dG D) := cW_cg hW (fun a x y => f1.1 a (by omega))
      have V1 : cV I1 D := cV_cg hV (fun a x y => f1.1 a (by omega))
      have S1 : sNC I1 D.2.2.2.2.2.2 := by
        obtain ⟨s, s1, s2, s3⟩ := hs
        exact ⟨s, s1, by rw [f1.1 66 (by omega)]; exact s2, s3⟩
      by_cases c11 : i = 11
      · rw [if_pos c11] at hP sg
        subst c11
        simp (disch := omega) only [sw_c, sw_n, sx, sf_4, sv_i, sv_j, sv_r, sv_q1, sv_q0, sv_1i, sv_1r, sv_2, sl_i, sl_j, sl_a, sl_v, sp_p, sp_f1, sp_f2, sc_w, sc_c, sc_r, sc_f, sc_a, sc_k, pp_in, pp_al, ↓reduceIte, Nat.reduceEqDiff, Nat.reduceLT, Nat.reduceLeDiff, Nat.reduceAdd, Nat.reduceSub, Nat.reduceMul, List.length_cons, List.length_nil, true_and, and_true, and_self, true_implies, eq_self, not_true_eq_false, not_false_eq_true, false_implies, implies_true, false_and, and_false, Bool.false_eq_true, or_true, true_or, or_false, false_or, Classical.not_not, Nat.le_refl, Nat.lt_irrefl, Bool.true_eq_false, n_lit, n_a, n_c, n_s, n_b, n_m, n_g, n_w, n_n, rk_X5_readStatement, hC]
        refine c_clear hC.2.2.2.1.2.2.2.2.1 ?_
        simp (disch := omega) only [sw_c, sw_n, sx, sf_4, sv_i, sv_j, sv_r, sv_q1, sv_q0, sv_1i, sv_1r, sv_2, sl_i, sl_j, sl_a, sl_v, sp_p, sp_f1, sp_f2, sc_w, sc_c, sc_r, sc_f, sc_a, sc_k, pp_in, pp_al, ↓reduceIte, Nat.reduceEqDiff, Nat.reduceLT, Nat.reduceLeDiff, Nat.reduceAdd, Nat.reduceSub, Nat.reduceMul, List.length_cons, List.length_nil, true_and, and_true, and_self, true_implies, eq_self, not_true_eq_false, not_false_eq_true, false_implies, implies_true, false_and, and_false, Bool.false_eq_true, or_true, true_or, or_false, false_or, Classical.not_not, Nat.le_refl, Nat.lt_irrefl, Bool.true_eq_false, n_lit, n_a, n_c, n_s, n_b, n_m, n_g, n_w, n_n, rk_X5_readStatement, hC]
        refine c_sumN (h := h) 5 (by omega) _ _ _ _ _ (nxt b n t) [] hC (xC_fr x1 rfl rfl) ht1 ⟨by simp only [n_m, ↓reduceIte]; rfl, fun i hi => absurd hi (Nat.not_lt_zero _), Nat.zero_le _⟩ (Nat.zero_le _) ?_
        have fc : ∀ I2, fG (pp_s I1 71 (va_up (I1 71) 1 (Int32.ofNat 0))) I2 → fQ I I2 := fun I2 a => fQ.trans (fQ_B f1) ⟨fun i h => (a.1 i (by omega) (by omega) (by omega)).trans (pp_s_ne _ _ (by omega)), a.2.1⟩
        cases hr : sumN b n 5 (nxt b n t) [] with
        | inl e =>
          rw [hr] at hP
          have e0 := (eok_sumN (b := b) (n := n) 5).1 _ _ _ hr
          have e1 : ¬ e.1 = 0 := by omega
          intro I2 a1 a2 a3
          simp (disch := omega) only [sw_c, sw_n, sx, sf_4, sv_i, sv_j, sv_r, sv_q1, sv_q0, sv_1i, sv_1r, sv_2, sl_i, sl_j, sl_a, sl_v, sp_p, sp_f1, sp_f2, sc_w, sc_c, sc_r, sc_f, sc_a, sc_k, pp_in, pp_al, ↓reduceIte, Nat.reduceEqDiff, Nat.reduceLT, Nat.reduceLeDiff, Nat.reduceAdd, Nat.reduceSub, Nat.reduceMul, List.length_cons, List.length_nil, true_and, and_true, and_self, true_implies, eq_self, not_true_eq_false, not_false_eq_true, false_implies, implies_true, false_and, and_false, Bool.false_eq_true, or_true, true_or, or_false, false_or, Classical.not_not, Nat.le_refl, Nat.lt_irrefl, Bool.true_eq_false, n_lit, n_a, n_c, n_s, n_b, n_m, n_g, n_w, n_n, rk_X5_readStatement]
          refine pp_go rfl sk_X5_readStatement_55 ?_
          simp (disch := omega) only [sg_X5_readStatement_55, sw_c, sw_n, sx, sf_4, sv_i, sv_j, sv_r, sv_q1, sv_q0, sv_1i, sv_1r, sv_2, sl_i, sl_j, sl_a, sl_v, sp_p, sp_f1, sp_f2, sc_w, sc_c, sc_r, sc_f, sc_a, sc_k, pp_in, pp_al, ↓reduceIte, Nat.reduceEqDiff, Nat.reduceLT, Nat.reduceLeDiff, Nat.reduceAdd, Nat.reduceSub, Nat.reduceMul, List.length_cons, List.length_nil, true_and, and_true, and_self, true_implies, eq_self, not_true_eq_false, not_false_eq_true, false_implies, implies_true, false_and, and_false, Bool.false_eq_true, or_true, true_or, or_false, false_or, Classical.not_not, Nat.le_refl, Nat.lt_irrefl, Bool.true_eq_false, n_lit, n_a, n_c, n_s, n_b, n_m, n_g, n_w, n_n, rk_X5_readStatement, e1]
          exact hP I2 (fc I2 a1) a3
        | inr q =>
          obtain ⟨t2, c2⟩ := q
          rw [hr] at hP sg
          intro I2 a1 a2 a3
          dsimp only at a2 a3 hP sg
          simp (disch := omega) only [sw_c, sw_n, sx, sf_4, sv_i, sv_j, sv_r, sv_q1, sv_q0, sv_1i, sv_1r, sv_2, sl_i, sl_j, sl_a, sl_v, sp_p, sp_f1, sp_f2, sc_w, sc_c, sc_r, sc_f, sc_a, sc_k, pp_in, pp_al, ↓reduceIte, Nat.reduceEqDiff, Nat.reduceLT, Nat.reduceLeDiff, Nat.reduceAdd, Nat.reduceSub, Nat.reduceMul, List.length_cons, List.length_nil, true_and, and_true, and_self, true_implies, eq_self, not_true_eq_false, not_false_eq_true, false_implies, implies_true, false_and, and_false, Bool.false_eq_true, or_true, true_or, or_false, false_or, Classical.not_not, Nat.le_refl, Nat.lt_irrefl, Bool.true_eq_false, n_lit, n_a, n_c, n_s, n_b, n_m, n_g, n_w, n_n, rk_X5_readStatement]
          refine pp_go rfl sk_X5_readStatement_55 ?_
          simp (disch := omega) only [sg_X5_readStatement_55, sw_c, sw_n, sx, sf_4, sv_i, sv_j, sv_r, sv_q1, sv_q0, sv_1i, sv_1r, sv_2, sl_i, sl_j, sl_a, sl_v, sp_p, sp_f1, sp_f2, sc_w, sc_c, sc_r, sc_f, sc_a, sc_k, pp_in, pp_al, ↓reduceIte, Nat.reduceEqDiff, Nat.reduceLT, Nat.reduceLeDiff, Nat.reduceAdd, Nat.reduceSub, Nat.reduceMul, List.length_cons, List.length_nil, true_and, and_true, and_self, true_implies, eq_self, not_true_eq_false, not_false_eq_true, false_implies, implies_true, false_and, and_false, Bool.false_eq_true, or_true, true_or, or_false, false_or, Classical.not_not, Nat.le_refl, Nat.lt_irrefl, Bool.true_eq_false, n_lit, n_a, n_c, n_s, n_b, n_m, n_g, n_w, n_n, rk_X5_readStatement]
          have ek : ∀ a, a ≠ 94 → a ≠ 71 → a ≠ 72 → I2 a = I1 a := fun a x y z => (a1.1 a x y z).trans (pp_s_ne _ _ y)
          have gs := (sumN_g (b := b) (n := n) 5).1 _ _ _ _ nb.1 hr
          obtain ⟨e, he, ho⟩ := gs.2.2.2
          have l0 := gs.2.2.1
          rw [List.length_nil] at l0
          have tb2 := tk_b gs.1
          have w2 : wfD (D.1, D.2.1, D.2.2.1, D.2.2.2.1, D.2.2.2.2.1, c2, D.2.2.2.2.2.2) := by
            obtain ⟨w0, w1, w2, w3, w4, w5, w6, w7, w8, w9, w10, w11, w12, w13, x0, x1, x2, x2', x3, x4, x5⟩ := hw
            refine ⟨w0, w1, w2, w3, w4, w5, w6, w7, w8, w9, w10, w11, w12, w13, x0, x1, x2, x2', x3, by show c2.length ≤ 700; omega, ?_⟩
            show okc c2 0
            rw [he, List.nil_append]
            exact okc_of e 0 (ho 0 (by omega))
          have hP' : pL sh I2 J R P b n (fin1 b n t2 (updW D c2)) := by
            revert hP
            unfold fin1
            by_cases z : sgP t2 59
            · rw [if_pos z]
              exact fun hP I' a b => hP I' (fQ.trans (fc I2 a1) a) b
            · rw [if_neg z]
              exact fun hP I' a b => hP I' (fQ.trans (fc I2 a1) a) b
          refine c_rs_61 (h := h + 18) (v := 0) (u := 0) (D1 := (D.1, D.2.1, D.2.2.1, D.2.2.2.1, D.2.2.2.2.1, c2, D.2.2.2.2.2.2)) (D2 := updW D c2) hC (xC_fr x1 a1.2.1 (ek 65 (by omega) (by omega) (by omega))) a2 (cW_cg W1 (fun a x y => ek a (by omega) (by omega) (by omega))) ?_ ?_ w2 (fun z => ?_) a0 (by omega) (fun z => absurd rfl z) (fun z => by cases z) rfl hP'
          · obtain ⟨v0, v3, w4, w5, w6, w7, w8, w9, w10, w11, w12, w13, r1, r2, r3, r4, r5⟩ := V1
            have k67 := ek 67 (by omega) (by omega) (by omega)
            have k68 := ek 68 (by omega) (by omega) (by omega)
            have k69 := ek 69 (by omega) (by omega) (by omega)
            have k70 := ek 70 (by omega) (by omega) (by omega)
            refine ⟨?_, ?_, ?_, ?_, ?_, ?_, ?_, ?_, ?_, ?_, ?_, ?_, ?_, ?_, ?_, a3.1, a3.2.1⟩ <;> (first | rw [k67] | rw [k68] | rw [k69] | rw [k70])
            · exact v0
            · exact v3
            · exact w4
            · exact w5
            · exact w6
            · exact w7
            · exact w8
            · exact w9
            · exact w10
            · exact w11
            · exact w12
            · exact w13
            · exact r1
            · exact r2
            · exact r3
          · obtain ⟨s, s1, s2, s3⟩ := S1
            exact ⟨s, s1, by rw [ek 66 (by omega) (by omega) (by omega)]; exact s2, s3⟩
          · exact (sg (nxt b n t2, updW D c2) (by unfold fin1; rw [if_pos z])).2.2
      · rw [if_neg c11] at hP sg
        have m0 : I1 74 2 = Int32.ofNat (D.1 0) := W1.2.2.1
        simp (disch := omega) only [sw_c, sw_n, sx, sf_4, sv_i, sv_j, sv_r, sv_q1, sv_q0, sv_1i, sv_1r, sv_2, sl_i, sl_j, sl_a, sl_v, sp_p, sp_f1, sp_f2, sc_w, sc_c, sc_r, sc_f, sc_a, sc_k, pp_in, pp_al, ↓reduceIte, Nat.reduceEqDiff, Nat.reduceLT, Nat.reduceLeDiff, Nat.reduceAdd, Nat.reduceSub, Nat.reduceMul, List.length_cons, List.length_nil, true_and, and_true, and_self, true_implies, eq_self, not_true_eq_false, not_false_eq_true, false_implies, implies_true, false_and, and_false, Bool.false_eq_true, or_true, true_or, or_false, false_or, Classical.not_not, Nat.le_refl, Nat.lt_irrefl, Bool.true_eq_false, n_lit, n_a, n_c, n_s, n_b, n_m, n_g, n_w, n_n, rk_X5_readStatement, c11]
        refine pp_go rfl sk_X5_readStatement_49 ?_
        simp (disch := omega) only [sg_X5_readStatement_49, sw_c, sw_n, sx, sf_4, sv_i, sv_j, sv_r, sv_q1, sv_q0, sv_1i, sv_1r, sv_2, sl_i, sl_j, sl_a, sl_v, sp_p, sp_f1, sp_f2, sc_w, sc_c, sc_r, sc_f, sc_a, sc_k, pp_in, pp_al, ↓reduceIte, Nat.reduceEqDiff, Nat.reduceLT, Nat.reduceLeDiff, Nat.reduceAdd, Nat.reduceSub, Nat.reduceMul, List.length_cons, List.length_nil, true_and, and_true, and_self, true_implies, eq_self, not_true_eq_false, not_false_eq_true, false_implies, implies_true, false_and, and_false, Bool.false_eq_true, or_true, true_or, or_false, false_or, Classical.not_not, Nat.le_refl, Nat.lt_irrefl, Bool.true_eq_false, n_lit, n_a, n_c, n_s, n_b, n_m, n_g, n_w, n_n, rk_X5_readStatement, hC]
        refine c_readNumbers (D := D) hC x1 ht1 m0 hw.1 (by omega) ?_
        cases hr : rdN b n D i (nxt b n t) with
        | inl e =>
          rw [hr] at hP
          have e0 := rdN_e hr
          have e1 : ¬ e.1 = 0 := by omega
          intro I2 a1 a2
          simp (disch := omega) only [sw_c, sw_n, sx, sf_4, sv_i, sv_j, sv_r, sv_q1, sv_q0, sv_1i, sv_1r, sv_2, sl_i, sl_j, sl_a, sl_v, sp_p, sp_f1, sp_f2, sc_w, sc_c, sc_r, sc_f, sc_a, sc_k, pp_in, pp_al, ↓reduceIte, Nat.reduceEqDiff, Nat.reduceLT, Nat.reduceLeDiff, Nat.reduceAdd, Nat.reduceSub, Nat.reduceMul, List.length_cons, List.length_nil, true_and, and_true, and_self, true_implies, eq_self, not_true_eq_false, not_false_eq_true, false_implies, implies_true, false_and, and_false, Bool.false_eq_true, or_true, true_or, or_false, false_or, Classical.not_not, Nat.le_refl, Nat.lt_irrefl, Bool.true_eq_false, n_lit, n_a, n_c, n_s, n_b, n_m, n_g, n_w, n_n, rk_X5_readStatement]
          refine pp_go rfl sk_X5_readStatement_55 ?_
          simp (disch := omega) only [sg_X5_readStatement_55, sw_c, sw_n, sx, sf_4, sv_i, sv_j, sv_r, sv_q1, sv_q0, sv_1i, sv_1r, sv_2, sl_i, sl_j, sl_a, sl_v, sp_p, sp_f1, sp_f2, sc_w, sc_c, sc_r, sc_f, sc_a, sc_k, pp_in, pp_al, ↓reduceIte, Nat.reduceEqDiff, Nat.reduceLT, Nat.reduceLeDiff, Nat.reduceAdd, Nat.reduceSub, Nat.reduceMul, List.length_cons, List.length_nil, true_and, and_true, and_self, true_implies, eq_self, not_true_eq_false, not_false_eq_true, false_implies, implies_true, false_and, and_false, Bool.false_eq_true, or_true, true_or, or_false, false_or, Classical.not_not, Nat.le_refl, Nat.lt_irrefl, Bool.true_eq_false, n_lit, n_a, n_c, n_s, n_b, n_m, n_g, n_w, n_n, rk_X5_readStatement, e1]
          exact hP I2 (fQ.trans (fQ_B f1) (fQ_R a1)) a2
        | inr q =>
          obtain ⟨t2, v, u⟩ := q
          rw [hr] at hP sg
          intro I2 a1 a2 a3 a4
          dsimp only at a2 a3 a4 hP sg
          simp (disch := omega) only [sw_c, sw_n, sx, sf_4, sv_i, sv_j, sv_r, sv_q1, sv_q0, sv_1i, sv_1r, sv_2, sl_i, sl_j, sl_a, sl_v, sp_p, sp_f1, sp_f2, sc_w, sc_c, sc_r, sc_f, sc_a, sc_k, pp_in, pp_al, ↓reduceIte, Nat.reduceEqDiff, Nat.reduceLT, Nat.reduceLeDiff, Nat.reduceAdd, Nat.reduceSub, Nat.reduceMul, List.length_cons, List.length_nil, true_and, and_true, and_self, true_implies, eq_self, not_true_eq_false, not_false_eq_true, false_implies, implies_true, false_and, and_false, Bool.false_eq_true, or_true, true_or, or_false, false_or, Classical.not_not, Nat.le_refl, Nat.lt_irrefl, Bool.true_eq_false, n_lit, n_a, n_c, n_s, n_b, n_m, n_g, n_w, n_n, rk_X5_readStatement]
          refine pp_go rfl sk_X5_readStatement_55 ?_
          simp (disch := omega) only [sg_X5_readStatement_55, sw_c, sw_n, sx, sf_4, sv_i, sv_j, sv_r, sv_q1, sv_q0, sv_1i, sv_1r, sv_2, sl_i, sl_j, sl_a, sl_v, sp_p, sp_f1, sp_f2, sc_w, sc_c, sc_r, sc_f, sc_a, sc_k, pp_in, pp_al, ↓reduceIte, Nat.reduceEqDiff, Nat.reduceLT, Nat.reduceLeDiff, Nat.reduceAdd, Nat.reduceSub, Nat.reduceMul, List.length_cons, List.length_nil, true_and, and_true, and_self, true_implies, eq_self, not_true_eq_false, not_false_eq_true, false_implies, implies_true, false_and, and_false, Bool.false_eq_true, or_true, true_or, or_false, false_or, Classical.not_not, Nat.le_refl, Nat.lt_irrefl, Bool.true_eq_false, n_lit, n_a, n_c, n_s, n_b, n_m, n_g, n_w, n_n, rk_X5_readStatement]
          have f12 := fQ.trans (fQ_B f1) (fQ_R a1)
          have hP' : pL sh I2 J R P b n (fin1 b n t2 (uDr D i v u)) := by
            revert hP
            unfold fin1
            by_cases z : sgP t2 59
            · rw [if_pos z]
              exact fun hP I' a b => hP I' (fQ.trans f12 a) b
            · rw [if_neg z]
              exact fun hP I' a b => hP I' (fQ.trans f12 a) b
          refine c_rs_61 (h := h + 18) (v := v) (u := u) (D1 := D) (D2 := uDr D i v u) hC (xC_fr x1 a1.2.1 (a1.1 65 (by omega) (by omega))) a2 (cW_cg W1 (fun a x y => a1.1 a (by omega) (by omega))) (cV_cg V1 (fun a x y => a1.1 a (by omega) (by omega))) ?_ hw (fun z => ?_) a0 (by omega) (fun _ => a3) a4 (if_neg c11) hP'
          · obtain ⟨s, s1, s2, s3⟩ := S1
            exact ⟨s, s1, by rw [a1.2.2 4 (by omega)]; exact s2, s3⟩
          · exact (sg (nxt b n t2, uDr D i v u) (by unfold fin1; rw [if_pos z])).2.2
    · rw [if_neg a0] at hP
      simp only [sw_c, sw_n, sx, sf_4, sv_i, sv_j, sv_r, sv_q1, sv_q0, sv_1i, sv_1r, sv_2, sl_i, sl_j, sl_a, sl_v, sp_p, sp_f1, sp_f2, sc_w, sc_c, sc_r, sc_f, sc_a, sc_k, pp_in, pp_al, ↓reduceIte, Nat.reduceEqDiff, Nat.reduceLT, Nat.reduceLeDiff, Nat.reduceAdd, Nat.reduceSub, Nat.reduceMul, List.length_cons, List.length_nil, true_and, and_true, and_self, true_implies, eq_self, not_true_eq_false, not_false_eq_true, false_implies, implies_true, false_and, and_false, Bool.false_eq_true, or_true, true_or, or_false, false_or, Classical.not_not, Nat.le_refl, Nat.lt_irrefl, Bool.true_eq_false, rk_X5_readStatement, oi, admO]
      simp (disch := omega) only [sw_c, sw_n, sx, sf_4, sv_i, sv_j, sv_r, sv_q1, sv_q0, sv_1i, sv_1r, sv_2, sl_i, sl_j, sl_a, sl_v, sp_p, sp_f1, sp_f2, sc_w, sc_c, sc_r, sc_f, sc_a, sc_k, pp_in, pp_al, ↓reduceIte, Nat.reduceEqDiff, Nat.reduceLT, Nat.reduceLeDiff, Nat.reduceAdd, Nat.reduceSub, Nat.reduceMul, List.length_cons, List.length_nil, true_and, and_true, and_self, true_implies, eq_self, not_true_eq_false, not_false_eq_true, false_implies, implies_true, false_and, and_false, Bool.false_eq_true, or_true, true_or, or_false, false_or, Classical.not_not, Nat.le_refl, Nat.lt_irrefl, Bool.true_eq_false, n_lit, n_a, n_c, n_s, n_b, n_m, n_g, n_w, n_n, rk_X5_readStatement, a0]
      exact hP I (fQ.refl I) ht.2.2.1
theorem c_rp_l {p : Int32} (hC : sC sh R) :
    ∀ (f k : Nat) (I : Nat → Nat → Int32) (t : TK) (D : DR), f + k = 700 → PC b n I J t D → pL sh I J R P b n (lps b n f t D) →
      pp_N g (h + 24) mi_X5_readPool P 35 [(0, .ref 66), (1, .int p), (2, .int (Int32.ofNat 0)), (3, .int (Int32.ofNat k))] [] (sh, I, J, R) := by
  intro f
  induction f with
  | zero =>
    intro k I t D hk hp hP
    have hk : k = 700 := by omega
    subst hk
    rw [lps] at hP
    refine pp_go rfl sk_X5_readPool_35 ?_
    simp (disch := omega) only [sg_X5_readPool_35, sw_c, sw_n, sx, sf_4, sv_i, sv_j, sv_r, sv_q1, sv_q0, sv_1i, sv_1r, sv_2, sl_i, sl_j, sl_a, sl_v, sp_p, sp_f1, sp_f2, sc_w, sc_c, sc_r, sc_f, sc_a, sc_k, pp_in, pp_al, ↓reduceIte, Nat.reduceEqDiff, Nat.reduceLT, Nat.reduceLeDiff, Nat.reduceAdd, Nat.reduceSub, Nat.reduceMul, List.length_cons, List.length_nil, true_and, and_true, and_self, true_implies, eq_self, not_true_eq_false, not_false_eq_true, false_implies, implies_true, false_and, and_false, Bool.false_eq_true, or_true, true_or, or_false, false_or, Classical.not_not, Nat.le_refl, Nat.lt_irrefl, Bool.true_eq_false, n_lit, n_a, n_c, n_s, n_b, n_m, n_g, n_w, n_n, rk_X5_readPool]
    refine pp_go rfl sk_X5_readPool_67 ?_
    simp (disch := omega) only [sg_X5_readPool_67, sw_c, sw_n, sx, sf_4, sv_i, sv_j, sv_r, sv_q1, sv_q0, sv_1i, sv_1r, sv_2, sl_i, sl_j, sl_a, sl_v, sp_p, sp_f1, sp_f2, sc_w, sc_c, sc_r, sc_f, sc_a, sc_k, pp_in, pp_al, ↓reduceIte, Nat.reduceEqDiff, Nat.reduceLT, Nat.reduceLeDiff, Nat.reduceAdd, Nat.reduceSub, Nat.reduceMul, List.length_cons, List.length_nil, true_and, and_true, and_self, true_implies, eq_self, not_true_eq_false, not_false_eq_true, false_implies, implies_true, false_and, and_false, Bool.false_eq_true, or_true, true_or, or_false, false_or, Classical.not_not, Nat.le_refl, Nat.lt_irrefl, Bool.true_eq_false, n_lit, n_a, n_c, n_s, n_b, n_m, n_g, n_w, n_n, rk_X5_readPool]
    exact hP I (fQ.refl I) hp
  | succ f ih =>
    intro k I t D hk hp hP
    have q : ¬ 700 ≤ k := by omega
    have tb := tk_b hp.2.1.1
    have e3 := hp.2.1.2.1
    rw [lps] at hP
    by_cases t0 : t.1 = 0
    · rw [if_pos t0] at hP
      refine pp_go rfl sk_X5_readPool_35 ?_
      simp (disch := omega) only [sg_X5_readPool_35, sw_c, sw_n, sx, sf_4, sv_i, sv_j, sv_r, sv_q1, sv_q0, sv_1i, sv_1r, sv_2, sl_i, sl_j, sl_a, sl_v, sp_p, sp_f1, sp_f2, sc_w, sc_c, sc_r, sc_f, sc_a, sc_k, pp_in, pp_al, ↓reduceIte, Nat.reduceEqDiff, Nat.reduceLT, Nat.reduceLeDiff, Nat.reduceAdd, Nat.reduceSub, Nat.reduceMul, List.length_cons, List.length_nil, true_and, and_true, and_self, true_implies, eq_self, not_true_eq_false, not_false_eq_true, false_implies, implies_true, false_and, and_false, Bool.false_eq_true, or_true, true_or, or_false, false_or, Classical.not_not, Nat.le_refl, Nat.lt_irrefl, Bool.true_eq_false, n_lit, n_a, n_c, n_s, n_b, n_m, n_g, n_w, n_n, rk_X5_readPool, hC, q, e3, t0]
      refine pp_go rfl sk_X5_readPool_67 ?_
      simp (disch := omega) only [sg_X5_readPool_67, sw_c, sw_n, sx, sf_4, sv_i, sv_j, sv_r, sv_q1, sv_q0, sv_1i, sv_1r, sv_2, sl_i, sl_j, sl_a, sl_v, sp_p, sp_f1, sp_f2, sc_w, sc_c, sc_r, sc_f, sc_a, sc_k, pp_in, pp_al, ↓reduceIte, Nat.reduceEqDiff, Nat.reduceLT, Nat.reduceLeDiff, Nat.reduceAdd, Nat.reduceSub, Nat.reduceMul, List.length_cons, List.length_nil, true_and, and_true, and_self, true_implies, eq_self, not_true_eq_false, not_false_eq_true, false_implies, implies_true, false_and, and_false, Bool.false_eq_true, or_true, true_or, or_false, false_or, Classical.not_not, Nat.le_refl, Nat.lt_irrefl, Bool.true_eq_false, n_lit, n_a, n_c, n_s, n_b, n_m, n_g, n_w, n_n, rk_X5_readPool]
      exact hP I (fQ.refl I) hp
    · rw [if_neg t0] at hP
      refine pp_go rfl sk_X5_readPool_35 ?_
      simp (disch := omega) only [sg_X5_readPool_35, sw_c, sw_n, sx, sf_4, sv_i, sv_j, sv_r, sv_q1, sv_q0, sv_1i, sv_1r, sv_2, sl_i, sl_j, sl_a, sl_v, sp_p, sp_f1, sp_f2, sc_w, sc_c, sc_r, sc_f, sc_a, sc_k, pp_in, pp_al, ↓reduceIte, Nat.reduceEqDiff, Nat.reduceLT, Nat.reduceLeDiff, Nat.reduceAdd, Nat.reduceSub, Nat.reduceMul, List.length_cons, List.length_nil, true_and, and_true, and_self, true_implies, eq_self, not_true_eq_false, not_false_eq_true, false_implies, implies_true, false_and, and_false, Bool.false_eq_true, or_true, true_or, or_false, false_or, Classical.not_not, Nat.le_refl, Nat.lt_irrefl, Bool.true_eq_false, n_lit, n_a, n_c, n_s, n_b, n_m, n_g, n_w, n_n, rk_X5_readPool, hC, q, e3, t0]
      refine c_readStatement hC hp ?_
      cases hr : stc b n t D with
      | inl e =>
        rw [hr] at hP
        have e0 := stc_e hr
        have e1 : ¬ e.1 = 0 := by omega
        intro I2 a1 a2
        simp (disch := omega) only [sw_c, sw_n, sx, sf_4, sv_i, sv_j, sv_r, sv_q1, sv_q0, sv_1i, sv_1r, sv_2, sl_i, sl_j, sl_a, sl_v, sp_p, sp_f1, sp_f2, sc_w, sc_c, sc_r, sc_f, sc_a, sc_k, pp_in, pp_al, ↓reduceIte, Nat.reduceEqDiff, Nat.reduceLT, Nat.reduceLeDiff, Nat.reduceAdd, Nat.reduceSub, Nat.reduceMul, List.length_cons, List.length_nil, true_and, and_true, and_self, true_implies, eq_self, not_true_eq_false, not_false_eq_true, false_implies, implies_true, false_and, and_false, Bool.false_eq_true, or_true, true_or, or_false, false_or, Classical.not_not, Nat.le_refl, Nat.lt_irrefl, Bool.true_eq_false, n_lit, n_a, n_c, n_s, n_b, n_m, n_g, n_w, n_n, rk_X5_readPool]
        by_cases kk : 700 ≤ k + 1
        · refine pp_go rfl sk_X5_readPool_35 ?_
          simp (disch := omega) only [sg_X5_readPool_35, sw_c, sw_n, sx, sf_4, sv_i, sv_j, sv_r, sv_q1, sv_q0, sv_1i, sv_1r, sv_2, sl_i, sl_j, sl_a, sl_v, sp_p, sp_f1, sp_f2, sc_w, sc_c, sc_r, sc_f, sc_a, sc_k, pp_in, pp_al, ↓reduceIte, Nat.reduceEqDiff, Nat.reduceLT, Nat.reduceLeDiff, Nat.reduceAdd, Nat.reduceSub, Nat.reduceMul, List.length_cons, List.length_nil, true_and, and_true, and_self, true_implies, eq_self, not_true_eq_false, not_false_eq_true, false_implies, implies_true, false_and, and_false, Bool.false_eq_true, or_true, true_or, or_false, false_or, Classical.not_not, Nat.le_refl, Nat.lt_irrefl, Bool.true_eq_false, n_lit, n_a, n_c, n_s, n_b, n_m, n_g, n_w, n_n, rk_X5_readPool, kk]
          refine pp_go rfl sk_X5_readPool_67 ?_
          simp (disch := omega) only [sg_X5_readPool_67, sw_c, sw_n, sx, sf_4, sv_i, sv_j, sv_r, sv_q1, sv_q0, sv_1i, sv_1r, sv_2, sl_i, sl_j, sl_a, sl_v, sp_p, sp_f1, sp_f2, sc_w, sc_c, sc_r, sc_f, sc_a, sc_k, pp_in, pp_al, ↓reduceIte, Nat.reduceEqDiff, Nat.reduceLT, Nat.reduceLeDiff, Nat.reduceAdd, Nat.reduceSub, Nat.reduceMul, List.length_cons, List.length_nil, true_and, and_true, and_self, true_implies, eq_self, not_true_eq_false, not_false_eq_true, false_implies, implies_true, false_and, and_false, Bool.false_eq_true, or_true, true_or, or_false, false_or, Classical.not_not, Nat.le_refl, Nat.lt_irrefl, Bool.true_eq_false, n_lit, n_a, n_c, n_s, n_b, n_m, n_g, n_w, n_n, rk_X5_readPool]
          exact hP I2 a1 a2
        · refine pp_go rfl sk_X5_readPool_35 ?_
          simp (disch := omega) only [sg_X5_readPool_35, sw_c, sw_n, sx, sf_4, sv_i, sv_j, sv_r, sv_q1, sv_q0, sv_1i, sv_1r, sv_2, sl_i, sl_j, sl_a, sl_v, sp_p, sp_f1, sp_f2, sc_w, sc_c, sc_r, sc_f, sc_a, sc_k, pp_in, pp_al, ↓reduceIte, Nat.reduceEqDiff, Nat.reduceLT, Nat.reduceLeDiff, Nat.reduceAdd, Nat.reduceSub, Nat.reduceMul, List.length_cons, List.length_nil, true_and, and_true, and_self, true_implies, eq_self, not_true_eq_false, not_false_eq_true, false_implies, implies_true, false_and, and_false, Bool.false_eq_true, or_true, true_or, or_false, false_or, Classical.not_not, Nat.le_refl, Nat.lt_irrefl, Bool.true_eq_false, n_lit, n_a, n_c, n_s, n_b, n_m, n_g, n_w, n_n, rk_X5_readPool, kk, e1]
          refine pp_go rfl sk_X5_readPool_67 ?_
          simp (disch := omega) only [sg_X5_readPool_67, sw_c, sw_n, sx, sf_4, sv_i, sv_j, sv_r, sv_q1, sv_q0, sv_1i, sv_1r, sv_2, sl_i, sl_j, sl_a, sl_v, sp_p, sp_f1, sp_f2, sc_w, sc_c, sc_r, sc_f, sc_a, sc_k, pp_in, pp_al, ↓reduceIte, Nat.reduceEqDiff, Nat.reduceLT, Nat.reduceLeDiff, Nat.reduceAdd, Nat.reduceSub, Nat.reduceMul, List.length_cons, List.length_nil, true_and, and_true, and_self, true_implies, eq_self, not_true_eq_false, not_false_eq_true, false_implies, implies_true, false_and, and_false, Bool.false_eq_true, or_true, true_or, or_false, false_or, Classical.not_not, Nat.le_refl, Nat.lt_irrefl, Bool.true_eq_false, n_lit, n_a, n_c, n_s, n_b, n_m, n_g, n_w, n_n, rk_X5_readPool]
          exact hP I2 a1 a2
      | inr r =>
        rw [hr] at hP
        intro I2 a1 a2
        simp (disch := omega) only [sw_c, sw_n, sx, sf_4, sv_i, sv_j, sv_r, sv_q1, sv_q0, sv_1i, sv_1r, sv_2, sl_i, sl_j, sl_a, sl_v, sp_p, sp_f1, sp_f2, sc_w, sc_c, sc_r, sc_f, sc_a, sc_k, pp_in, pp_al, ↓reduceIte, Nat.reduceEqDiff, Nat.reduceLT, Nat.reduceLeDiff, Nat.reduceAdd, Nat.reduceSub, Nat.reduceMul, List.length_cons, List.length_nil, true_and, and_true, and_self, true_implies, eq_self, not_true_eq_false, not_false_eq_true, false_implies, implies_true, false_and, and_false, Bool.false_eq_true, or_true, true_or, or_false, false_or, Classical.not_not, Nat.le_refl, Nat.lt_irrefl, Bool.true_eq_false, n_lit, n_a, n_c, n_s, n_b, n_m, n_g, n_w, n_n, rk_X5_readPool]
        refine ih (k + 1) I2 r.1 r.2 (by omega) a2 ?_
        revert hP
        simp only []
        cases lps b n f r.1 r.2 with
        | inl e => exact fun hP I' a b => hP I' (fQ.trans a1 a) b
        | inr q => exact fun hP I' a b => hP I' (fQ.trans a1 a) b
end
