/-! THE MODEL, 10: the end of a period -/
set_option maxHeartbeats 1000000
set_option maxRecDepth 100000
def clC (T : TM) (G : LG) : Int64 := G.2 2 * Int64.ofNat (T.1 7) / Int64.ofNat 100
def clR (T : TM) (G : LG) : Int64 := G.2 2 * Int64.ofNat (T.1 8) / Int64.ofNat 100
def clA (T : TM) (G : LG) : Int64 := G.2 2 - clC T G - clR T G
def clD (T : TM) (G : LG) : (Nat → Int64) × Int64 := dsh (wts T G) (clA T G) (T.1 6)
def clG (T : TM) (G : LG) : LG := (fun i => if 183 ≤ i ∧ i < 213 then 0 else if i = 1 then G.1 1 + 1 else G.1 i,
  fun i => if i = 2 then Int64.ofNat 0 else if i = 3 then G.2 3 + clC T G else if i = 4 then G.2 4 + (clR T G + (clD T G).2) else if 213 ≤ i ∧ i < 221 then G.2 i + (clD T G).1 (i - 213) else if 221 ≤ i ∧ i < 229 then (clD T G).1 (i - 221) else G.2 i)
def o_close (A : AS) : Nat × Int64 × AS := if (aG A).2 2 = Int64.ofNat 0 then (1, 0, A) else (0, clA (aT A) (aG A) - (clD (aT A) (aG A)).2, chg A (clG (aT A) (aG A)))
theorem RM_chg2 {A : AS} {I I1 I2 : Nat → Nat → Int32} {J J1 J2 : Nat → Nat → Int64} {G' : LG} (hA : RM A I J) (k : kI (tI I 0) I1) (hf : ∀ a, a ≠ 137 → J1 a = J a) (hU : mU I1 J1 (psh (aG A) (aU A))) (h2 : fS I1 I2) (j2 : ∀ a, a ≠ 122 → a ≠ 134 → a ≠ 135 → J2 a = J1 a) (hr : rN (J2 122) G') : RM (chg A G') I2 J2 ∧ fO I I2 J J2 ∧ I2 121 0 = Int32.ofNat 0 := by
  have z := RM_chg hA k hf hU hr
  have e : I2 121 = va_up (I1 121) 0 (I1 121 0) := by
    rw [h2 121 (by omega)]
    funext i
    simp only [va_up]
    by_cases c : i = 0
    · rw [if_pos c, c]
    · rw [if_neg c]
  have y := RM_sc (I' := I2) (J' := J2) z.1 (fun a ha => h2 a (by omega)) e (fun a a1 a2 => by
    by_cases c : a = 122
    · rw [c, pp_s_eq]
    · rw [pp_s_ne _ _ c]; exact j2 a c a1 a2)
  exact ⟨y.1, fun a ha => ⟨(y.2 a ha).1.trans (z.2.1 a ha).1, (y.2 a ha).2.trans (z.2.1 a ha).2⟩, by rw [h2 121 (by omega)]; exact z.2.2⟩
section
variable {g : pp_G} {h : Nat} {sh : List (Nat × Nat)} {I : Nat → Nat → Int32} {J : Nat → Nat → Int64} {R : Nat → Nat → Option Nat} {w : pp_W} {P : pp_R → pp_W → Prop} {G : LG} {T : TM} {n : Nat} {A : AS}
theorem m_cl_1 {S base : Nat → Int64} {c1 c2 am re : Int64} (hM : sM sh R) (hS : ∀ i, i < 8 → J 134 i = S i)
    (K : ∀ J', (∀ a, a ≠ 122 → J' a = J a) → (∀ i, J' 122 i = if 213 ≤ i ∧ i < 221 then base i + S (i - 213) else if 221 ≤ i ∧ i < 229 then S (i - 221) else base i) → pp_N g h mi_X9_close P 190 [(0, .ref 121), (1, .long c1), (3, .long c2), (5, .long am), (7, .long re)] [] (sh, I, J', R)) :
    ∀ f m J', f + m = 8 → (∀ a, a ≠ 122 → J' a = J a) → (∀ i, J' 122 i = if 213 ≤ i ∧ i < 213 + m then base i + S (i - 213) else if 221 ≤ i ∧ i < 221 + m then S (i - 221) else base i) → pp_N g h mi_X9_close P 138 [(0, .ref 121), (1, .long c1), (3, .long c2), (5, .long am), (7, .long re), (9, .int (Int32.ofNat m))] [] (sh, I, J', R) := by
  intro f
  induction f with
  | zero =>
    intro m J' hm hf hr
    have hm : m = 8 := by omega
    subst hm
    refine pp_go rfl sk_X9_close_138 ?_
    simp (disch := omega) only [sg_X9_close_138, sw_c, sw_n, sx, sf_4, sv_i, sv_j, sv_r, sv_q1, sv_q0, sv_1i, sv_1r, sv_2, sl_i, sl_j, sl_a, sl_v, sp_p, sp_f1, sp_f2, sc_w, sc_c, sc_r, sc_f, sc_a, sc_k, pp_in, pp_al, ↓reduceIte, Nat.reduceEqDiff, Nat.reduceLT, Nat.reduceLeDiff, Nat.reduceAdd, Nat.reduceSub, Nat.reduceMul, List.length_cons, List.length_nil, true_and, and_true, and_self, true_implies, eq_self, not_true_eq_false, not_false_eq_true, false_implies, implies_true, false_and, and_false, Bool.false_eq_true, or_true, true_or, or_false, false_or, Classical.not_not, Nat.le_refl, Nat.lt_irrefl, Bool.true_eq_false, n_lit, n_a, n_c, n_s, n_b, n_m, n_g, n_w, n_n]
    exact pp_N.sub (K J' hf hr) (by simp)
  | succ f ih =>
    intro m J' hm hf hr
    have q1 : ¬ 8 ≤ m := by omega
    have r1 : J' 122 (213 + m) = base (213 + m) := by rw [hr, if_neg (by omega), if_neg (by omega)]
    have r2 : J' 134 m = S m := by rw [hf 134 (by omega)]; exact hS m (by omega)
    refine pp_go rfl sk_X9_close_138 ?_
    simp (disch := omega) only [sg_X9_close_138, sw_c, sw_n, sx, sf_4, sv_i, sv_j, sv_r, sv_q1, sv_q0, sv_1i, sv_1r, sv_2, sl_i, sl_j, sl_a, sl_v, sp_p, sp_f1, sp_f2, sc_w, sc_c, sc_r, sc_f, sc_a, sc_k, pp_in, pp_al, ↓reduceIte, Nat.reduceEqDiff, Nat.reduceLT, Nat.reduceLeDiff, Nat.reduceAdd, Nat.reduceSub, Nat.reduceMul, List.length_cons, List.length_nil, true_and, and_true, and_self, true_implies, eq_self, not_true_eq_false, not_false_eq_true, false_implies, implies_true, false_and, and_false, Bool.false_eq_true, or_true, true_or, or_false, false_or, Classical.not_not, Nat.le_refl, Nat.lt_irrefl, Bool.true_eq_false, n_lit, n_a, n_c, n_s, n_b, n_m, n_g, n_w, n_n, hM, q1, r1, r2]
    refine ih (m + 1) _ (by omega) (fun a ha => ?_) (fun i => ?_)
    · rw [pp_s_ne _ _ ha]; exact hf a ha
    · simp only [n_m, ↓reduceIte]
      by_cases e1 : i = 221 + m
      · rw [if_pos e1, if_neg (by omega), if_pos (by omega), e1, show 221 + m - 221 = m by omega]
      · rw [if_neg e1]
        by_cases e2 : i = 213 + m
        · rw [if_pos e2, if_pos (by omega), e2, show 213 + m - 213 = m by omega]
        · rw [if_neg e2, hr]
          by_cases c1 : 213 ≤ i ∧ i < 213 + m
          · rw [if_pos c1, if_pos (by omega)]
          · rw [if_neg c1]
            by_cases c2 : 221 ≤ i ∧ i < 221 + m
            · rw [if_pos c2, if_neg (by omega), if_pos (by omega)]
            · rw [if_neg c2, if_neg (by omega), if_neg (by omega)]
theorem m_cl_2 {base : Nat → Int64} {c1 c2 am re : Int64} (hM : sM sh R)
    (K : ∀ J', (∀ a, a ≠ 122 → J' a = J a) → (∀ i, J' 122 i = if 183 ≤ i ∧ i < 213 then Int64.ofNat 0 else base i) → P (.inl (some (.long (am - re)))) (sh, I, J', R)) :
    ∀ f k J', f + k = 213 → 183 ≤ k → (∀ a, a ≠ 122 → J' a = J a) → (∀ i, J' 122 i = if 183 ≤ i ∧ i < k then Int64.ofNat 0 else base i) → pp_N g h mi_X9_close P 195 [(0, .ref 121), (1, .long c1), (3, .long c2), (5, .long am), (7, .long re), (9, .int (Int32.ofNat k))] [] (sh, I, J', R) := by
  intro f
  induction f with
  | zero =>
    intro k J' hk k1 hf hr
    have hk : k = 213 := by omega
    subst hk
    have K := K J' hf hr
    repeat' (first | ((with_reducible refine pp_go (pc := 195) (seg := sg_X9_close_195) hh_X9_close sk_X9_close_195 ?_); simp (disch := omega) only [sg_X9_close_195, sw_c, sw_n, sx, sf_4, sv_i, sv_j, sv_r, sv_q1, sv_q0, sv_1i, sv_1r, sv_2, sl_i, sl_j, sl_a, sl_v, sp_p, sp_f1, sp_f2, sc_w, sc_c, sc_r, sc_f, sc_a, sc_k, pp_in, pp_al, ↓reduceIte, Nat.reduceEqDiff, Nat.reduceLT, Nat.reduceLeDiff, Nat.reduceAdd, Nat.reduceSub, Nat.reduceMul, List.length_cons, List.length_nil, true_and, and_true, and_self, true_implies, eq_self, not_true_eq_false, not_false_eq_true, false_implies, implies_true, false_and, and_false, Bool.false_eq_true, or_true, true_or, or_false, false_or, Classical.not_not, Nat.le_refl, Nat.lt_irrefl, Bool.true_eq_false, n_lit, n_a, n_c, n_s, n_b, n_m, n_g, n_w, n_n]) | ((with_reducible refine pp_go (pc := 217) (seg := sg_X9_close_217) hh_X9_close sk_X9_close_217 ?_); simp (disch := omega) only [sg_X9_close_217, sw_c, sw_n, sx, sf_4, sv_i, sv_j, sv_r, sv_q1, sv_q0, sv_1i, sv_1r, sv_2, sl_i, sl_j, sl_a, sl_v, sp_p, sp_f1, sp_f2, sc_w, sc_c, sc_r, sc_f, sc_a, sc_k, pp_in, pp_al, ↓reduceIte, Nat.reduceEqDiff, Nat.reduceLT, Nat.reduceLeDiff, Nat.reduceAdd, Nat.reduceSub, Nat.reduceMul, List.length_cons, List.length_nil, true_and, and_true, and_self, true_implies, eq_self, not_true_eq_false, not_false_eq_true, false_implies, implies_true, false_and, and_false, Bool.false_eq_true, or_true, true_or, or_false, false_or, Classical.not_not, Nat.le_refl, Nat.lt_irrefl, Bool.true_eq_false, n_lit, n_a, n_c, n_s, n_b, n_m, n_g, n_w, n_n]) | (refine ⟨fun _ => ?_, fun _ => ?_⟩ <;> try (exfalso; omega)) | fail)
    exact K
  | succ f ih =>
    intro k J' hk k1 hf hr
    have q1 : ¬ 213 ≤ k := by omega
    refine pp_go rfl sk_X9_close_195 ?_
    simp (disch := omega) only [sg_X9_close_195, sw_c, sw_n, sx, sf_4, sv_i, sv_j, sv_r, sv_q1, sv_q0, sv_1i, sv_1r, sv_2, sl_i, sl_j, sl_a, sl_v, sp_p, sp_f1, sp_f2, sc_w, sc_c, sc_r, sc_f, sc_a, sc_k, pp_in, pp_al, ↓reduceIte, Nat.reduceEqDiff, Nat.reduceLT, Nat.reduceLeDiff, Nat.reduceAdd, Nat.reduceSub, Nat.reduceMul, List.length_cons, List.length_nil, true_and, and_true, and_self, true_implies, eq_self, not_true_eq_false, not_false_eq_true, false_implies, implies_true, false_and, and_false, Bool.false_eq_true, or_true, true_or, or_false, false_or, Classical.not_not, Nat.le_refl, Nat.lt_irrefl, Bool.true_eq_false, n_lit, n_a, n_c, n_s, n_b, n_m, n_g, n_w, n_n, hM, q1]
    refine ih (k + 1) _ (by omega) (by omega) (fun a ha => ?_) (fun i => ?_)
    · rw [pp_s_ne _ _ ha]; exact hf a ha
    · simp only [n_m, ↓reduceIte]
      by_cases e1 : i = k
      · rw [if_pos e1, if_pos (by omega)]
      · rw [if_neg e1, hr]
        by_cases c1 : 183 ≤ i ∧ i < k
        · rw [if_pos c1, if_pos (by omega)]
        · rw [if_neg c1, if_neg (by omega)]
theorem m_close (hM : sM sh R) (hA : RM A I J) (wG : wfL n (aG A)) (wT : wfT (aT A)) (hn : n ≤ 1000) (hP : ∀ I' J', RM (o_close A).2.2 I' J' → fO I I' J J' → I' 121 0 = Int32.ofNat (o_close A).1 → P (.inl (some (.long (o_close A).2.1))) (sh, I', J', R)) : pp_MW g (h + 7) mi_X9_close [.ref 121] (sh, I, J, R) P := by
  refine pp_st0 [(0, .ref 121)] ok_X9_close rfl (Nat.le_of_ble_eq_true rfl) rfl ?_
  have hN := hA.1
  have hT := hA.2.1
  refine pp_go rfl sk_X9_close_0 ?_
  simp (disch := omega) only [sg_X9_close_0, sw_c, sw_n, sx, sf_4, sv_i, sv_j, sv_r, sv_q1, sv_q0, sv_1i, sv_1r, sv_2, sl_i, sl_j, sl_a, sl_v, sp_p, sp_f1, sp_f2, sc_w, sc_c, sc_r, sc_f, sc_a, sc_k, pp_in, pp_al, ↓reduceIte, Nat.reduceEqDiff, Nat.reduceLT, Nat.reduceLeDiff, Nat.reduceAdd, Nat.reduceSub, Nat.reduceMul, List.length_cons, List.length_nil, true_and, and_true, and_self, true_implies, eq_self, not_true_eq_false, not_false_eq_true, false_implies, implies_true, false_and, and_false, Bool.false_eq_true, or_true, true_or, or_false, false_or, Classical.not_not, Nat.le_refl, Nat.lt_irrefl, Bool.true_eq_false, n_lit, n_a, n_c, n_s, n_b, n_m, n_g, n_w, n_n, hM, hN]
  refine ⟨fun q => ?_, fun q => ?_⟩
  · rw [o_close, if_neg q] at hP
    repeat' (first | ((with_reducible refine pp_go (pc := 21) (seg := sg_X9_close_21) hh_X9_close sk_X9_close_21 ?_); simp (disch := omega) only [sg_X9_close_21, sw_c, sw_n, sx, sf_4, sv_i, sv_j, sv_r, sv_q1, sv_q0, sv_1i, sv_1r, sv_2, sl_i, sl_j, sl_a, sl_v, sp_p, sp_f1, sp_f2, sc_w, sc_c, sc_r, sc_f, sc_a, sc_k, pp_in, pp_al, ↓reduceIte, Nat.reduceEqDiff, Nat.reduceLT, Nat.reduceLeDiff, Nat.reduceAdd, Nat.reduceSub, Nat.reduceMul, List.length_cons, List.length_nil, true_and, and_true, and_self, true_implies, eq_self, not_true_eq_false, not_false_eq_true, false_implies, implies_true, false_and, and_false, Bool.false_eq_true, or_true, true_or, or_false, false_or, Classical.not_not, Nat.le_refl, Nat.lt_irrefl, Bool.true_eq_false, n_lit, n_a, n_c, n_s, n_b, n_m, n_g, n_w, n_n, hM]) | ((with_reducible refine pp_go (pc := 22) (seg := sg_X9_close_22) hh_X9_close sk_X9_close_22 ?_); simp (disch := omega) only [sg_X9_close_22, sw_c, sw_n, sx, sf_4, sv_i, sv_j, sv_r, sv_q1, sv_q0, sv_1i, sv_1r, sv_2, sl_i, sl_j, sl_a, sl_v, sp_p, sp_f1, sp_f2, sc_w, sc_c, sc_r, sc_f, sc_a, sc_k, pp_in, pp_al, ↓reduceIte, Nat.reduceEqDiff, Nat.reduceLT, Nat.reduceLeDiff, Nat.reduceAdd, Nat.reduceSub, Nat.reduceMul, List.length_cons, List.length_nil, true_and, and_true, and_self, true_implies, eq_self, not_true_eq_false, not_false_eq_true, false_implies, implies_true, false_and, and_false, Bool.false_eq_true, or_true, true_or, or_false, false_or, Classical.not_not, Nat.le_refl, Nat.lt_irrefl, Bool.true_eq_false, n_lit, n_a, n_c, n_s, n_b, n_m, n_g, n_w, n_n, hM]) | (refine ⟨fun _ => ?_, fun _ => ?_⟩ <;> try (exfalso; omega)) | fail)
    refine m_thr0 hM rfl ?_
    simp (disch := omega) only [sw_c, sw_n, sx, sf_4, sv_i, sv_j, sv_r, sv_q1, sv_q0, sv_1i, sv_1r, sv_2, sl_i, sl_j, sl_a, sl_v, sp_p, sp_f1, sp_f2, sc_w, sc_c, sc_r, sc_f, sc_a, sc_k, pp_in, pp_al, ↓reduceIte, Nat.reduceEqDiff, Nat.reduceLT, Nat.reduceLeDiff, Nat.reduceAdd, Nat.reduceSub, Nat.reduceMul, List.length_cons, List.length_nil, true_and, and_true, and_self, true_implies, eq_self, not_true_eq_false, not_false_eq_true, false_implies, implies_true, false_and, and_false, Bool.false_eq_true, or_true, true_or, or_false, false_or, Classical.not_not, Nat.le_refl, Nat.lt_irrefl, Bool.true_eq_false, n_lit, n_a, n_c, n_s, n_b, n_m, n_g, n_w, n_n]
    repeat' (first | ((with_reducible refine pp_go (pc := 31) (seg := sg_X9_close_31) hh_X9_close sk_X9_close_31 ?_); simp (disch := omega) only [sg_X9_close_31, sw_c, sw_n, sx, sf_4, sv_i, sv_j, sv_r, sv_q1, sv_q0, sv_1i, sv_1r, sv_2, sl_i, sl_j, sl_a, sl_v, sp_p, sp_f1, sp_f2, sc_w, sc_c, sc_r, sc_f, sc_a, sc_k, pp_in, pp_al, ↓reduceIte, Nat.reduceEqDiff, Nat.reduceLT, Nat.reduceLeDiff, Nat.reduceAdd, Nat.reduceSub, Nat.reduceMul, List.length_cons, List.length_nil, true_and, and_true, and_self, true_implies, eq_self, not_true_eq_false, not_false_eq_true, false_implies, implies_true, false_and, and_false, Bool.false_eq_true, or_true, true_or, or_false, false_or, Classical.not_not, Nat.le_refl, Nat.lt_irrefl, Bool.true_eq_false, n_lit, n_a, n_c, n_s, n_b, n_m, n_g, n_w, n_n, hM]) | (refine ⟨fun _ => ?_, fun _ => ?_⟩ <;> try (exfalso; omega)) | fail)
    refine m_keepsR hM hN hA.2.2.2.2.2.1 (fun I1 J1 kI hf hU => ?_)
    have hN1 : rN (J1 122) (aG A) := by rw [hf 122 (by omega)]; exact hN
    have hT1 : mT I1 (aT A) := mT_fr hT (fun a _ _ => (kI.1 a (by omega)).trans (pp_s_ne _ _ (by omega)))
    simp (disch := omega) only [sw_c, sw_n, sx, sf_4, sv_i, sv_j, sv_r, sv_q1, sv_q0, sv_1i, sv_1r, sv_2, sl_i, sl_j, sl_a, sl_v, sp_p, sp_f1, sp_f2, sc_w, sc_c, sc_r, sc_f, sc_a, sc_k, pp_in, pp_al, ↓reduceIte, Nat.reduceEqDiff, Nat.reduceLT, Nat.reduceLeDiff, Nat.reduceAdd, Nat.reduceSub, Nat.reduceMul, List.length_cons, List.length_nil, true_and, and_true, and_self, true_implies, eq_self, not_true_eq_false, not_false_eq_true, false_implies, implies_true, false_and, and_false, Bool.false_eq_true, or_true, true_or, or_false, false_or, Classical.not_not, Nat.le_refl, Nat.lt_irrefl, Bool.true_eq_false, n_lit, n_a, n_c, n_s, n_b, n_m, n_g, n_w, n_n, hM, hN1, hT1]
    refine m_shares hM hN1 hT1 wG wT (fun I2 J2 h2 j2 hS => ?_)
    have hN2 : rN (J2 122) (aG A) := by rw [j2 122 (by omega) (by omega)]; exact hN1
    simp (disch := omega) only [sw_c, sw_n, sx, sf_4, sv_i, sv_j, sv_r, sv_q1, sv_q0, sv_1i, sv_1r, sv_2, sl_i, sl_j, sl_a, sl_v, sp_p, sp_f1, sp_f2, sc_w, sc_c, sc_r, sc_f, sc_a, sc_k, pp_in, pp_al, ↓reduceIte, Nat.reduceEqDiff, Nat.reduceLT, Nat.reduceLeDiff, Nat.reduceAdd, Nat.reduceSub, Nat.reduceMul, List.length_cons, List.length_nil, true_and, and_true, and_self, true_implies, eq_self, not_true_eq_false, not_false_eq_true, false_implies, implies_true, false_and, and_false, Bool.false_eq_true, or_true, true_or, or_false, false_or, Classical.not_not, Nat.le_refl, Nat.lt_irrefl, Bool.true_eq_false, n_lit, n_a, n_c, n_s, n_b, n_m, n_g, n_w, n_n, hM, hN2, if_neg]
    refine m_cl_1 (J := J2) (S := (clD (aT A) (aG A)).1) hM hS (fun J3 f3 r3 => ?_) 8 0 _ rfl (fun a ha => by rw [pp_s_ne _ _ ha]) (fun i => by rw [if_neg (by omega), if_neg (by omega), pp_s_eq])
    refine pp_go rfl sk_X9_close_190 ?_
    simp (disch := omega) only [sg_X9_close_190, sw_c, sw_n, sx, sf_4, sv_i, sv_j, sv_r, sv_q1, sv_q0, sv_1i, sv_1r, sv_2, sl_i, sl_j, sl_a, sl_v, sp_p, sp_f1, sp_f2, sc_w, sc_c, sc_r, sc_f, sc_a, sc_k, pp_in, pp_al, ↓reduceIte, Nat.reduceEqDiff, Nat.reduceLT, Nat.reduceLeDiff, Nat.reduceAdd, Nat.reduceSub, Nat.reduceMul, List.length_cons, List.length_nil, true_and, and_true, and_self, true_implies, eq_self, not_true_eq_false, not_false_eq_true, false_implies, implies_true, false_and, and_false, Bool.false_eq_true, or_true, true_or, or_false, false_or, Classical.not_not, Nat.le_refl, Nat.lt_irrefl, Bool.true_eq_false, n_lit, n_a, n_c, n_s, n_b, n_m, n_g, n_w, n_n]
    refine m_cl_2 (J := J3) (base := J3 122) hM (fun J4 f4 r4 => ?_) 30 183 J3 rfl (by omega) (fun _ _ => rfl) (fun i => by rw [if_neg (by omega)])
    have z := RM_chg2 (I2 := I2) (J2 := J4) (G' := clG (aT A) (aG A)) hA kI hf hU h2 (fun a a1 a2 a3 => by rw [f4 a a1, f3 a a1, j2 a a2 a3]) ?_
    · exact hP I2 J4 z.1 z.2.1 z.2.2
    · refine ⟨fun i hi => ?_, fun i hi => ?_⟩
      · rw [r4, r3]
        show _ = Int64.ofNat (if 183 ≤ i ∧ i < 213 then 0 else if i = 1 then (aG A).1 1 + 1 else (aG A).1 i)
        by_cases c1 : 183 ≤ i ∧ i < 213
        · rw [if_pos c1, if_pos c1]
        · rw [if_neg c1, if_neg c1, if_neg (by omega), if_neg (by omega)]
          simp only [va_up]
          by_cases c2 : i = 1
          · rw [if_pos c2, if_pos c2]
          · rw [if_neg c2, if_neg c2, if_neg (by omega), if_neg (by omega), if_neg (by omega)]
            exact hN2.1 i hi
      · rw [r4, r3]
        show _ = if i = 2 then Int64.ofNat 0 else if i = 3 then (aG A).2 3 + clC (aT A) (aG A) else if i = 4 then (aG A).2 4 + (clR (aT A) (aG A) + (clD (aT A) (aG A)).2) else if 213 ≤ i ∧ i < 221 then (aG A).2 i + (clD (aT A) (aG A)).1 (i - 213) else if 221 ≤ i ∧ i < 229 then (clD (aT A) (aG A)).1 (i - 221) else (aG A).2 i
        rw [if_neg (by omega)]
        simp only [va_up]
        by_cases c2 : i = 2
        · subst c2; rfl
        · by_cases c3 : i = 3
          · subst c3; rfl
          · by_cases c4 : i = 4
            · subst c4; rfl
            · simp only [if_neg c2, if_neg c3, if_neg c4, if_neg (show ¬ i = 1 by omega)]
              by_cases c5 : 213 ≤ i ∧ i < 221
              · rw [if_pos c5, if_pos c5, hN2.2 i hi]
              · rw [if_neg c5, if_neg c5]
                by_cases c6 : 221 ≤ i ∧ i < 229
                · rw [if_pos c6, if_pos c6]
                · rw [if_neg c6, if_neg c6]; exact hN2.2 i hi
  · rw [o_close, if_pos q] at hP
    repeat' (first | ((with_reducible refine pp_go (pc := 22) (seg := sg_X9_close_22) hh_X9_close sk_X9_close_22 ?_); simp (disch := omega) only [sg_X9_close_22, sw_c, sw_n, sx, sf_4, sv_i, sv_j, sv_r, sv_q1, sv_q0, sv_1i, sv_1r, sv_2, sl_i, sl_j, sl_a, sl_v, sp_p, sp_f1, sp_f2, sc_w, sc_c, sc_r, sc_f, sc_a, sc_k, pp_in, pp_al, ↓reduceIte, Nat.reduceEqDiff, Nat.reduceLT, Nat.reduceLeDiff, Nat.reduceAdd, Nat.reduceSub, Nat.reduceMul, List.length_cons, List.length_nil, true_and, and_true, and_self, true_implies, eq_self, not_true_eq_false, not_false_eq_true, false_implies, implies_true, false_and, and_false, Bool.false_eq_true, or_true, true_or, or_false, false_or, Classical.not_not, Nat.le_refl, Nat.lt_irrefl, Bool.true_eq_false, n_lit, n_a, n_c, n_s, n_b, n_m, n_g, n_w, n_n, hM]) | (refine ⟨fun _ => ?_, fun _ => ?_⟩ <;> try (exfalso; omega)) | fail)
    refine m_thr1 hM rfl (by omega) ?_
    simp (disch := omega) only [sw_c, sw_n, sx, sf_4, sv_i, sv_j, sv_r, sv_q1, sv_q0, sv_1i, sv_1r, sv_2, sl_i, sl_j, sl_a, sl_v, sp_p, sp_f1, sp_f2, sc_w, sc_c, sc_r, sc_f, sc_a, sc_k, pp_in, pp_al, ↓reduceIte, Nat.reduceEqDiff, Nat.reduceLT, Nat.reduceLeDiff, Nat.reduceAdd, Nat.reduceSub, Nat.reduceMul, List.length_cons, List.length_nil, true_and, and_true, and_self, true_implies, eq_self, not_true_eq_false, not_false_eq_true, false_implies, implies_true, false_and, and_false, Bool.false_eq_true, or_true, true_or, or_false, false_or, Classical.not_not, Nat.le_refl, Nat.lt_irrefl, Bool.true_eq_false, n_lit, n_a, n_c, n_s, n_b, n_m, n_g, n_w, n_n]
    exact hP _ J (RM_tI hA).1 (RM_tI hA).2 rfl
end
