/-! THE MODEL, 7: undo and snapshots -/
set_option maxHeartbeats 1000000
set_option maxRecDepth 100000
abbrev rN (f : Nat → Int64) (G : LG) : Prop := (∀ i, isI i → f i = Int64.ofNat (G.1 i)) ∧ (∀ i, isQ i → f i = G.2 i)
theorem rN_i {f : Nat → Int64} {G : LG} {k x : Nat} (h : rN f G) (hk : isI k) : rN (va_up f k (Int64.ofNat x)) (va_up G.1 k x, G.2) := by
  refine ⟨fun i hi => ?_, fun i hi => ?_⟩
  · by_cases e : i = k
    · simp only [va_up, if_pos e]
    · simp only [va_up, if_neg e]; exact h.1 i hi
  · simp only [va_up]
    rw [if_neg (by omega)]; exact h.2 i hi
theorem rN_q {f : Nat → Int64} {G : LG} {k : Nat} {x : Int64} (h : rN f G) (hk : isQ k) : rN (va_up f k x) (G.1, va_up G.2 k x) := by
  refine ⟨fun i hi => ?_, fun i hi => ?_⟩
  · simp only [va_up]
    rw [if_neg (by omega)]; exact h.1 i hi
  · by_cases e : i = k
    · simp only [va_up, if_pos e]
    · simp only [va_up, if_neg e]; exact h.2 i hi
theorem rN_cg {f f' : Nat → Int64} {G : LG} (h : rN f G) (e : ∀ i, i < 229 → f' i = f i) : rN f' G := ⟨fun i hi => (e i (by omega)).trans (h.1 i hi), fun i hi => (e i (by omega)).trans (h.2 i hi)⟩
abbrev mL (J : Nat → Nat → Int64) (b off : Nat) (G : LG) : Prop := rN (fun i => J b (off + i)) G
abbrev mU (I : Nat → Nat → Int32) (J : Nat → Nat → Int64) (U : Nat × (Nat → LG)) : Prop := I 121 27 = Int32.ofNat U.1 ∧ U.1 ≤ 10 ∧ ∀ i, i < U.1 → mL J 137 (229 * (U.1 - 1 - i)) (U.2 i)
def sv (o : Option LG) : Bool := o.isSome
abbrev mS (I : Nat → Nat → Int32) (J : Nat → Nat → Int64) (S : Nat → Option LG) : Prop := ∀ s, s < 2 → I 139 s = bV (sv (S s)) ∧ ∀ G, S s = some G → mL J 138 (229 * s) G
abbrev RM (A : AS) (I : Nat → Nat → Int32) (J : Nat → Nat → Int64) : Prop := rN (J 122) (aG A) ∧ mT I (aT A) ∧ (∀ i, i < 700 → I 130 i = (aB A i).toInt32) ∧ I 121 10 = Int32.ofNat (aN A) ∧ I 121 17 = aE A ∧ mU I J (aU A) ∧ mS I J (aS A)
abbrev fO (I I' : Nat → Nat → Int32) (J J' : Nat → Nat → Int64) : Prop := ∀ a, a < 121 ∨ 140 ≤ a → I' a = I a ∧ J' a = J a
def psh (G : LG) (U : Nat × (Nat → LG)) : Nat × (Nat → LG) := (if U.1 = 10 then 10 else U.1 + 1, fun i => if i = 0 then G else U.2 (i - 1))
/-- what only weighs or asks leaves all of it -/
theorem RM_sc {A : AS} {I I' : Nat → Nat → Int32} {J J' : Nat → Nat → Int64} {x : Int32} (hA : RM A I J) (hI : ∀ a, a < 121 ∨ (121 < a ∧ a < 131) ∨ 137 ≤ a → I' a = I a) (h1 : I' 121 = va_up (I 121) 0 x) (hJ : fJ J J') : RM A I' J' ∧ fO I I' J J' := by
  obtain ⟨a1, a2, a3, a4, a5, a6, a7⟩ := hA
  refine ⟨⟨?_, mT_fr a2 (fun a _ _ => hI a (by omega)), ?_, ?_, ?_, ?_, ?_⟩, fun a ha => ⟨hI a (by omega), hJ a (by omega) (by omega)⟩⟩
  · rw [hJ 122 (by omega) (by omega)]; exact a1
  · rw [hI 130 (by omega)]; exact a3
  · rw [h1]; exact a4
  · rw [h1]; exact a5
  · exact ⟨by rw [h1]; exact a6.1, a6.2.1, fun i hi => rN_cg (a6.2.2 i hi) (fun j _ => by show J' 137 _ = J 137 _; rw [hJ 137 (by omega) (by omega)])⟩
  · exact fun s hs => ⟨by rw [hI 139 (by omega)]; exact (a7 s hs).1, fun G hG => rN_cg ((a7 s hs).2 G hG) (fun j _ => by show J' 138 _ = J 138 _; rw [hJ 138 (by omega) (by omega)])⟩
theorem RM_tI {A : AS} {I : Nat → Nat → Int32} {J : Nat → Nat → Int64} {x : Nat} (hA : RM A I J) : RM A (tI I x) J ∧ fO I (tI I x) J J := RM_sc hA (fun a ha => pp_s_ne _ _ (by omega)) (pp_s_eq _ _ _) (fun _ _ _ => rfl)
section
variable {g : pp_G} {h : Nat} {sh : List (Nat × Nat)} {I : Nat → Nat → Int32} {J : Nat → Nat → Int64} {R : Nat → Nat → Option Nat} {w : pp_W} {P : pp_R → pp_W → Prop} {G : LG} {T : TM} {n : Nat} {A : AS}
theorem m_copies_l {a b sp dp na nb N : Nat} (ha : sh[a]? = some (13, na)) (hb : sh[b]? = some (13, nb)) (h1 : sp + N ≤ na) (h2 : dp + N ≤ nb) (h3 : na < 10000) (h4 : nb < 10000) (hab : a ≠ b ∨ dp ≤ sp)
    (hP : ∀ J', (∀ c, c ≠ b → J' c = J c) → (∀ i, J' b i = va_cpy (J a) (J b) sp dp N i) → P (.inl none) (sh, I, J', R)) :
    ∀ f k J', f + k = N → (∀ c, c ≠ b → J' c = J c) → (∀ i, J' b i = va_cpy (J a) (J b) sp dp k i) → pp_N g h mi_X9_copies P 3 [(0, .ref a), (1, .int (Int32.ofNat sp)), (2, .ref b), (3, .int (Int32.ofNat dp)), (4, .int (Int32.ofNat N)), (5, .int (Int32.ofNat k))] [] (sh, I, J', R) := by
  intro f
  induction f with
  | zero =>
    intro k J' hk hf hr
    have hk : k = N := by omega
    subst hk
    have hP := hP J' hf hr
    repeat' (first | ((with_reducible refine pp_go (pc := 3) (seg := sg_X9_copies_3) hh_X9_copies sk_X9_copies_3 ?_); simp (disch := omega) only [sg_X9_copies_3, sw_c, sw_n, sx, sf_4, sv_i, sv_j, sv_r, sv_q1, sv_q0, sv_1i, sv_1r, sv_2, sl_i, sl_j, sl_a, sl_v, sp_p, sp_f1, sp_f2, sc_w, sc_c, sc_r, sc_f, sc_a, sc_k, pp_in, pp_al, ↓reduceIte, Nat.reduceEqDiff, Nat.reduceLT, Nat.reduceLeDiff, Nat.reduceAdd, Nat.reduceSub, Nat.reduceMul, List.length_cons, List.length_nil, true_and, and_true, and_self, true_implies, eq_self, not_true_eq_false, not_false_eq_true, false_implies, implies_true, false_and, and_false, Bool.false_eq_true, or_true, true_or, or_false, false_or, Classical.not_not, Nat.le_refl, Nat.lt_irrefl, Bool.true_eq_false, n_lit, n_a, n_c, n_s, n_b, n_m, n_g, n_w, n_n]) | ((with_reducible refine pp_go (pc := 28) (seg := sg_X9_copies_28) hh_X9_copies sk_X9_copies_28 ?_); simp (disch := omega) only [sg_X9_copies_28, sw_c, sw_n, sx, sf_4, sv_i, sv_j, sv_r, sv_q1, sv_q0, sv_1i, sv_1r, sv_2, sl_i, sl_j, sl_a, sl_v, sp_p, sp_f1, sp_f2, sc_w, sc_c, sc_r, sc_f, sc_a, sc_k, pp_in, pp_al, ↓reduceIte, Nat.reduceEqDiff, Nat.reduceLT, Nat.reduceLeDiff, Nat.reduceAdd, Nat.reduceSub, Nat.reduceMul, List.length_cons, List.length_nil, true_and, and_true, and_self, true_implies, eq_self, not_true_eq_false, not_false_eq_true, false_implies, implies_true, false_and, and_false, Bool.false_eq_true, or_true, true_or, or_false, false_or, Classical.not_not, Nat.le_refl, Nat.lt_irrefl, Bool.true_eq_false, n_lit, n_a, n_c, n_s, n_b, n_m, n_g, n_w, n_n]) | (refine ⟨fun _ => ?_, fun _ => ?_⟩ <;> try (exfalso; omega)) | fail)
    exact hP
  | succ f ih =>
    intro k J' hk hf hr
    have q1 : ¬ N ≤ k := by omega
    have rd : J' a (sp + k) = J a (sp + k) := by
      by_cases e : a = b
      · subst e
        rw [hr, va_cpy, if_neg (by omega)]
      · rw [hf a e]
    refine pp_go rfl sk_X9_copies_3 ?_
    simp (disch := omega) only [sg_X9_copies_3, sw_c, sw_n, sx, sf_4, sv_i, sv_j, sv_r, sv_q1, sv_q0, sv_1i, sv_1r, sv_2, sl_i, sl_j, sl_a, sl_v, sp_p, sp_f1, sp_f2, sc_w, sc_c, sc_r, sc_f, sc_a, sc_k, pp_in, pp_al, ↓reduceIte, Nat.reduceEqDiff, Nat.reduceLT, Nat.reduceLeDiff, Nat.reduceAdd, Nat.reduceSub, Nat.reduceMul, List.length_cons, List.length_nil, true_and, and_true, and_self, true_implies, eq_self, not_true_eq_false, not_false_eq_true, false_implies, implies_true, false_and, and_false, Bool.false_eq_true, or_true, true_or, or_false, false_or, Classical.not_not, Nat.le_refl, Nat.lt_irrefl, Bool.true_eq_false, n_lit, n_a, n_c, n_s, n_b, n_m, n_g, n_w, n_n, ha, hb, q1, rd]
    refine ih (k + 1) _ (by omega) (fun c hc => ?_) (fun i => ?_)
    · rw [pp_s_ne _ _ hc]; exact hf c hc
    · simp only [n_m, ↓reduceIte]
      by_cases e : i = dp + k
      · rw [if_pos e, va_cpy, if_pos (by omega), e, show sp + (dp + k - dp) = sp + k by omega]
      · rw [if_neg e, hr, va_cpy, va_cpy]
        by_cases c : dp ≤ i ∧ i < dp + k
        · rw [if_pos c, if_pos (by omega)]
        · rw [if_neg c, if_neg (by omega)]
theorem m_copies {a b sp dp na nb N : Nat} (ha : sh[a]? = some (13, na)) (hb : sh[b]? = some (13, nb)) (h1 : sp + N ≤ na) (h2 : dp + N ≤ nb) (h3 : na < 10000) (h4 : nb < 10000) (hab : a ≠ b ∨ dp ≤ sp)
    (hP : ∀ J', (∀ c, c ≠ b → J' c = J c) → (∀ i, J' b i = va_cpy (J a) (J b) sp dp N i) → P (.inl none) (sh, I, J', R)) : pp_MW g (h + 1) mi_X9_copies [.ref a, .int (Int32.ofNat sp), .ref b, .int (Int32.ofNat dp), .int (Int32.ofNat N)] (sh, I, J, R) P := by
  refine pp_st0 [(0, .ref a), (1, .int (Int32.ofNat sp)), (2, .ref b), (3, .int (Int32.ofNat dp)), (4, .int (Int32.ofNat N))] ok_X9_copies rfl (Nat.le_of_ble_eq_true rfl) rfl ?_
  refine pp_go rfl sk_X9_copies_0 ?_
  simp (disch := omega) only [sg_X9_copies_0, sw_c, sw_n, sx, sf_4, sv_i, sv_j, sv_r, sv_q1, sv_q0, sv_1i, sv_1r, sv_2, sl_i, sl_j, sl_a, sl_v, sp_p, sp_f1, sp_f2, sc_w, sc_c, sc_r, sc_f, sc_a, sc_k, pp_in, pp_al, ↓reduceIte, Nat.reduceEqDiff, Nat.reduceLT, Nat.reduceLeDiff, Nat.reduceAdd, Nat.reduceSub, Nat.reduceMul, List.length_cons, List.length_nil, true_and, and_true, and_self, true_implies, eq_self, not_true_eq_false, not_false_eq_true, false_implies, implies_true, false_and, and_false, Bool.false_eq_true, or_true, true_or, or_false, false_or, Classical.not_not, Nat.le_refl, Nat.lt_irrefl, Bool.true_eq_false, n_lit, n_a, n_c, n_s, n_b, n_m, n_g, n_w, n_n]
  exact m_copies_l (I := I) (J := J) ha hb h1 h2 h3 h4 hab hP N 0 J (by omega) (fun _ _ => rfl) (fun i => by rw [va_cpy, if_neg (by omega)])
theorem m_keeps {U : Nat × (Nat → LG)} (hM : sM sh R) (hN : rN (J 122) G) (hU : mU I J U) (hP : ∀ J', (∀ a, a ≠ 137 → J' a = J a) → mU (pp_s I 121 (va_up (I 121) 27 (Int32.ofNat (psh G U).1))) J' (psh G U) → P (.inl none) (sh, pp_s I 121 (va_up (I 121) 27 (Int32.ofNat (psh G U).1)), J', R)) : pp_MW g (h + 2) mi_X9_keeps [.ref 121] (sh, I, J, R) P := by
  refine pp_st0 [(0, .ref 121)] ok_X9_keeps rfl (Nat.le_of_ble_eq_true rfl) rfl ?_
  obtain ⟨u1, u2, u3⟩ := hU
  refine pp_go rfl sk_X9_keeps_0 ?_
  simp (disch := omega) only [sg_X9_keeps_0, sw_c, sw_n, sx, sf_4, sv_i, sv_j, sv_r, sv_q1, sv_q0, sv_1i, sv_1r, sv_2, sl_i, sl_j, sl_a, sl_v, sp_p, sp_f1, sp_f2, sc_w, sc_c, sc_r, sc_f, sc_a, sc_k, pp_in, pp_al, ↓reduceIte, Nat.reduceEqDiff, Nat.reduceLT, Nat.reduceLeDiff, Nat.reduceAdd, Nat.reduceSub, Nat.reduceMul, List.length_cons, List.length_nil, true_and, and_true, and_self, true_implies, eq_self, not_true_eq_false, not_false_eq_true, false_implies, implies_true, false_and, and_false, Bool.false_eq_true, or_true, true_or, or_false, false_or, Classical.not_not, Nat.le_refl, Nat.lt_irrefl, Bool.true_eq_false, n_lit, n_a, n_c, n_s, n_b, n_m, n_g, n_w, n_n, hM, u1]
  refine ⟨fun q => ?_, fun q => ?_⟩
  · have e : (psh G U).1 = U.1 + 1 := if_neg q
    rw [e] at hP
    refine pp_go rfl sk_X9_keeps_42 ?_
    simp (disch := omega) only [sg_X9_keeps_42, sw_c, sw_n, sx, sf_4, sv_i, sv_j, sv_r, sv_q1, sv_q0, sv_1i, sv_1r, sv_2, sl_i, sl_j, sl_a, sl_v, sp_p, sp_f1, sp_f2, sc_w, sc_c, sc_r, sc_f, sc_a, sc_k, pp_in, pp_al, ↓reduceIte, Nat.reduceEqDiff, Nat.reduceLT, Nat.reduceLeDiff, Nat.reduceAdd, Nat.reduceSub, Nat.reduceMul, List.length_cons, List.length_nil, true_and, and_true, and_self, true_implies, eq_self, not_true_eq_false, not_false_eq_true, false_implies, implies_true, false_and, and_false, Bool.false_eq_true, or_true, true_or, or_false, false_or, Classical.not_not, Nat.le_refl, Nat.lt_irrefl, Bool.true_eq_false, n_lit, n_a, n_c, n_s, n_b, n_m, n_g, n_w, n_n, hM, u1]
    refine m_copies hM.2.1 hM.2.2.2.2.2.2.2.2.2.2.2.2.2.2.2.2.1 (by omega) (by omega) (by omega) (by omega) (by omega) (fun J' hf hr => ?_)
    simp (disch := omega) only [sw_c, sw_n, sx, sf_4, sv_i, sv_j, sv_r, sv_q1, sv_q0, sv_1i, sv_1r, sv_2, sl_i, sl_j, sl_a, sl_v, sp_p, sp_f1, sp_f2, sc_w, sc_c, sc_r, sc_f, sc_a, sc_k, pp_in, pp_al, ↓reduceIte, Nat.reduceEqDiff, Nat.reduceLT, Nat.reduceLeDiff, Nat.reduceAdd, Nat.reduceSub, Nat.reduceMul, List.length_cons, List.length_nil, true_and, and_true, and_self, true_implies, eq_self, not_true_eq_false, not_false_eq_true, false_implies, implies_true, false_and, and_false, Bool.false_eq_true, or_true, true_or, or_false, false_or, Classical.not_not, Nat.le_refl, Nat.lt_irrefl, Bool.true_eq_false, n_lit, n_a, n_c, n_s, n_b, n_m, n_g, n_w, n_n, hM, u1]
    refine hP J' hf ⟨by simp only [n_m, ↓reduceIte, e], by rw [e]; omega, fun i hi => ?_⟩
    rw [e] at hi ⊢
    by_cases i0 : i = 0
    · subst i0
      refine rN_cg hN (fun j hj => ?_)
      show J' 137 (229 * (U.1 + 1 - 1 - 0) + j) = J 122 j
      rw [hr, va_cpy, if_pos (by omega), show 0 + (229 * (U.1 + 1 - 1 - 0) + j - 229 * U.1) = j by omega]
    · have := u3 (i - 1) (by omega)
      have e2 : (psh G U).2 i = U.2 (i - 1) := if_neg i0
      rw [e2]
      refine rN_cg this (fun j hj => ?_)
      show J' 137 (229 * (U.1 + 1 - 1 - i) + j) = J 137 (229 * (U.1 - 1 - (i - 1)) + j)
      rw [hr, va_cpy, if_neg (by omega), show 229 * (U.1 + 1 - 1 - i) = 229 * (U.1 - 1 - (i - 1)) by omega]
  · have e : (psh G U).1 = 10 := if_pos q
    rw [e] at hP
    simp (disch := omega) only [sw_c, sw_n, sx, sf_4, sv_i, sv_j, sv_r, sv_q1, sv_q0, sv_1i, sv_1r, sv_2, sl_i, sl_j, sl_a, sl_v, sp_p, sp_f1, sp_f2, sc_w, sc_c, sc_r, sc_f, sc_a, sc_k, pp_in, pp_al, ↓reduceIte, Nat.reduceEqDiff, Nat.reduceLT, Nat.reduceLeDiff, Nat.reduceAdd, Nat.reduceSub, Nat.reduceMul, List.length_cons, List.length_nil, true_and, and_true, and_self, true_implies, eq_self, not_true_eq_false, not_false_eq_true, false_implies, implies_true, false_and, and_false, Bool.false_eq_true, or_true, true_or, or_false, false_or, Classical.not_not, Nat.le_refl, Nat.lt_irrefl, Bool.true_eq_false, n_lit, n_a, n_c, n_s, n_b, n_m, n_g, n_w, n_n]
    refine m_copies hM.2.2.2.2.2.2.2.2.2.2.2.2.2.2.2.2.1 hM.2.2.2.2.2.2.2.2.2.2.2.2.2.2.2.2.1 (by omega) (by omega) (by omega) (by omega) (by omega) (fun J1 hf1 hr1 => ?_)
    simp (disch := omega) only [sw_c, sw_n, sx, sf_4, sv_i, sv_j, sv_r, sv_q1, sv_q0, sv_1i, sv_1r, sv_2, sl_i, sl_j, sl_a, sl_v, sp_p, sp_f1, sp_f2, sc_w, sc_c, sc_r, sc_f, sc_a, sc_k, pp_in, pp_al, ↓reduceIte, Nat.reduceEqDiff, Nat.reduceLT, Nat.reduceLeDiff, Nat.reduceAdd, Nat.reduceSub, Nat.reduceMul, List.length_cons, List.length_nil, true_and, and_true, and_self, true_implies, eq_self, not_true_eq_false, not_false_eq_true, false_implies, implies_true, false_and, and_false, Bool.false_eq_true, or_true, true_or, or_false, false_or, Classical.not_not, Nat.le_refl, Nat.lt_irrefl, Bool.true_eq_false, n_lit, n_a, n_c, n_s, n_b, n_m, n_g, n_w, n_n]
    refine pp_go rfl sk_X9_keeps_42 ?_
    simp (disch := omega) only [sg_X9_keeps_42, sw_c, sw_n, sx, sf_4, sv_i, sv_j, sv_r, sv_q1, sv_q0, sv_1i, sv_1r, sv_2, sl_i, sl_j, sl_a, sl_v, sp_p, sp_f1, sp_f2, sc_w, sc_c, sc_r, sc_f, sc_a, sc_k, pp_in, pp_al, ↓reduceIte, Nat.reduceEqDiff, Nat.reduceLT, Nat.reduceLeDiff, Nat.reduceAdd, Nat.reduceSub, Nat.reduceMul, List.length_cons, List.length_nil, true_and, and_true, and_self, true_implies, eq_self, not_true_eq_false, not_false_eq_true, false_implies, implies_true, false_and, and_false, Bool.false_eq_true, or_true, true_or, or_false, false_or, Classical.not_not, Nat.le_refl, Nat.lt_irrefl, Bool.true_eq_false, n_lit, n_a, n_c, n_s, n_b, n_m, n_g, n_w, n_n, hM, u1]
    refine m_copies hM.2.1 hM.2.2.2.2.2.2.2.2.2.2.2.2.2.2.2.2.1 (by omega) (by omega) (by omega) (by omega) (by omega) (fun J' hf hr => ?_)
    simp (disch := omega) only [sw_c, sw_n, sx, sf_4, sv_i, sv_j, sv_r, sv_q1, sv_q0, sv_1i, sv_1r, sv_2, sl_i, sl_j, sl_a, sl_v, sp_p, sp_f1, sp_f2, sc_w, sc_c, sc_r, sc_f, sc_a, sc_k, pp_in, pp_al, ↓reduceIte, Nat.reduceEqDiff, Nat.reduceLT, Nat.reduceLeDiff, Nat.reduceAdd, Nat.reduceSub, Nat.reduceMul, List.length_cons, List.length_nil, true_and, and_true, and_self, true_implies, eq_self, not_true_eq_false, not_false_eq_true, false_implies, implies_true, false_and, and_false, Bool.false_eq_true, or_true, true_or, or_false, false_or, Classical.not_not, Nat.le_refl, Nat.lt_irrefl, Bool.true_eq_false, n_lit, n_a, n_c, n_s, n_b, n_m, n_g, n_w, n_n, hM, u1]
    rw [q]
    refine hP J' (fun a ha => (hf a ha).trans (hf1 a ha)) ⟨by simp only [n_m, ↓reduceIte, e], by rw [e]; omega, fun i hi => ?_⟩
    rw [e] at hi ⊢
    by_cases i0 : i = 0
    · subst i0
      refine rN_cg hN (fun j hj => ?_)
      show J' 137 (229 * (10 - 1 - 0) + j) = J 122 j
      rw [hr, va_cpy, if_pos (by omega), show 0 + (229 * (10 - 1 - 0) + j - 229 * (U.1 - 1)) = j by omega, hf1 122 (by omega)]
    · have := u3 (i - 1) (by omega)
      have e2 : (psh G U).2 i = U.2 (i - 1) := if_neg i0
      rw [e2]
      refine rN_cg this (fun j hj => ?_)
      show J' 137 (229 * (10 - 1 - i) + j) = J 137 (229 * (U.1 - 1 - (i - 1)) + j)
      rw [hr, va_cpy, if_neg (by omega), hr1, va_cpy, if_pos (by omega), show 229 + (229 * (10 - 1 - i) + j - 0) = 229 * (U.1 - 1 - (i - 1)) + j by omega]
def pul (U : Nat × (Nat → LG)) : Nat × (Nat → LG) := (U.1 - 1, fun i => U.2 (i + 1))
def o_undo (A : AS) : Int32 × AS := if (aU A).1 = 0 then (-1, A) else (Int32.ofNat ((aU A).1 - 1), (aB A, aN A, aE A, aT A, (aU A).2 0, pul (aU A), aS A))
theorem m_undo (hM : sM sh R) (hA : RM A I J) (hP : ∀ I' J', RM (o_undo A).2 I' J' → fO I I' J J' → P (.inl (some (.int (o_undo A).1))) (sh, I', J', R)) : pp_MW g (h + 2) mi_X9_undo [.ref 121] (sh, I, J, R) P := by
  refine pp_st0 [(0, .ref 121)] ok_X9_undo rfl (Nat.le_of_ble_eq_true rfl) rfl ?_
  obtain ⟨a1, a2, a3, a4, a5, ⟨u1, u2, u3⟩, a7⟩ := hA
  refine pp_go rfl sk_X9_undo_0 ?_
  simp (disch := omega) only [sg_X9_undo_0, sw_c, sw_n, sx, sf_4, sv_i, sv_j, sv_r, sv_q1, sv_q0, sv_1i, sv_1r, sv_2, sl_i, sl_j, sl_a, sl_v, sp_p, sp_f1, sp_f2, sc_w, sc_c, sc_r, sc_f, sc_a, sc_k, pp_in, pp_al, ↓reduceIte, Nat.reduceEqDiff, Nat.reduceLT, Nat.reduceLeDiff, Nat.reduceAdd, Nat.reduceSub, Nat.reduceMul, List.length_cons, List.length_nil, true_and, and_true, and_self, true_implies, eq_self, not_true_eq_false, not_false_eq_true, false_implies, implies_true, false_and, and_false, Bool.false_eq_true, or_true, true_or, or_false, false_or, Classical.not_not, Nat.le_refl, Nat.lt_irrefl, Bool.true_eq_false, n_lit, n_a, n_c, n_s, n_b, n_m, n_g, n_w, n_n, rk_X9_undo, hM, u1]
  refine ⟨fun q => ?_, fun q => ?_⟩
  · rw [o_undo, if_neg q] at hP
    refine pp_go rfl sk_X9_undo_14 ?_
    simp (disch := omega) only [sg_X9_undo_14, sw_c, sw_n, sx, sf_4, sv_i, sv_j, sv_r, sv_q1, sv_q0, sv_1i, sv_1r, sv_2, sl_i, sl_j, sl_a, sl_v, sp_p, sp_f1, sp_f2, sc_w, sc_c, sc_r, sc_f, sc_a, sc_k, pp_in, pp_al, ↓reduceIte, Nat.reduceEqDiff, Nat.reduceLT, Nat.reduceLeDiff, Nat.reduceAdd, Nat.reduceSub, Nat.reduceMul, List.length_cons, List.length_nil, true_and, and_true, and_self, true_implies, eq_self, not_true_eq_false, not_false_eq_true, false_implies, implies_true, false_and, and_false, Bool.false_eq_true, or_true, true_or, or_false, false_or, Classical.not_not, Nat.le_refl, Nat.lt_irrefl, Bool.true_eq_false, n_lit, n_a, n_c, n_s, n_b, n_m, n_g, n_w, n_n, rk_X9_undo, hM, u1]
    refine m_copies hM.2.2.2.2.2.2.2.2.2.2.2.2.2.2.2.2.1 hM.2.1 (by omega) (by omega) (by omega) (by omega) (by omega) (fun J' hf hr => ?_)
    simp (disch := omega) only [sw_c, sw_n, sx, sf_4, sv_i, sv_j, sv_r, sv_q1, sv_q0, sv_1i, sv_1r, sv_2, sl_i, sl_j, sl_a, sl_v, sp_p, sp_f1, sp_f2, sc_w, sc_c, sc_r, sc_f, sc_a, sc_k, pp_in, pp_al, ↓reduceIte, Nat.reduceEqDiff, Nat.reduceLT, Nat.reduceLeDiff, Nat.reduceAdd, Nat.reduceSub, Nat.reduceMul, List.length_cons, List.length_nil, true_and, and_true, and_self, true_implies, eq_self, not_true_eq_false, not_false_eq_true, false_implies, implies_true, false_and, and_false, Bool.false_eq_true, or_true, true_or, or_false, false_or, Classical.not_not, Nat.le_refl, Nat.lt_irrefl, Bool.true_eq_false, n_lit, n_a, n_c, n_s, n_b, n_m, n_g, n_w, n_n, rk_X9_undo, hM, u1]
    refine hP _ J' ⟨?_, a2, a3, a4, a5, ⟨by simp only [n_m, ↓reduceIte, pul], ?_, fun i hi => ?_⟩, fun s hs => ⟨(a7 s hs).1, fun G hG => rN_cg ((a7 s hs).2 G hG) (fun j _ => by show J' 138 _ = J 138 _; rw [hf 138 (by omega)])⟩⟩ (fun a ha => ⟨pp_s_ne _ _ (by omega), hf a (by omega)⟩)
    · refine rN_cg (u3 0 (by omega)) (fun j hj => ?_)
      show J' 122 j = J 137 (229 * ((aU A).1 - 1 - 0) + j)
      rw [hr, va_cpy, if_pos (by omega), show 229 * ((aU A).1 - 1) + (j - 0) = 229 * ((aU A).1 - 1 - 0) + j by omega]
    · show (aU A).1 - 1 ≤ 10
      omega
    · have hi : i < (aU A).1 - 1 := hi
      refine rN_cg (u3 (i + 1) (by omega)) (fun j hj => ?_)
      show J' 137 (229 * ((aU A).1 - 1 - 1 - i) + j) = J 137 (229 * ((aU A).1 - 1 - (i + 1)) + j)
      rw [hf 137 (by omega), show (aU A).1 - 1 - 1 - i = (aU A).1 - 1 - (i + 1) by omega]
  · rw [o_undo, if_pos q] at hP
    have hA : RM A I J := ⟨a1, a2, a3, a4, a5, ⟨u1, u2, u3⟩, a7⟩
    exact hP _ J (RM_tI hA).1 (RM_tI hA).2
theorem m_noSlot0 {k : Nat} (hM : sM sh R) (hk : k < 2) (hP : P (.inl (some (.int (Int32.ofNat 0)))) (sh, tI I 0, J, R)) : pp_MW g (h + 3) mi_X9_noSlot [.ref 121, .int (Int32.ofNat k)] (sh, I, J, R) P := by
  refine pp_st0 [(0, .ref 121), (1, .int (Int32.ofNat k))] ok_X9_noSlot rfl (Nat.le_of_ble_eq_true rfl) rfl ?_
  refine pp_go rfl sk_X9_noSlot_0 ?_
  simp (disch := omega) only [sg_X9_noSlot_0, sw_c, sw_n, sx, sf_4, sv_i, sv_j, sv_r, sv_q1, sv_q0, sv_1i, sv_1r, sv_2, sl_i, sl_j, sl_a, sl_v, sp_p, sp_f1, sp_f2, sc_w, sc_c, sc_r, sc_f, sc_a, sc_k, pp_in, pp_al, ↓reduceIte, Nat.reduceEqDiff, Nat.reduceLT, Nat.reduceLeDiff, Nat.reduceAdd, Nat.reduceSub, Nat.reduceMul, List.length_cons, List.length_nil, true_and, and_true, and_self, true_implies, eq_self, not_true_eq_false, not_false_eq_true, false_implies, implies_true, false_and, and_false, Bool.false_eq_true, or_true, true_or, or_false, false_or, Classical.not_not, Nat.le_refl, Nat.lt_irrefl, Bool.true_eq_false, n_lit, n_a, n_c, n_s, n_b, n_m, n_g, n_w, n_n, rk_X9_noSlot, hM]
  refine m_no0 hM rfl (n_wi hk (by omega)) ?_
  simp (disch := omega) only [sw_c, sw_n, sx, sf_4, sv_i, sv_j, sv_r, sv_q1, sv_q0, sv_1i, sv_1r, sv_2, sl_i, sl_j, sl_a, sl_v, sp_p, sp_f1, sp_f2, sc_w, sc_c, sc_r, sc_f, sc_a, sc_k, pp_in, pp_al, ↓reduceIte, Nat.reduceEqDiff, Nat.reduceLT, Nat.reduceLeDiff, Nat.reduceAdd, Nat.reduceSub, Nat.reduceMul, List.length_cons, List.length_nil, true_and, and_true, and_self, true_implies, eq_self, not_true_eq_false, not_false_eq_true, false_implies, implies_true, false_and, and_false, Bool.false_eq_true, or_true, true_or, or_false, false_or, Classical.not_not, Nat.le_refl, Nat.lt_irrefl, Bool.true_eq_false, n_lit, n_a, n_c, n_s, n_b, n_m, n_g, n_w, n_n, rk_X9_noSlot]
  exact hP
theorem m_noSlot1 {p : Int32} (hM : sM sh R) (hp : p.toInt < 0 ∨ ((2 : Nat) : Int) ≤ p.toInt) (hP : P (.inl (some (.int (Int32.ofNat 1)))) (sh, tI I 1, J, R)) : pp_MW g (h + 3) mi_X9_noSlot [.ref 121, .int p] (sh, I, J, R) P := by
  refine pp_st0 [(0, .ref 121), (1, .int p)] ok_X9_noSlot rfl (Nat.le_of_ble_eq_true rfl) rfl ?_
  refine pp_go rfl sk_X9_noSlot_0 ?_
  simp (disch := omega) only [sg_X9_noSlot_0, sw_c, sw_n, sx, sf_4, sv_i, sv_j, sv_r, sv_q1, sv_q0, sv_1i, sv_1r, sv_2, sl_i, sl_j, sl_a, sl_v, sp_p, sp_f1, sp_f2, sc_w, sc_c, sc_r, sc_f, sc_a, sc_k, pp_in, pp_al, ↓reduceIte, Nat.reduceEqDiff, Nat.reduceLT, Nat.reduceLeDiff, Nat.reduceAdd, Nat.reduceSub, Nat.reduceMul, List.length_cons, List.length_nil, true_and, and_true, and_self, true_implies, eq_self, not_true_eq_false, not_false_eq_true, false_implies, implies_true, false_and, and_false, Bool.false_eq_true, or_true, true_or, or_false, false_or, Classical.not_not, Nat.le_refl, Nat.lt_irrefl, Bool.true_eq_false, n_lit, n_a, n_c, n_s, n_b, n_m, n_g, n_w, n_n, rk_X9_noSlot, hM]
  refine m_no1 hM rfl (n_wo hp (by omega)) ?_
  simp (disch := omega) only [sw_c, sw_n, sx, sf_4, sv_i, sv_j, sv_r, sv_q1, sv_q0, sv_1i, sv_1r, sv_2, sl_i, sl_j, sl_a, sl_v, sp_p, sp_f1, sp_f2, sc_w, sc_c, sc_r, sc_f, sc_a, sc_k, pp_in, pp_al, ↓reduceIte, Nat.reduceEqDiff, Nat.reduceLT, Nat.reduceLeDiff, Nat.reduceAdd, Nat.reduceSub, Nat.reduceMul, List.length_cons, List.length_nil, true_and, and_true, and_self, true_implies, eq_self, not_true_eq_false, not_false_eq_true, false_implies, implies_true, false_and, and_false, Bool.false_eq_true, or_true, true_or, or_false, false_or, Classical.not_not, Nat.le_refl, Nat.lt_irrefl, Bool.true_eq_false, n_lit, n_a, n_c, n_s, n_b, n_m, n_g, n_w, n_n, rk_X9_noSlot]
  exact hP
def o_save (A : AS) (p : Int32) : Nat × Int32 × AS := match idx p 2 with
  | none => (1, 0, A)
  | some s => (0, bV (sv (aS A s)), (aB A, aN A, aE A, aT A, aG A, aU A, va_up (aS A) s (some (aG A))))
theorem m_saveSnapshot {p : Int32} (hM : sM sh R) (hA : RM A I J) (hP : ∀ I' J', RM (o_save A p).2.2 I' J' → fO I I' J J' → I' 121 0 = Int32.ofNat (o_save A p).1 → P (.inl (some (.int (o_save A p).2.1))) (sh, I', J', R)) : pp_MW g (h + 4) mi_X9_saveSnapshot [.ref 121, .int p] (sh, I, J, R) P := by
  refine pp_st0 [(0, .ref 121), (1, .int p)] ok_X9_saveSnapshot rfl (Nat.le_of_ble_eq_true rfl) rfl ?_
  have hA0 := hA
  obtain ⟨a1, a2, a3, a4, a5, ⟨u1, u2, u3⟩, a7⟩ := hA
  refine pp_go rfl sk_X9_saveSnapshot_0 ?_
  simp (disch := omega) only [sg_X9_saveSnapshot_0, sw_c, sw_n, sx, sf_4, sv_i, sv_j, sv_r, sv_q1, sv_q0, sv_1i, sv_1r, sv_2, sl_i, sl_j, sl_a, sl_v, sp_p, sp_f1, sp_f2, sc_w, sc_c, sc_r, sc_f, sc_a, sc_k, pp_in, pp_al, ↓reduceIte, Nat.reduceEqDiff, Nat.reduceLT, Nat.reduceLeDiff, Nat.reduceAdd, Nat.reduceSub, Nat.reduceMul, List.length_cons, List.length_nil, true_and, and_true, and_self, true_implies, eq_self, not_true_eq_false, not_false_eq_true, false_implies, implies_true, false_and, and_false, Bool.false_eq_true, or_true, true_or, or_false, false_or, Classical.not_not, Nat.le_refl, Nat.lt_irrefl, Bool.true_eq_false, n_lit, n_a, n_c, n_s, n_b, n_m, n_g, n_w, n_n, rk_X9_saveSnapshot, hM]
  rcases idx_cases p 2 (by omega) with ⟨k, hk, rfl, e1⟩ | ⟨ho, e1⟩
  · simp only [o_save, e1] at hP
    have ak := (a7 k hk).1
    refine m_noSlot0 hM hk ?_
    simp (disch := omega) only [sw_c, sw_n, sx, sf_4, sv_i, sv_j, sv_r, sv_q1, sv_q0, sv_1i, sv_1r, sv_2, sl_i, sl_j, sl_a, sl_v, sp_p, sp_f1, sp_f2, sc_w, sc_c, sc_r, sc_f, sc_a, sc_k, pp_in, pp_al, ↓reduceIte, Nat.reduceEqDiff, Nat.reduceLT, Nat.reduceLeDiff, Nat.reduceAdd, Nat.reduceSub, Nat.reduceMul, List.length_cons, List.length_nil, true_and, and_true, and_self, true_implies, eq_self, not_true_eq_false, not_false_eq_true, false_implies, implies_true, false_and, and_false, Bool.false_eq_true, or_true, true_or, or_false, false_or, Classical.not_not, Nat.le_refl, Nat.lt_irrefl, Bool.true_eq_false, n_lit, n_a, n_c, n_s, n_b, n_m, n_g, n_w, n_n, rk_X9_saveSnapshot]
    repeat' (first | ((with_reducible refine pp_go (pc := 10) (seg := sg_X9_saveSnapshot_10) hh_X9_saveSnapshot sk_X9_saveSnapshot_10 ?_); simp (disch := omega) only [sg_X9_saveSnapshot_10, sw_c, sw_n, sx, sf_4, sv_i, sv_j, sv_r, sv_q1, sv_q0, sv_1i, sv_1r, sv_2, sl_i, sl_j, sl_a, sl_v, sp_p, sp_f1, sp_f2, sc_w, sc_c, sc_r, sc_f, sc_a, sc_k, pp_in, pp_al, ↓reduceIte, Nat.reduceEqDiff, Nat.reduceLT, Nat.reduceLeDiff, Nat.reduceAdd, Nat.reduceSub, Nat.reduceMul, List.length_cons, List.length_nil, true_and, and_true, and_self, true_implies, eq_self, not_true_eq_false, not_false_eq_true, false_implies, implies_true, false_and, and_false, Bool.false_eq_true, or_true, true_or, or_false, false_or, Classical.not_not, Nat.le_refl, Nat.lt_irrefl, Bool.true_eq_false, n_lit, n_a, n_c, n_s, n_b, n_m, n_g, n_w, n_n, rk_X9_saveSnapshot, hM, ak]) | (refine ⟨fun _ => ?_, fun _ => ?_⟩ <;> try (exfalso; omega)) | fail)
    refine m_copies hM.2.1 hM.2.2.2.2.2.2.2.2.2.2.2.2.2.2.2.2.2.1 (by omega) (by omega) (by omega) (by omega) (by omega) (fun J' hf hr => ?_)
    simp (disch := omega) only [sw_c, sw_n, sx, sf_4, sv_i, sv_j, sv_r, sv_q1, sv_q0, sv_1i, sv_1r, sv_2, sl_i, sl_j, sl_a, sl_v, sp_p, sp_f1, sp_f2, sc_w, sc_c, sc_r, sc_f, sc_a, sc_k, pp_in, pp_al, ↓reduceIte, Nat.reduceEqDiff, Nat.reduceLT, Nat.reduceLeDiff, Nat.reduceAdd, Nat.reduceSub, Nat.reduceMul, List.length_cons, List.length_nil, true_and, and_true, and_self, true_implies, eq_self, not_true_eq_false, not_false_eq_true, false_implies, implies_true, false_and, and_false, Bool.false_eq_true, or_true, true_or, or_false, false_or, Classical.not_not, Nat.le_refl, Nat.lt_irrefl, Bool.true_eq_false, n_lit, n_a, n_c, n_s, n_b, n_m, n_g, n_w, n_n, rk_X9_saveSnapshot, hM, bV_ok]
    refine hP _ J' ⟨?_, a2, a3, a4, a5, ⟨u1, u2, fun i hi => ?_⟩, fun s hs => ⟨?_, fun G' hG => ?_⟩⟩ (fun a ha => ⟨?_, hf a (by omega)⟩) rfl
    · show rN (J' 122) _
      rw [hf 122 (by omega)]; exact a1
    · refine rN_cg (u3 i hi) (fun j hj => ?_)
      show J' 137 _ = J 137 _
      rw [hf 137 (by omega)]
    · show _ = bV (sv (va_up (aS A) k (some (aG A)) s))
      simp only [n_m, ↓reduceIte, Nat.reduceEqDiff]
      by_cases e : s = k
      · rw [if_pos e, if_pos e]; rfl
      · rw [if_neg e, if_neg e]; exact (a7 s hs).1
    · have hG : va_up (aS A) k (some (aG A)) s = some G' := hG
      simp only [n_m] at hG
      by_cases e : s = k
      · rw [if_pos e] at hG
        cases hG
        subst e
        refine rN_cg a1 (fun j hj => ?_)
        show J' 138 (229 * s + j) = J 122 j
        rw [hr, va_cpy, if_pos (by omega), show 0 + (229 * s + j - 229 * s) = j by omega]
      · rw [if_neg e] at hG
        refine rN_cg ((a7 s hs).2 _ hG) (fun j hj => ?_)
        show J' 138 (229 * s + j) = J 138 (229 * s + j)
        rw [hr, va_cpy, if_neg (by omega)]
    · rw [pp_s_ne _ _ (by omega)]
      exact pp_s_ne _ _ (by omega)
  · simp only [o_save, e1] at hP
    refine m_noSlot1 hM ho ?_
    simp (disch := omega) only [sw_c, sw_n, sx, sf_4, sv_i, sv_j, sv_r, sv_q1, sv_q0, sv_1i, sv_1r, sv_2, sl_i, sl_j, sl_a, sl_v, sp_p, sp_f1, sp_f2, sc_w, sc_c, sc_r, sc_f, sc_a, sc_k, pp_in, pp_al, ↓reduceIte, Nat.reduceEqDiff, Nat.reduceLT, Nat.reduceLeDiff, Nat.reduceAdd, Nat.reduceSub, Nat.reduceMul, List.length_cons, List.length_nil, true_and, and_true, and_self, true_implies, eq_self, not_true_eq_false, not_false_eq_true, false_implies, implies_true, false_and, and_false, Bool.false_eq_true, or_true, true_or, or_false, false_or, Classical.not_not, Nat.le_refl, Nat.lt_irrefl, Bool.true_eq_false, n_lit, n_a, n_c, n_s, n_b, n_m, n_g, n_w, n_n, rk_X9_saveSnapshot]
    exact hP _ J (RM_tI hA0).1 (RM_tI hA0).2 rfl
def o_restore (A : AS) (p : Int32) : Nat × Int32 × AS := match idx p 2 with
  | none => (1, 0, A)
  | some s => match aS A s with
    | none => (2, 0, A)
    | some G => (0, Int32.ofNat (G.1 0), (aB A, aN A, aE A, aT A, G, (0, (aU A).2), aS A))
theorem m_restoreSnapshot {p : Int32} (hM : sM sh R) (hA : RM A I J) (hP : ∀ I' J', RM (o_restore A p).2.2 I' J' → fO I I' J J' → I' 121 0 = Int32.ofNat (o_restore A p).1 → P (.inl (some (.int (o_restore A p).2.1))) (sh, I', J', R)) : pp_MW g (h + 4) mi_X9_restoreSnapshot [.ref 121, .int p] (sh, I, J, R) P := by
  refine pp_st0 [(0, .ref 121), (1, .int p)] ok_X9_restoreSnapshot rfl (Nat.le_of_ble_eq_true rfl) rfl ?_
  have hA0 := hA
  obtain ⟨a1, a2, a3, a4, a5, ⟨u1, u2, u3⟩, a7⟩ := hA
  refine pp_go rfl sk_X9_restoreSnapshot_0 ?_
  simp (disch := omega) only [sg_X9_restoreSnapshot_0, sw_c, sw_n, sx, sf_4, sv_i, sv_j, sv_r, sv_q1, sv_q0, sv_1i, sv_1r, sv_2, sl_i, sl_j, sl_a, sl_v, sp_p, sp_f1, sp_f2, sc_w, sc_c, sc_r, sc_f, sc_a, sc_k, pp_in, pp_al, ↓reduceIte, Nat.reduceEqDiff, Nat.reduceLT, Nat.reduceLeDiff, Nat.reduceAdd, Nat.reduceSub, Nat.reduceMul, List.length_cons, List.length_nil, true_and, and_true, and_self, true_implies, eq_self, not_true_eq_false, not_false_eq_true, false_implies, implies_true, false_and, and_false, Bool.false_eq_true, or_true, true_or, or_false, false_or, Classical.not_not, Nat.le_refl, Nat.lt_irrefl, Bool.true_eq_false, n_lit, n_a, n_c, n_s, n_b, n_m, n_g, n_w, n_n, rk_X9_restoreSnapshot, hM]
  rcases idx_cases p 2 (by omega) with ⟨k, hk, rfl, e1⟩ | ⟨ho, e1⟩
  · simp only [o_restore, e1] at hP
    have ak := (a7 k hk).1
    refine m_noSlot0 hM hk ?_
    simp (disch := omega) only [sw_c, sw_n, sx, sf_4, sv_i, sv_j, sv_r, sv_q1, sv_q0, sv_1i, sv_1r, sv_2, sl_i, sl_j, sl_a, sl_v, sp_p, sp_f1, sp_f2, sc_w, sc_c, sc_r, sc_f, sc_a, sc_k, pp_in, pp_al, ↓reduceIte, Nat.reduceEqDiff, Nat.reduceLT, Nat.reduceLeDiff, Nat.reduceAdd, Nat.reduceSub, Nat.reduceMul, List.length_cons, List.length_nil, true_and, and_true, and_self, true_implies, eq_self, not_true_eq_false, not_false_eq_true, false_implies, implies_true, false_and, and_false, Bool.false_eq_true, or_true, true_or, or_false, false_or, Classical.not_not, Nat.le_refl, Nat.lt_irrefl, Bool.true_eq_false, n_lit, n_a, n_c, n_s, n_b, n_m, n_g, n_w, n_n, rk_X9_restoreSnapshot, hM, ak, bV_0]
    cases hs : aS A k with
    | none =>
      rw [hs] at ak
      simp only [hs] at hP
      simp (disch := omega) only [sw_c, sw_n, sx, sf_4, sv_i, sv_j, sv_r, sv_q1, sv_q0, sv_1i, sv_1r, sv_2, sl_i, sl_j, sl_a, sl_v, sp_p, sp_f1, sp_f2, sc_w, sc_c, sc_r, sc_f, sc_a, sc_k, pp_in, pp_al, ↓reduceIte, Nat.reduceEqDiff, Nat.reduceLT, Nat.reduceLeDiff, Nat.reduceAdd, Nat.reduceSub, Nat.reduceMul, List.length_cons, List.length_nil, true_and, and_true, and_self, true_implies, eq_self, not_true_eq_false, not_false_eq_true, false_implies, implies_true, false_and, and_false, Bool.false_eq_true, or_true, true_or, or_false, false_or, Classical.not_not, Nat.le_refl, Nat.lt_irrefl, Bool.true_eq_false, n_lit, n_a, n_c, n_s, n_b, n_m, n_g, n_w, n_n, rk_X9_restoreSnapshot, sv, Option.isSome_none]
      repeat' (first | ((with_reducible refine pp_go (pc := 22) (seg := sg_X9_restoreSnapshot_22) hh_X9_restoreSnapshot sk_X9_restoreSnapshot_22 ?_); simp (disch := omega) only [sg_X9_restoreSnapshot_22, sw_c, sw_n, sx, sf_4, sv_i, sv_j, sv_r, sv_q1, sv_q0, sv_1i, sv_1r, sv_2, sl_i, sl_j, sl_a, sl_v, sp_p, sp_f1, sp_f2, sc_w, sc_c, sc_r, sc_f, sc_a, sc_k, pp_in, pp_al, ↓reduceIte, Nat.reduceEqDiff, Nat.reduceLT, Nat.reduceLeDiff, Nat.reduceAdd, Nat.reduceSub, Nat.reduceMul, List.length_cons, List.length_nil, true_and, and_true, and_self, true_implies, eq_self, not_true_eq_false, not_false_eq_true, false_implies, implies_true, false_and, and_false, Bool.false_eq_true, or_true, true_or, or_false, false_or, Classical.not_not, Nat.le_refl, Nat.lt_irrefl, Bool.true_eq_false, n_lit, n_a, n_c, n_s, n_b, n_m, n_g, n_w, n_n, rk_X9_restoreSnapshot, hM]) | ((with_reducible refine pp_go (pc := 23) (seg := sg_X9_restoreSnapshot_23) hh_X9_restoreSnapshot sk_X9_restoreSnapshot_23 ?_); simp (disch := omega) only [sg_X9_restoreSnapshot_23, sw_c, sw_n, sx, sf_4, sv_i, sv_j, sv_r, sv_q1, sv_q0, sv_1i, sv_1r, sv_2, sl_i, sl_j, sl_a, sl_v, sp_p, sp_f1, sp_f2, sc_w, sc_c, sc_r, sc_f, sc_a, sc_k, pp_in, pp_al, ↓reduceIte, Nat.reduceEqDiff, Nat.reduceLT, Nat.reduceLeDiff, Nat.reduceAdd, Nat.reduceSub, Nat.reduceMul, List.length_cons, List.length_nil, true_and, and_true, and_self, true_implies, eq_self, not_true_eq_false, not_false_eq_true, false_implies, implies_true, false_and, and_false, Bool.false_eq_true, or_true, true_or, or_false, false_or, Classical.not_not, Nat.le_refl, Nat.lt_irrefl, Bool.true_eq_false, n_lit, n_a, n_c, n_s, n_b, n_m, n_g, n_w, n_n, rk_X9_restoreSnapshot, hM]) | (refine ⟨fun _ => ?_, fun _ => ?_⟩ <;> try (exfalso; omega)) | fail)
      refine m_thr1 hM rfl (by omega) ?_
      simp (disch := omega) only [sw_c, sw_n, sx, sf_4, sv_i, sv_j, sv_r, sv_q1, sv_q0, sv_1i, sv_1r, sv_2, sl_i, sl_j, sl_a, sl_v, sp_p, sp_f1, sp_f2, sc_w, sc_c, sc_r, sc_f, sc_a, sc_k, pp_in, pp_al, ↓reduceIte, Nat.reduceEqDiff, Nat.reduceLT, Nat.reduceLeDiff, Nat.reduceAdd, Nat.reduceSub, Nat.reduceMul, List.length_cons, List.length_nil, true_and, and_true, and_self, true_implies, eq_self, not_true_eq_false, not_false_eq_true, false_implies, implies_true, false_and, and_false, Bool.false_eq_true, or_true, true_or, or_false, false_or, Classical.not_not, Nat.le_refl, Nat.lt_irrefl, Bool.true_eq_false, n_lit, n_a, n_c, n_s, n_b, n_m, n_g, n_w, n_n, rk_X9_restoreSnapshot]
      repeat' (first | ((with_reducible refine pp_go (pc := 30) (seg := sg_X9_restoreSnapshot_30) hh_X9_restoreSnapshot sk_X9_restoreSnapshot_30 ?_); simp (disch := omega) only [sg_X9_restoreSnapshot_30, sw_c, sw_n, sx, sf_4, sv_i, sv_j, sv_r, sv_q1, sv_q0, sv_1i, sv_1r, sv_2, sl_i, sl_j, sl_a, sl_v, sp_p, sp_f1, sp_f2, sc_w, sc_c, sc_r, sc_f, sc_a, sc_k, pp_in, pp_al, ↓reduceIte, Nat.reduceEqDiff, Nat.reduceLT, Nat.reduceLeDiff, Nat.reduceAdd, Nat.reduceSub, Nat.reduceMul, List.length_cons, List.length_nil, true_and, and_true, and_self, true_implies, eq_self, not_true_eq_false, not_false_eq_true, false_implies, implies_true, false_and, and_false, Bool.false_eq_true, or_true, true_or, or_false, false_or, Classical.not_not, Nat.le_refl, Nat.lt_irrefl, Bool.true_eq_false, n_lit, n_a, n_c, n_s, n_b, n_m, n_g, n_w, n_n, rk_X9_restoreSnapshot]) | (refine ⟨fun _ => ?_, fun _ => ?_⟩ <;> try (exfalso; omega)) | fail)
      exact hP _ J (RM_tI hA0).1 (RM_tI hA0).2 rfl
    | some G =>
      simp only [hs] at hP
      have hG := (a7 k hk).2 G hs
      simp (disch := omega) only [sw_c, sw_n, sx, sf_4, sv_i, sv_j, sv_r, sv_q1, sv_q0, sv_1i, sv_1r, sv_2, sl_i, sl_j, sl_a, sl_v, sp_p, sp_f1, sp_f2, sc_w, sc_c, sc_r, sc_f, sc_a, sc_k, pp_in, pp_al, ↓reduceIte, Nat.reduceEqDiff, Nat.reduceLT, Nat.reduceLeDiff, Nat.reduceAdd, Nat.reduceSub, Nat.reduceMul, List.length_cons, List.length_nil, true_and, and_true, and_self, true_implies, eq_self, not_true_eq_false, not_false_eq_true, false_implies, implies_true, false_and, and_false, Bool.false_eq_true, or_true, true_or, or_false, false_or, Classical.not_not, Nat.le_refl, Nat.lt_irrefl, Bool.true_eq_false, n_lit, n_a, n_c, n_s, n_b, n_m, n_g, n_w, n_n, rk_X9_restoreSnapshot, sv, Option.isSome_some]
      repeat' (first | ((with_reducible refine pp_go (pc := 22) (seg := sg_X9_restoreSnapshot_22) hh_X9_restoreSnapshot sk_X9_restoreSnapshot_22 ?_); simp (disch := omega) only [sg_X9_restoreSnapshot_22, sw_c, sw_n, sx, sf_4, sv_i, sv_j, sv_r, sv_q1, sv_q0, sv_1i, sv_1r, sv_2, sl_i, sl_j, sl_a, sl_v, sp_p, sp_f1, sp_f2, sc_w, sc_c, sc_r, sc_f, sc_a, sc_k, pp_in, pp_al, ↓reduceIte, Nat.reduceEqDiff, Nat.reduceLT, Nat.reduceLeDiff, Nat.reduceAdd, Nat.reduceSub, Nat.reduceMul, List.length_cons, List.length_nil, true_and, and_true, and_self, true_implies, eq_self, not_true_eq_false, not_false_eq_true, false_implies, implies_true, false_and, and_false, Bool.false_eq_true, or_true, true_or, or_false, false_or, Classical.not_not, Nat.le_refl, Nat.lt_irrefl, Bool.true_eq_false, n_lit, n_a, n_c, n_s, n_b, n_m, n_g, n_w, n_n, rk_X9_restoreSnapshot, hM]) | ((with_reducible refine pp_go (pc := 23) (seg := sg_X9_restoreSnapshot_23) hh_X9_restoreSnapshot sk_X9_restoreSnapshot_23 ?_); simp (disch := omega) only [sg_X9_restoreSnapshot_23, sw_c, sw_n, sx, sf_4, sv_i, sv_j, sv_r, sv_q1, sv_q0, sv_1i, sv_1r, sv_2, sl_i, sl_j, sl_a, sl_v, sp_p, sp_f1, sp_f2, sc_w, sc_c, sc_r, sc_f, sc_a, sc_k, pp_in, pp_al, ↓reduceIte, Nat.reduceEqDiff, Nat.reduceLT, Nat.reduceLeDiff, Nat.reduceAdd, Nat.reduceSub, Nat.reduceMul, List.length_cons, List.length_nil, true_and, and_true, and_self, true_implies, eq_self, not_true_eq_false, not_false_eq_true, false_implies, implies_true, false_and, and_false, Bool.false_eq_true, or_true, true_or, or_false, false_or, Classical.not_not, Nat.le_refl, Nat.lt_irrefl, Bool.true_eq_false, n_lit, n_a, n_c, n_s, n_b, n_m, n_g, n_w, n_n, rk_X9_restoreSnapshot, hM]) | (refine ⟨fun _ => ?_, fun _ => ?_⟩ <;> try (exfalso; omega)) | fail)
      refine m_thr0 hM rfl ?_
      simp (disch := omega) only [sw_c, sw_n, sx, sf_4, sv_i, sv_j, sv_r, sv_q1, sv_q0, sv_1i, sv_1r, sv_2, sl_i, sl_j, sl_a, sl_v, sp_p, sp_f1, sp_f2, sc_w, sc_c, sc_r, sc_f, sc_a, sc_k, pp_in, pp_al, ↓reduceIte, Nat.reduceEqDiff, Nat.reduceLT, Nat.reduceLeDiff, Nat.reduceAdd, Nat.reduceSub, Nat.reduceMul, List.length_cons, List.length_nil, true_and, and_true, and_self, true_implies, eq_self, not_true_eq_false, not_false_eq_true, false_implies, implies_true, false_and, and_false, Bool.false_eq_true, or_true, true_or, or_false, false_or, Classical.not_not, Nat.le_refl, Nat.lt_irrefl, Bool.true_eq_false, n_lit, n_a, n_c, n_s, n_b, n_m, n_g, n_w, n_n, rk_X9_restoreSnapshot]
      repeat' (first | ((with_reducible refine pp_go (pc := 32) (seg := sg_X9_restoreSnapshot_32) hh_X9_restoreSnapshot sk_X9_restoreSnapshot_32 ?_); simp (disch := omega) only [sg_X9_restoreSnapshot_32, sw_c, sw_n, sx, sf_4, sv_i, sv_j, sv_r, sv_q1, sv_q0, sv_1i, sv_1r, sv_2, sl_i, sl_j, sl_a, sl_v, sp_p, sp_f1, sp_f2, sc_w, sc_c, sc_r, sc_f, sc_a, sc_k, pp_in, pp_al, ↓reduceIte, Nat.reduceEqDiff, Nat.reduceLT, Nat.reduceLeDiff, Nat.reduceAdd, Nat.reduceSub, Nat.reduceMul, List.length_cons, List.length_nil, true_and, and_true, and_self, true_implies, eq_self, not_true_eq_false, not_false_eq_true, false_implies, implies_true, false_and, and_false, Bool.false_eq_true, or_true, true_or, or_false, false_or, Classical.not_not, Nat.le_refl, Nat.lt_irrefl, Bool.true_eq_false, n_lit, n_a, n_c, n_s, n_b, n_m, n_g, n_w, n_n, rk_X9_restoreSnapshot, hM]) | (refine ⟨fun _ => ?_, fun _ => ?_⟩ <;> try (exfalso; omega)) | fail)
      refine m_copies hM.2.2.2.2.2.2.2.2.2.2.2.2.2.2.2.2.2.1 hM.2.1 (by omega) (by omega) (by omega) (by omega) (by omega) (fun J' hf hr => ?_)
      have r1 : rN (J' 122) G := by
        refine rN_cg hG (fun j hj => ?_)
        show J' 122 j = J 138 (229 * k + j)
        rw [hr, va_cpy, if_pos (by omega), show 229 * k + (j - 0) = 229 * k + j by omega]
      simp (disch := omega) only [sw_c, sw_n, sx, sf_4, sv_i, sv_j, sv_r, sv_q1, sv_q0, sv_1i, sv_1r, sv_2, sl_i, sl_j, sl_a, sl_v, sp_p, sp_f1, sp_f2, sc_w, sc_c, sc_r, sc_f, sc_a, sc_k, pp_in, pp_al, ↓reduceIte, Nat.reduceEqDiff, Nat.reduceLT, Nat.reduceLeDiff, Nat.reduceAdd, Nat.reduceSub, Nat.reduceMul, List.length_cons, List.length_nil, true_and, and_true, and_self, true_implies, eq_self, not_true_eq_false, not_false_eq_true, false_implies, implies_true, false_and, and_false, Bool.false_eq_true, or_true, true_or, or_false, false_or, Classical.not_not, Nat.le_refl, Nat.lt_irrefl, Bool.true_eq_false, n_lit, n_a, n_c, n_s, n_b, n_m, n_g, n_w, n_n, rk_X9_restoreSnapshot, hM, r1]
      refine hP _ J' ⟨r1, a2, a3, a4, a5, ⟨rfl, by show 0 ≤ 10; omega, fun i hi => absurd hi (by show ¬ i < 0; omega)⟩, fun s hs => ⟨(a7 s hs).1, fun G' hG' => rN_cg ((a7 s hs).2 G' hG') (fun j _ => by show J' 138 _ = J 138 _; rw [hf 138 (by omega)])⟩⟩ (fun a ha => ⟨pp_s_ne _ _ (by omega), hf a (by omega)⟩) rfl
  · simp only [o_restore, e1] at hP
    refine m_noSlot1 hM ho ?_
    simp (disch := omega) only [sw_c, sw_n, sx, sf_4, sv_i, sv_j, sv_r, sv_q1, sv_q0, sv_1i, sv_1r, sv_2, sl_i, sl_j, sl_a, sl_v, sp_p, sp_f1, sp_f2, sc_w, sc_c, sc_r, sc_f, sc_a, sc_k, pp_in, pp_al, ↓reduceIte, Nat.reduceEqDiff, Nat.reduceLT, Nat.reduceLeDiff, Nat.reduceAdd, Nat.reduceSub, Nat.reduceMul, List.length_cons, List.length_nil, true_and, and_true, and_self, true_implies, eq_self, not_true_eq_false, not_false_eq_true, false_implies, implies_true, false_and, and_false, Bool.false_eq_true, or_true, true_or, or_false, false_or, Classical.not_not, Nat.le_refl, Nat.lt_irrefl, Bool.true_eq_false, n_lit, n_a, n_c, n_s, n_b, n_m, n_g, n_w, n_n, rk_X9_restoreSnapshot]
    repeat' (first | ((with_reducible refine pp_go (pc := 30) (seg := sg_X9_restoreSnapshot_30) hh_X9_restoreSnapshot sk_X9_restoreSnapshot_30 ?_); simp (disch := omega) only [sg_X9_restoreSnapshot_30, sw_c, sw_n, sx, sf_4, sv_i, sv_j, sv_r, sv_q1, sv_q0, sv_1i, sv_1r, sv_2, sl_i, sl_j, sl_a, sl_v, sp_p, sp_f1, sp_f2, sc_w, sc_c, sc_r, sc_f, sc_a, sc_k, pp_in, pp_al, ↓reduceIte, Nat.reduceEqDiff, Nat.reduceLT, Nat.reduceLeDiff, Nat.reduceAdd, Nat.reduceSub, Nat.reduceMul, List.length_cons, List.length_nil, true_and, and_true, and_self, true_implies, eq_self, not_true_eq_false, not_false_eq_true, false_implies, implies_true, false_and, and_false, Bool.false_eq_true, or_true, true_or, or_false, false_or, Classical.not_not, Nat.le_refl, Nat.lt_irrefl, Bool.true_eq_false, n_lit, n_a, n_c, n_s, n_b, n_m, n_g, n_w, n_n, rk_X9_restoreSnapshot]) | (refine ⟨fun _ => ?_, fun _ => ?_⟩ <;> try (exfalso; omega)) | fail)
    exact hP _ J (RM_tI hA0).1 (RM_tI hA0).2 rfl
end
