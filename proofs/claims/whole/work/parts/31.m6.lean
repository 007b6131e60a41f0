/-! THE MODEL, 6: shares -/
set_option maxHeartbeats 1000000
set_option maxRecDepth 100000
def cnt (O : Nat → Bool) : Nat := sm (fun m => if O m then 1 else 0) 8
theorem sm_mono {f f' : Nat → Nat} (h : ∀ i, f i ≤ f' i) : ∀ n, sm f n ≤ sm f' n := by
  intro n
  induction n with
  | zero => exact Nat.le_refl _
  | succ n ih => have := h n; rw [sm, sm]; omega
theorem sm_lt {f f' : Nat → Nat} (h : ∀ i, f i ≤ f' i) : ∀ n i, i < n → f i < f' i → sm f n < sm f' n := by
  intro n
  induction n with
  | zero => intro i hi; omega
  | succ n ih =>
    intro i hi hl
    have h1 := h n
    have h2 := sm_mono h n
    rw [sm, sm]
    by_cases e : i = n
    · subst e; omega
    · have := ih i (by omega) hl; omega
section
variable {W : Nat → Nat} {lim : Int64} {O : Nat → Bool} {r : Int64}
theorem anyh_some : ∀ n, anyh W lim O r n = true → ∃ m, m < n ∧ hitP W lim O r m := by
  intro n
  induction n with
  | zero => intro e; cases e
  | succ n ih =>
    intro e
    rw [anyh] at e
    split at e
    · exact ⟨n, by omega, by assumption⟩
    · obtain ⟨m, h1, h2⟩ := ih e
      exact ⟨m, by omega, h2⟩
theorem cnt_less (h : anyh W lim O r 8 = true) : cnt (fun m => if hitP W lim O r m then false else O m) < cnt O := by
  obtain ⟨m, hm, hh⟩ := anyh_some 8 h
  refine sm_lt (fun i => ?_) 8 m hm ?_
  · by_cases c : hitP W lim O r i
    · simp [c]
    · simp [c]
  · simp [hh]
end
section
variable {g : pp_G} {h : Nat} {sh : List (Nat × Nat)} {I : Nat → Nat → Int32} {J : Nat → Nat → Int64} {R : Nat → Nat → Option Nat} {w : pp_W} {P : pp_R → pp_W → Prop} {G : LG} {T : TM} {n : Nat} {W : Nat → Nat} {O : Nat → Bool} {r lim amount : Int64} {S : Nat → Int64}
theorem m_sh_c (hM : sM sh R) (hW : ∀ m, m < 8 → I 133 m = Int32.ofNat (W m)) (bW : ∀ m, W m ≤ 1000000) (pW : ∀ m, m < 8 → O m = true → 0 < W m)
    (K : ∀ I' J', (∀ a, a ≠ 136 → I' a = I a) → (∀ a, a ≠ 134 → a ≠ 135 → J' a = J a) → (∀ i, i < 8 → J' 134 i = if hitP W lim O r i then lim else S i) → (∀ i, i < 8 → I' 136 i = bV (if hitP W lim O r i then false else O i)) → (∀ i, i < 8 → O i = true → J' 135 i = quo W (opn W O) r i) →
      pp_N g (h + 3) mi_X9_shares P 187 [(0, .ref 121), (1, .long amount), (3, .long lim), (5, .long r), (7, .int (bV (anyh W lim O r 8))), (8, .long (Int64.ofNat (opn W O))), (10, .long (lft W lim O r 8))] [] (sh, I', J', R)) :
    ∀ f m I' J', f + m = 8 → (∀ a, a ≠ 136 → I' a = I a) → (∀ a, a ≠ 134 → a ≠ 135 → J' a = J a) → (∀ i, i < 8 → J' 134 i = if i < m ∧ hitP W lim O r i then lim else S i) → (∀ i, i < 8 → I' 136 i = bV (if i < m ∧ hitP W lim O r i then false else O i)) → (∀ i, i < m → O i = true → J' 135 i = quo W (opn W O) r i) →
      pp_N g (h + 3) mi_X9_shares P 92 [(0, .ref 121), (1, .long amount), (3, .long lim), (5, .long r), (7, .int (bV (anyh W lim O r m))), (8, .long (Int64.ofNat (opn W O))), (10, .long (lft W lim O r m)), (12, .int (Int32.ofNat m))] [] (sh, I', J', R) := by
  intro f
  induction f with
  | zero =>
    intro m I' J' hm hI hJ hS hO hQ
    have hm : m = 8 := by omega
    subst hm
    refine pp_go rfl sk_X9_shares_92 ?_
    simp (disch := omega) only [sg_X9_shares_92, sw_c, sw_n, sx, sf_4, sv_i, sv_j, sv_r, sv_q1, sv_q0, sv_1i, sv_1r, sv_2, sl_i, sl_j, sl_a, sl_v, sp_p, sp_f1, sp_f2, sc_w, sc_c, sc_r, sc_f, sc_a, sc_k, pp_in, pp_al, ↓reduceIte, Nat.reduceEqDiff, Nat.reduceLT, Nat.reduceLeDiff, Nat.reduceAdd, Nat.reduceSub, Nat.reduceMul, List.length_cons, List.length_nil, true_and, and_true, and_self, true_implies, eq_self, not_true_eq_false, not_false_eq_true, false_implies, implies_true, false_and, and_false, Bool.false_eq_true, or_true, true_or, or_false, false_or, Classical.not_not, Nat.le_refl, Nat.lt_irrefl, Bool.true_eq_false, n_lit, n_a, n_c, n_s, n_b, n_m, n_g, n_w, n_n]
    refine pp_N.sub (K I' J' hI hJ (fun i hi => ?_) (fun i hi => ?_) hQ) (by simp)
    · rw [hS i hi]
      by_cases c : hitP W lim O r i
      · rw [if_pos c, if_pos ⟨hi, c⟩]
      · rw [if_neg c, if_neg (fun z => c z.2)]
    · rw [hO i hi]
      by_cases c : hitP W lim O r i
      · rw [if_pos c, if_pos ⟨hi, c⟩]
      · rw [if_neg c, if_neg (fun z => c z.2)]
  | succ f ih =>
    intro m I' J' hm hI hJ hS hO hQ
    have ih := fun I2 J2 => ih (m + 1) I2 J2 (by omega)
    simp only [lft, anyh] at ih
    have q1 : ¬ 8 ≤ m := by omega
    have hm8 : m < 8 := by omega
    have hOm : I' 136 m = bV (O m) := by rw [hO m hm8, if_neg (by omega)]
    have hWm : I' 133 m = Int32.ofNat (W m) := by rw [hI 133 (by omega)]; exact hW m hm8
    have bm := bW m
    have bo := opn_le bW O
    have st : ∀ i, i < 8 → i ≠ m → ((i < m + 1 ∧ hitP W lim O r i) ↔ (i < m ∧ hitP W lim O r i)) := fun i _ e => ⟨fun z => ⟨by omega, z.2⟩, fun z => ⟨by omega, z.2⟩⟩
    cases hb : O m with
    | false =>
      have nh : ¬ hitP W lim O r m := fun z => by rw [z.1] at hb; cases hb
      simp only [if_neg nh] at ih
      refine pp_go rfl sk_X9_shares_92 ?_
      simp (disch := omega) only [sg_X9_shares_92, sw_c, sw_n, sx, sf_4, sv_i, sv_j, sv_r, sv_q1, sv_q0, sv_1i, sv_1r, sv_2, sl_i, sl_j, sl_a, sl_v, sp_p, sp_f1, sp_f2, sc_w, sc_c, sc_r, sc_f, sc_a, sc_k, pp_in, pp_al, ↓reduceIte, Nat.reduceEqDiff, Nat.reduceLT, Nat.reduceLeDiff, Nat.reduceAdd, Nat.reduceSub, Nat.reduceMul, List.length_cons, List.length_nil, true_and, and_true, and_self, true_implies, eq_self, not_true_eq_false, not_false_eq_true, false_implies, implies_true, false_and, and_false, Bool.false_eq_true, or_true, true_or, or_false, false_or, Classical.not_not, Nat.le_refl, Nat.lt_irrefl, Bool.true_eq_false, n_lit, n_a, n_c, n_s, n_b, n_m, n_g, n_w, n_n, hM, q1, hOm, bV_0, hb]
      repeat' (first | ((with_reducible refine pp_go (pc := 132) (seg := sg_X9_shares_132) hh_X9_shares sk_X9_shares_132 ?_); simp (disch := omega) only [sg_X9_shares_132, sw_c, sw_n, sx, sf_4, sv_i, sv_j, sv_r, sv_q1, sv_q0, sv_1i, sv_1r, sv_2, sl_i, sl_j, sl_a, sl_v, sp_p, sp_f1, sp_f2, sc_w, sc_c, sc_r, sc_f, sc_a, sc_k, pp_in, pp_al, ↓reduceIte, Nat.reduceEqDiff, Nat.reduceLT, Nat.reduceLeDiff, Nat.reduceAdd, Nat.reduceSub, Nat.reduceMul, List.length_cons, List.length_nil, true_and, and_true, and_self, true_implies, eq_self, not_true_eq_false, not_false_eq_true, false_implies, implies_true, false_and, and_false, Bool.false_eq_true, or_true, true_or, or_false, false_or, Classical.not_not, Nat.le_refl, Nat.lt_irrefl, Bool.true_eq_false, n_lit, n_a, n_c, n_s, n_b, n_m, n_g, n_w, n_n, hM, hOm, bV_0, hb]) | ((with_reducible refine pp_go (pc := 133) (seg := sg_X9_shares_133) hh_X9_shares sk_X9_shares_133 ?_); simp (disch := omega) only [sg_X9_shares_133, sw_c, sw_n, sx, sf_4, sv_i, sv_j, sv_r, sv_q1, sv_q0, sv_1i, sv_1r, sv_2, sl_i, sl_j, sl_a, sl_v, sp_p, sp_f1, sp_f2, sc_w, sc_c, sc_r, sc_f, sc_a, sc_k, pp_in, pp_al, ↓reduceIte, Nat.reduceEqDiff, Nat.reduceLT, Nat.reduceLeDiff, Nat.reduceAdd, Nat.reduceSub, Nat.reduceMul, List.length_cons, List.length_nil, true_and, and_true, and_self, true_implies, eq_self, not_true_eq_false, not_false_eq_true, false_implies, implies_true, false_and, and_false, Bool.false_eq_true, or_true, true_or, or_false, false_or, Classical.not_not, Nat.le_refl, Nat.lt_irrefl, Bool.true_eq_false, n_lit, n_a, n_c, n_s, n_b, n_m, n_g, n_w, n_n, hM, hOm, bV_0, hb]) | (refine ⟨fun _ => ?_, fun _ => ?_⟩ <;> try (exfalso; omega)) | fail)
      repeat' (first | ((with_reducible refine pp_go (pc := 181) (seg := sg_X9_shares_181) hh_X9_shares sk_X9_shares_181 ?_); simp (disch := omega) only [sg_X9_shares_181, sw_c, sw_n, sx, sf_4, sv_i, sv_j, sv_r, sv_q1, sv_q0, sv_1i, sv_1r, sv_2, sl_i, sl_j, sl_a, sl_v, sp_p, sp_f1, sp_f2, sc_w, sc_c, sc_r, sc_f, sc_a, sc_k, pp_in, pp_al, ↓reduceIte, Nat.reduceEqDiff, Nat.reduceLT, Nat.reduceLeDiff, Nat.reduceAdd, Nat.reduceSub, Nat.reduceMul, List.length_cons, List.length_nil, true_and, and_true, and_self, true_implies, eq_self, not_true_eq_false, not_false_eq_true, false_implies, implies_true, false_and, and_false, Bool.false_eq_true, or_true, true_or, or_false, false_or, Classical.not_not, Nat.le_refl, Nat.lt_irrefl, Bool.true_eq_false, n_lit, n_a, n_c, n_s, n_b, n_m, n_g, n_w, n_n]) | (refine ⟨fun _ => ?_, fun _ => ?_⟩ <;> try (exfalso; omega)) | fail)
      refine ih _ _ hI (fun a a1 a2 => ?_) (fun i hi => ?_) (fun i hi => ?_) (fun i hi ho => ?_)
      · rw [pp_s_ne _ _ a2]; exact hJ a a1 a2
      · rw [pp_s_ne _ _ (by omega), hS i hi]
        by_cases e : i = m
        · subst e; rw [if_neg (fun z => nh z.2), if_neg (fun z => nh z.2)]
        · simp only [st i hi e]
      · rw [hO i hi]
        by_cases e : i = m
        · subst e; rw [if_neg (fun z => nh z.2), if_neg (fun z => nh z.2)]
        · simp only [st i hi e]
      · by_cases e : i = m
        · subst e; rw [ho] at hb; cases hb
        · simp only [n_m, if_true, if_neg e]
          exact hQ i (by omega) ho
    | true =>
      have z0 := opn_pos hm8 hb (pW m hm8 hb)
      have z0' : ¬ opn W O = 0 := by omega
      have eq : quo W (opn W O) r m = r * Int64.ofNat (W m) / Int64.ofNat (opn W O) := rfl
      by_cases hh : hitP W lim O r m
      · simp only [if_pos hh] at ih
        have c : ¬ r * Int64.ofNat (W m) / Int64.ofNat (opn W O) ≤ lim := Int64.not_le.mpr hh.2
        refine pp_go rfl sk_X9_shares_92 ?_
        simp (disch := omega) only [sg_X9_shares_92, sw_c, sw_n, sx, sf_4, sv_i, sv_j, sv_r, sv_q1, sv_q0, sv_1i, sv_1r, sv_2, sl_i, sl_j, sl_a, sl_v, sp_p, sp_f1, sp_f2, sc_w, sc_c, sc_r, sc_f, sc_a, sc_k, pp_in, pp_al, ↓reduceIte, Nat.reduceEqDiff, Nat.reduceLT, Nat.reduceLeDiff, Nat.reduceAdd, Nat.reduceSub, Nat.reduceMul, List.length_cons, List.length_nil, true_and, and_true, and_self, true_implies, eq_self, not_true_eq_false, not_false_eq_true, false_implies, implies_true, false_and, and_false, Bool.false_eq_true, or_true, true_or, or_false, false_or, Classical.not_not, Nat.le_refl, Nat.lt_irrefl, Bool.true_eq_false, n_lit, n_a, n_c, n_s, n_b, n_m, n_g, n_w, n_n, hM, q1, hOm, bV_0, hb, hWm, z0']
        repeat' (first | ((with_reducible refine pp_go (pc := 133) (seg := sg_X9_shares_133) hh_X9_shares sk_X9_shares_133 ?_); simp (disch := omega) only [sg_X9_shares_133, sw_c, sw_n, sx, sf_4, sv_i, sv_j, sv_r, sv_q1, sv_q0, sv_1i, sv_1r, sv_2, sl_i, sl_j, sl_a, sl_v, sp_p, sp_f1, sp_f2, sc_w, sc_c, sc_r, sc_f, sc_a, sc_k, pp_in, pp_al, ↓reduceIte, Nat.reduceEqDiff, Nat.reduceLT, Nat.reduceLeDiff, Nat.reduceAdd, Nat.reduceSub, Nat.reduceMul, List.length_cons, List.length_nil, true_and, and_true, and_self, true_implies, eq_self, not_true_eq_false, not_false_eq_true, false_implies, implies_true, false_and, and_false, Bool.false_eq_true, or_true, true_or, or_false, false_or, Classical.not_not, Nat.le_refl, Nat.lt_irrefl, Bool.true_eq_false, n_lit, n_a, n_c, n_s, n_b, n_m, n_g, n_w, n_n, hM, hOm, bV_0, hb, c]) | (refine ⟨fun _ => ?_, fun _ => ?_⟩ <;> try (exfalso; omega)) | fail)
        repeat' (first | ((with_reducible refine pp_go (pc := 181) (seg := sg_X9_shares_181) hh_X9_shares sk_X9_shares_181 ?_); simp (disch := omega) only [sg_X9_shares_181, sw_c, sw_n, sx, sf_4, sv_i, sv_j, sv_r, sv_q1, sv_q0, sv_1i, sv_1r, sv_2, sl_i, sl_j, sl_a, sl_v, sp_p, sp_f1, sp_f2, sc_w, sc_c, sc_r, sc_f, sc_a, sc_k, pp_in, pp_al, ↓reduceIte, Nat.reduceEqDiff, Nat.reduceLT, Nat.reduceLeDiff, Nat.reduceAdd, Nat.reduceSub, Nat.reduceMul, List.length_cons, List.length_nil, true_and, and_true, and_self, true_implies, eq_self, not_true_eq_false, not_false_eq_true, false_implies, implies_true, false_and, and_false, Bool.false_eq_true, or_true, true_or, or_false, false_or, Classical.not_not, Nat.le_refl, Nat.lt_irrefl, Bool.true_eq_false, n_lit, n_a, n_c, n_s, n_b, n_m, n_g, n_w, n_n]) | (refine ⟨fun _ => ?_, fun _ => ?_⟩ <;> try (exfalso; omega)) | fail)
        refine ih _ _ (fun a ha => ?_) (fun a a1 a2 => ?_) (fun i hi => ?_) (fun i hi => ?_) (fun i hi ho => ?_)
        · rw [pp_s_ne _ _ ha]; exact hI a ha
        · rw [pp_s_ne _ _ a1, pp_s_ne _ _ a2]; exact hJ a a1 a2
        · simp only [n_m, ↓reduceIte, Nat.reduceEqDiff]
          by_cases e : i = m
          · subst e; rw [if_pos rfl, if_pos ⟨by omega, hh⟩]
          · rw [if_neg e, hS i hi]; simp only [st i hi e]
        · simp only [n_m, ↓reduceIte, Nat.reduceEqDiff]
          by_cases e : i = m
          · subst e; rw [if_pos rfl, if_pos ⟨by omega, hh⟩]; rfl
          · rw [if_neg e, hO i hi]; simp only [st i hi e]
        · simp only [n_m, ↓reduceIte, Nat.reduceEqDiff]
          by_cases e : i = m
          · rw [if_pos e, e]; rfl
          · rw [if_neg e]; exact hQ i (by omega) ho
      · simp only [if_neg hh] at ih
        have c : r * Int64.ofNat (W m) / Int64.ofNat (opn W O) ≤ lim := Int64.not_lt.mp (fun z => hh ⟨hb, z⟩)
        refine pp_go rfl sk_X9_shares_92 ?_
        simp (disch := omega) only [sg_X9_shares_92, sw_c, sw_n, sx, sf_4, sv_i, sv_j, sv_r, sv_q1, sv_q0, sv_1i, sv_1r, sv_2, sl_i, sl_j, sl_a, sl_v, sp_p, sp_f1, sp_f2, sc_w, sc_c, sc_r, sc_f, sc_a, sc_k, pp_in, pp_al, ↓reduceIte, Nat.reduceEqDiff, Nat.reduceLT, Nat.reduceLeDiff, Nat.reduceAdd, Nat.reduceSub, Nat.reduceMul, List.length_cons, List.length_nil, true_and, and_true, and_self, true_implies, eq_self, not_true_eq_false, not_false_eq_true, false_implies, implies_true, false_and, and_false, Bool.false_eq_true, or_true, true_or, or_false, false_or, Classical.not_not, Nat.le_refl, Nat.lt_irrefl, Bool.true_eq_false, n_lit, n_a, n_c, n_s, n_b, n_m, n_g, n_w, n_n, hM, q1, hOm, bV_0, hb, hWm, z0']
        repeat' (first | ((with_reducible refine pp_go (pc := 133) (seg := sg_X9_shares_133) hh_X9_shares sk_X9_shares_133 ?_); simp (disch := omega) only [sg_X9_shares_133, sw_c, sw_n, sx, sf_4, sv_i, sv_j, sv_r, sv_q1, sv_q0, sv_1i, sv_1r, sv_2, sl_i, sl_j, sl_a, sl_v, sp_p, sp_f1, sp_f2, sc_w, sc_c, sc_r, sc_f, sc_a, sc_k, pp_in, pp_al, ↓reduceIte, Nat.reduceEqDiff, Nat.reduceLT, Nat.reduceLeDiff, Nat.reduceAdd, Nat.reduceSub, Nat.reduceMul, List.length_cons, List.length_nil, true_and, and_true, and_self, true_implies, eq_self, not_true_eq_false, not_false_eq_true, false_implies, implies_true, false_and, and_false, Bool.false_eq_true, or_true, true_or, or_false, false_or, Classical.not_not, Nat.le_refl, Nat.lt_irrefl, Bool.true_eq_false, n_lit, n_a, n_c, n_s, n_b, n_m, n_g, n_w, n_n, hM, hOm, bV_0, hb, c]) | (refine ⟨fun _ => ?_, fun _ => ?_⟩ <;> try (exfalso; omega)) | fail)
        repeat' (first | ((with_reducible refine pp_go (pc := 181) (seg := sg_X9_shares_181) hh_X9_shares sk_X9_shares_181 ?_); simp (disch := omega) only [sg_X9_shares_181, sw_c, sw_n, sx, sf_4, sv_i, sv_j, sv_r, sv_q1, sv_q0, sv_1i, sv_1r, sv_2, sl_i, sl_j, sl_a, sl_v, sp_p, sp_f1, sp_f2, sc_w, sc_c, sc_r, sc_f, sc_a, sc_k, pp_in, pp_al, ↓reduceIte, Nat.reduceEqDiff, Nat.reduceLT, Nat.reduceLeDiff, Nat.reduceAdd, Nat.reduceSub, Nat.reduceMul, List.length_cons, List.length_nil, true_and, and_true, and_self, true_implies, eq_self, not_true_eq_false, not_false_eq_true, false_implies, implies_true, false_and, and_false, Bool.false_eq_true, or_true, true_or, or_false, false_or, Classical.not_not, Nat.le_refl, Nat.lt_irrefl, Bool.true_eq_false, n_lit, n_a, n_c, n_s, n_b, n_m, n_g, n_w, n_n]) | (refine ⟨fun _ => ?_, fun _ => ?_⟩ <;> try (exfalso; omega)) | fail)
        refine ih _ _ hI (fun a a1 a2 => ?_) (fun i hi => ?_) (fun i hi => ?_) (fun i hi ho => ?_)
        · rw [pp_s_ne _ _ a2]; exact hJ a a1 a2
        · rw [pp_s_ne _ _ (by omega), hS i hi]
          by_cases e : i = m
          · subst e; rw [if_neg (fun z => hh z.2), if_neg (fun z => hh z.2)]
          · simp only [st i hi e]
        · rw [hO i hi]
          by_cases e : i = m
          · subst e; rw [if_neg (fun z => hh z.2), if_neg (fun z => hh z.2)]
          · simp only [st i hi e]
        · simp only [n_m, ↓reduceIte, Nat.reduceEqDiff]
          by_cases e : i = m
          · rw [if_pos e, e]; rfl
          · rw [if_neg e]; exact hQ i (by omega) ho
theorem m_sh_r (hM : sM sh R) (hW : ∀ m, m < 8 → I 133 m = Int32.ofNat (W m)) (bW : ∀ m, W m ≤ 1000000) (pW : ∀ m, m < 8 → O m = true → 0 < W m) (hS : ∀ i, i < 8 → J 134 i = S i) (hO : ∀ i, i < 8 → I 136 i = bV (O i))
    (K : anyh W lim O r 8 = true → ∀ I2 J2, (∀ a, a ≠ 136 → I2 a = I a) → (∀ a, a ≠ 134 → a ≠ 135 → J2 a = J a) → (∀ i, i < 8 → J2 134 i = if hitP W lim O r i then lim else S i) → (∀ i, i < 8 → I2 136 i = bV (if hitP W lim O r i then false else O i)) → pp_N g (h + 3) mi_X9_shares P 71 [(0, .ref 121), (1, .long amount), (3, .long lim), (5, .long (lft W lim O r 8)), (7, .int (Int32.ofNat 1))] [] (sh, I2, J2, R))
    (hP : anyh W lim O r 8 = false → ∀ I2 J2, (∀ a, a ≠ 136 → I2 a = I a) → (∀ a, a ≠ 134 → a ≠ 135 → J2 a = J a) → (∀ i, i < 8 → J2 134 i = (fin8 W lim (S, O, r)).1 i) → P (.inl (some (.long (fin8 W lim (S, O, r)).2))) (sh, I2, J2, R)) :
    pp_N g (h + 3) mi_X9_shares P 71 [(0, .ref 121), (1, .long amount), (3, .long lim), (5, .long r), (7, .int (Int32.ofNat 1))] [] (sh, I, J, R) := by
  refine pp_go rfl sk_X9_shares_71 ?_
  simp (disch := omega) only [sg_X9_shares_71, sw_c, sw_n, sx, sf_4, sv_i, sv_j, sv_r, sv_q1, sv_q0, sv_1i, sv_1r, sv_2, sl_i, sl_j, sl_a, sl_v, sp_p, sp_f1, sp_f2, sc_w, sc_c, sc_r, sc_f, sc_a, sc_k, pp_in, pp_al, ↓reduceIte, Nat.reduceEqDiff, Nat.reduceLT, Nat.reduceLeDiff, Nat.reduceAdd, Nat.reduceSub, Nat.reduceMul, List.length_cons, List.length_nil, true_and, and_true, and_self, true_implies, eq_self, not_true_eq_false, not_false_eq_true, false_implies, implies_true, false_and, and_false, Bool.false_eq_true, or_true, true_or, or_false, false_or, Classical.not_not, Nat.le_refl, Nat.lt_irrefl, Bool.true_eq_false, n_lit, n_a, n_c, n_s, n_b, n_m, n_g, n_w, n_n, hM]
  refine m_openOnes hM hW hO bW ?_
  simp (disch := omega) only [sw_c, sw_n, sx, sf_4, sv_i, sv_j, sv_r, sv_q1, sv_q0, sv_1i, sv_1r, sv_2, sl_i, sl_j, sl_a, sl_v, sp_p, sp_f1, sp_f2, sc_w, sc_c, sc_r, sc_f, sc_a, sc_k, pp_in, pp_al, ↓reduceIte, Nat.reduceEqDiff, Nat.reduceLT, Nat.reduceLeDiff, Nat.reduceAdd, Nat.reduceSub, Nat.reduceMul, List.length_cons, List.length_nil, true_and, and_true, and_self, true_implies, eq_self, not_true_eq_false, not_false_eq_true, false_implies, implies_true, false_and, and_false, Bool.false_eq_true, or_true, true_or, or_false, false_or, Classical.not_not, Nat.le_refl, Nat.lt_irrefl, Bool.true_eq_false, n_lit, n_a, n_c, n_s, n_b, n_m, n_g, n_w, n_n]
  refine m_sh_c (I := I) (J := J) (S := S) hM hW bW pW (fun I' J' hI hJ hS' hO' hQ' => ?_) 8 0 I J rfl (fun _ _ => rfl) (fun _ _ _ => rfl) (fun i hi => by rw [if_neg (by omega)]; exact hS i hi) (fun i hi => by rw [if_neg (by omega)]; exact hO i hi) (fun i hi => absurd hi (by omega))
  cases ha : anyh W lim O r 8 with
  | true =>
    have nx := K ha I' J' hI hJ hS' hO'
    refine pp_go rfl sk_X9_shares_187 ?_
    simp (disch := omega) only [sg_X9_shares_187, sw_c, sw_n, sx, sf_4, sv_i, sv_j, sv_r, sv_q1, sv_q0, sv_1i, sv_1r, sv_2, sl_i, sl_j, sl_a, sl_v, sp_p, sp_f1, sp_f2, sc_w, sc_c, sc_r, sc_f, sc_a, sc_k, pp_in, pp_al, ↓reduceIte, Nat.reduceEqDiff, Nat.reduceLT, Nat.reduceLeDiff, Nat.reduceAdd, Nat.reduceSub, Nat.reduceMul, List.length_cons, List.length_nil, true_and, and_true, and_self, true_implies, eq_self, not_true_eq_false, not_false_eq_true, false_implies, implies_true, false_and, and_false, Bool.false_eq_true, or_true, true_or, or_false, false_or, Classical.not_not, Nat.le_refl, Nat.lt_irrefl, Bool.true_eq_false, n_lit, n_a, n_c, n_s, n_b, n_m, n_g, n_w, n_n, bV_0]
    repeat' (first | ((with_reducible refine pp_go (pc := 203) (seg := sg_X9_shares_203) hh_X9_shares sk_X9_shares_203 ?_); simp (disch := omega) only [sg_X9_shares_203, sw_c, sw_n, sx, sf_4, sv_i, sv_j, sv_r, sv_q1, sv_q0, sv_1i, sv_1r, sv_2, sl_i, sl_j, sl_a, sl_v, sp_p, sp_f1, sp_f2, sc_w, sc_c, sc_r, sc_f, sc_a, sc_k, pp_in, pp_al, ↓reduceIte, Nat.reduceEqDiff, Nat.reduceLT, Nat.reduceLeDiff, Nat.reduceAdd, Nat.reduceSub, Nat.reduceMul, List.length_cons, List.length_nil, true_and, and_true, and_self, true_implies, eq_self, not_true_eq_false, not_false_eq_true, false_implies, implies_true, false_and, and_false, Bool.false_eq_true, or_true, true_or, or_false, false_or, Classical.not_not, Nat.le_refl, Nat.lt_irrefl, Bool.true_eq_false, n_lit, n_a, n_c, n_s, n_b, n_m, n_g, n_w, n_n]) | (refine ⟨fun _ => ?_, fun _ => ?_⟩ <;> try (exfalso; omega)) | fail)
    exact pp_N.sub nx (by simp [bV])
  | false =>
    have noh : ∀ n, anyh W lim O r n = false → ∀ i, i < n → ¬ hitP W lim O r i := by
      intro n
      induction n with
      | zero => intro _ i hi; omega
      | succ n ih =>
        intro e i hi
        rw [anyh] at e
        split at e
        · cases e
        · by_cases z : i = n
          · subst z; assumption
          · exact ih e i (by omega)
    have noh := noh 8 ha
    have hW' : ∀ m, m < 8 → I' 133 m = Int32.ofNat (W m) := fun m hm => by rw [hI 133 (by omega)]; exact hW m hm
    have hO2 : ∀ i, i < 8 → I' 136 i = bV (O i) := fun i hi => by rw [hO' i hi, if_neg (noh i hi)]
    have hS2 : ∀ i, i < 8 → J' 134 i = S i := fun i hi => by rw [hS' i hi, if_neg (noh i hi)]
    refine pp_go rfl sk_X9_shares_187 ?_
    simp (disch := omega) only [sg_X9_shares_187, sw_c, sw_n, sx, sf_4, sv_i, sv_j, sv_r, sv_q1, sv_q0, sv_1i, sv_1r, sv_2, sl_i, sl_j, sl_a, sl_v, sp_p, sp_f1, sp_f2, sc_w, sc_c, sc_r, sc_f, sc_a, sc_k, pp_in, pp_al, ↓reduceIte, Nat.reduceEqDiff, Nat.reduceLT, Nat.reduceLeDiff, Nat.reduceAdd, Nat.reduceSub, Nat.reduceMul, List.length_cons, List.length_nil, true_and, and_true, and_self, true_implies, eq_self, not_true_eq_false, not_false_eq_true, false_implies, implies_true, false_and, and_false, Bool.false_eq_true, or_true, true_or, or_false, false_or, Classical.not_not, Nat.le_refl, Nat.lt_irrefl, Bool.true_eq_false, n_lit, n_a, n_c, n_s, n_b, n_m, n_g, n_w, n_n, bV_0, hM]
    refine m_rounds hM hW' hO2 bW (fun m hm ho => opn_pos hm ho (pW m hm ho)) (opn_le bW O) hQ' hS2 (fun J2 hf hR => ?_)
    have hP := hP ha I' J2 hI (fun a a1 a2 => (hf a a1).trans (hJ a a1 a2)) hR
    simp (disch := omega) only [sw_c, sw_n, sx, sf_4, sv_i, sv_j, sv_r, sv_q1, sv_q0, sv_1i, sv_1r, sv_2, sl_i, sl_j, sl_a, sl_v, sp_p, sp_f1, sp_f2, sc_w, sc_c, sc_r, sc_f, sc_a, sc_k, pp_in, pp_al, ↓reduceIte, Nat.reduceEqDiff, Nat.reduceLT, Nat.reduceLeDiff, Nat.reduceAdd, Nat.reduceSub, Nat.reduceMul, List.length_cons, List.length_nil, true_and, and_true, and_self, true_implies, eq_self, not_true_eq_false, not_false_eq_true, false_implies, implies_true, false_and, and_false, Bool.false_eq_true, or_true, true_or, or_false, false_or, Classical.not_not, Nat.le_refl, Nat.lt_irrefl, Bool.true_eq_false, n_lit, n_a, n_c, n_s, n_b, n_m, n_g, n_w, n_n]
    repeat' (first | ((with_reducible refine pp_go (pc := 203) (seg := sg_X9_shares_203) hh_X9_shares sk_X9_shares_203 ?_); simp (disch := omega) only [sg_X9_shares_203, sw_c, sw_n, sx, sf_4, sv_i, sv_j, sv_r, sv_q1, sv_q0, sv_1i, sv_1r, sv_2, sl_i, sl_j, sl_a, sl_v, sp_p, sp_f1, sp_f2, sc_w, sc_c, sc_r, sc_f, sc_a, sc_k, pp_in, pp_al, ↓reduceIte, Nat.reduceEqDiff, Nat.reduceLT, Nat.reduceLeDiff, Nat.reduceAdd, Nat.reduceSub, Nat.reduceMul, List.length_cons, List.length_nil, true_and, and_true, and_self, true_implies, eq_self, not_true_eq_false, not_false_eq_true, false_implies, implies_true, false_and, and_false, Bool.false_eq_true, or_true, true_or, or_false, false_or, Classical.not_not, Nat.le_refl, Nat.lt_irrefl, Bool.true_eq_false, n_lit, n_a, n_c, n_s, n_b, n_m, n_g, n_w, n_n]) | (refine ⟨fun _ => ?_, fun _ => ?_⟩ <;> try (exfalso; omega)) | fail)
    refine pp_go rfl sk_X9_shares_71 ?_
    simp (disch := omega) only [sg_X9_shares_71, sw_c, sw_n, sx, sf_4, sv_i, sv_j, sv_r, sv_q1, sv_q0, sv_1i, sv_1r, sv_2, sl_i, sl_j, sl_a, sl_v, sp_p, sp_f1, sp_f2, sc_w, sc_c, sc_r, sc_f, sc_a, sc_k, pp_in, pp_al, ↓reduceIte, Nat.reduceEqDiff, Nat.reduceLT, Nat.reduceLeDiff, Nat.reduceAdd, Nat.reduceSub, Nat.reduceMul, List.length_cons, List.length_nil, true_and, and_true, and_self, true_implies, eq_self, not_true_eq_false, not_false_eq_true, false_implies, implies_true, false_and, and_false, Bool.false_eq_true, or_true, true_or, or_false, false_or, Classical.not_not, Nat.le_refl, Nat.lt_irrefl, Bool.true_eq_false, n_lit, n_a, n_c, n_s, n_b, n_m, n_g, n_w, n_n, bV_0]
    repeat' (first | ((with_reducible refine pp_go (pc := 210) (seg := sg_X9_shares_210) hh_X9_shares sk_X9_shares_210 ?_); simp (disch := omega) only [sg_X9_shares_210, sw_c, sw_n, sx, sf_4, sv_i, sv_j, sv_r, sv_q1, sv_q0, sv_1i, sv_1r, sv_2, sl_i, sl_j, sl_a, sl_v, sp_p, sp_f1, sp_f2, sc_w, sc_c, sc_r, sc_f, sc_a, sc_k, pp_in, pp_al, ↓reduceIte, Nat.reduceEqDiff, Nat.reduceLT, Nat.reduceLeDiff, Nat.reduceAdd, Nat.reduceSub, Nat.reduceMul, List.length_cons, List.length_nil, true_and, and_true, and_self, true_implies, eq_self, not_true_eq_false, not_false_eq_true, false_implies, implies_true, false_and, and_false, Bool.false_eq_true, or_true, true_or, or_false, false_or, Classical.not_not, Nat.le_refl, Nat.lt_irrefl, Bool.true_eq_false, n_lit, n_a, n_c, n_s, n_b, n_m, n_g, n_w, n_n]) | (refine ⟨fun _ => ?_, fun _ => ?_⟩ <;> try (exfalso; omega)) | fail)
    exact hP
theorem m_sh_b (hM : sM sh R) (hW0 : ∀ m, m < 8 → I 133 m = Int32.ofNat (W m)) (bW : ∀ m, W m ≤ 1000000) :
    ∀ f S O r I' J', cnt O ≤ f → (∀ m, m < 8 → O m = true → 0 < W m) → (∀ a, a ≠ 136 → I' a = I a) → (∀ a, a ≠ 134 → a ≠ 135 → J' a = J a) → (∀ i, i < 8 → J' 134 i = S i) → (∀ i, i < 8 → I' 136 i = bV (O i)) →
      (∀ I2 J2, (∀ a, a ≠ 136 → I2 a = I a) → (∀ a, a ≠ 134 → a ≠ 135 → J2 a = J a) → (∀ i, i < 8 → J2 134 i = (fin8 W lim (cls W lim f (S, O, r))).1 i) → P (.inl (some (.long (fin8 W lim (cls W lim f (S, O, r))).2))) (sh, I2, J2, R)) →
      pp_N g (h + 3) mi_X9_shares P 71 [(0, .ref 121), (1, .long amount), (3, .long lim), (5, .long r), (7, .int (Int32.ofNat 1))] [] (sh, I', J', R) := by
  intro f
  induction f with
  | zero =>
    intro S O r I' J' hc pW hI hJ hS hO hP
    have hW : ∀ m, m < 8 → I' 133 m = Int32.ofNat (W m) := fun m hm => by rw [hI 133 (by omega)]; exact hW0 m hm
    refine m_sh_r hM hW bW pW hS hO (fun e => ?_) (fun _ I2 J2 h1 h2 h3 => ?_)
    · have := cnt_less e
      omega
    · exact hP I2 J2 (fun a ha => (h1 a ha).trans (hI a ha)) (fun a a1 a2 => (h2 a a1 a2).trans (hJ a a1 a2)) h3
  | succ f ih =>
    intro S O r I' J' hc pW hI hJ hS hO hP
    have hW : ∀ m, m < 8 → I' 133 m = Int32.ofNat (W m) := fun m hm => by rw [hI 133 (by omega)]; exact hW0 m hm
    refine m_sh_r hM hW bW pW hS hO (fun e I2 J2 h1 h2 h3 h4 => ?_) (fun e I2 J2 h1 h2 h3 => ?_)
    · have := cnt_less e
      rw [cls, if_pos e] at hP
      refine ih _ _ _ I2 J2 (by omega) (fun m hm ho => pW m hm ?_) (fun a ha => (h1 a ha).trans (hI a ha)) (fun a a1 a2 => (h2 a a1 a2).trans (hJ a a1 a2)) h3 h4 hP
      split at ho
      · cases ho
      · exact ho
    · rw [cls, if_neg (by rw [e]; simp)] at hP
      exact hP I2 J2 (fun a ha => (h1 a ha).trans (hI a ha)) (fun a a1 a2 => (h2 a a1 a2).trans (hJ a a1 a2)) h3
theorem m_sh_a (hM : sM sh R) (hW0 : ∀ m, m < 8 → I 133 m = Int32.ofNat (W m)) (bW : ∀ m, W m ≤ 1000000)
    (K : ∀ I' J', (∀ a, a ≠ 136 → I' a = I a) → (∀ a, a ≠ 134 → a ≠ 135 → J' a = J a) → (∀ i, i < 8 → J' 134 i = Int64.ofNat 0) → (∀ i, i < 8 → I' 136 i = bV (decide (0 < W i))) → pp_N g (h + 3) mi_X9_shares P 65 [(0, .ref 121), (1, .long amount), (3, .long lim)] [] (sh, I', J', R)) :
    ∀ f m I' J', f + m = 8 → (∀ a, a ≠ 136 → I' a = I a) → (∀ a, a ≠ 134 → a ≠ 135 → J' a = J a) → (∀ i, i < m → J' 134 i = Int64.ofNat 0) → (∀ i, i < m → I' 136 i = bV (decide (0 < W i))) → pp_N g (h + 3) mi_X9_shares P 22 [(0, .ref 121), (1, .long amount), (3, .long lim), (5, .int (Int32.ofNat m))] [] (sh, I', J', R) := by
  intro f
  induction f with
  | zero =>
    intro m I' J' hm hI hJ hS hO
    have hm : m = 8 := by omega
    subst hm
    refine pp_go rfl sk_X9_shares_22 ?_
    simp (disch := omega) only [sg_X9_shares_22, sw_c, sw_n, sx, sf_4, sv_i, sv_j, sv_r, sv_q1, sv_q0, sv_1i, sv_1r, sv_2, sl_i, sl_j, sl_a, sl_v, sp_p, sp_f1, sp_f2, sc_w, sc_c, sc_r, sc_f, sc_a, sc_k, pp_in, pp_al, ↓reduceIte, Nat.reduceEqDiff, Nat.reduceLT, Nat.reduceLeDiff, Nat.reduceAdd, Nat.reduceSub, Nat.reduceMul, List.length_cons, List.length_nil, true_and, and_true, and_self, true_implies, eq_self, not_true_eq_false, not_false_eq_true, false_implies, implies_true, false_and, and_false, Bool.false_eq_true, or_true, true_or, or_false, false_or, Classical.not_not, Nat.le_refl, Nat.lt_irrefl, Bool.true_eq_false, n_lit, n_a, n_c, n_s, n_b, n_m, n_g, n_w, n_n]
    exact pp_N.sub (K I' J' hI hJ hS hO) (by simp)
  | succ f ih =>
    intro m I' J' hm hI hJ hS hO
    have q1 : ¬ 8 ≤ m := by omega
    have bm := bW m
    have hWm : I' 133 m = Int32.ofNat (W m) := by rw [hI 133 (by omega)]; exact hW0 m (by omega)
    refine pp_go rfl sk_X9_shares_22 ?_
    simp (disch := omega) only [sg_X9_shares_22, sw_c, sw_n, sx, sf_4, sv_i, sv_j, sv_r, sv_q1, sv_q0, sv_1i, sv_1r, sv_2, sl_i, sl_j, sl_a, sl_v, sp_p, sp_f1, sp_f2, sc_w, sc_c, sc_r, sc_f, sc_a, sc_k, pp_in, pp_al, ↓reduceIte, Nat.reduceEqDiff, Nat.reduceLT, Nat.reduceLeDiff, Nat.reduceAdd, Nat.reduceSub, Nat.reduceMul, List.length_cons, List.length_nil, true_and, and_true, and_self, true_implies, eq_self, not_true_eq_false, not_false_eq_true, false_implies, implies_true, false_and, and_false, Bool.false_eq_true, or_true, true_or, or_false, false_or, Classical.not_not, Nat.le_refl, Nat.lt_irrefl, Bool.true_eq_false, n_lit, n_a, n_c, n_s, n_b, n_m, n_g, n_w, n_n, hM, q1, hWm]
    refine ⟨fun q => ?_, fun q => ?_⟩
    · repeat' (first | ((with_reducible refine pp_go (pc := 57) (seg := sg_X9_shares_57) hh_X9_shares sk_X9_shares_57 ?_); simp (disch := omega) only [sg_X9_shares_57, sw_c, sw_n, sx, sf_4, sv_i, sv_j, sv_r, sv_q1, sv_q0, sv_1i, sv_1r, sv_2, sl_i, sl_j, sl_a, sl_v, sp_p, sp_f1, sp_f2, sc_w, sc_c, sc_r, sc_f, sc_a, sc_k, pp_in, pp_al, ↓reduceIte, Nat.reduceEqDiff, Nat.reduceLT, Nat.reduceLeDiff, Nat.reduceAdd, Nat.reduceSub, Nat.reduceMul, List.length_cons, List.length_nil, true_and, and_true, and_self, true_implies, eq_self, not_true_eq_false, not_false_eq_true, false_implies, implies_true, false_and, and_false, Bool.false_eq_true, or_true, true_or, or_false, false_or, Classical.not_not, Nat.le_refl, Nat.lt_irrefl, Bool.true_eq_false, n_lit, n_a, n_c, n_s, n_b, n_m, n_g, n_w, n_n, hM]) | ((with_reducible refine pp_go (pc := 58) (seg := sg_X9_shares_58) hh_X9_shares sk_X9_shares_58 ?_); simp (disch := omega) only [sg_X9_shares_58, sw_c, sw_n, sx, sf_4, sv_i, sv_j, sv_r, sv_q1, sv_q0, sv_1i, sv_1r, sv_2, sl_i, sl_j, sl_a, sl_v, sp_p, sp_f1, sp_f2, sc_w, sc_c, sc_r, sc_f, sc_a, sc_k, pp_in, pp_al, ↓reduceIte, Nat.reduceEqDiff, Nat.reduceLT, Nat.reduceLeDiff, Nat.reduceAdd, Nat.reduceSub, Nat.reduceMul, List.length_cons, List.length_nil, true_and, and_true, and_self, true_implies, eq_self, not_true_eq_false, not_false_eq_true, false_implies, implies_true, false_and, and_false, Bool.false_eq_true, or_true, true_or, or_false, false_or, Classical.not_not, Nat.le_refl, Nat.lt_irrefl, Bool.true_eq_false, n_lit, n_a, n_c, n_s, n_b, n_m, n_g, n_w, n_n, hM]) | (refine ⟨fun _ => ?_, fun _ => ?_⟩ <;> try (exfalso; omega)) | fail)
      refine ih (m + 1) _ _ (by omega) (fun a ha => ?_) (fun a a1 a2 => ?_) (fun i hi => ?_) (fun i hi => ?_)
      · rw [pp_s_ne _ _ ha]; exact hI a ha
      · rw [pp_s_ne _ _ a1]; exact hJ a a1 a2
      · simp only [n_m, ↓reduceIte]
        by_cases e : i = m
        · rw [if_pos e]
        · rw [if_neg e]; exact hS i (by omega)
      · simp only [n_m, ↓reduceIte]
        by_cases e : i = m
        · rw [if_pos e, e, decide_eq_false (by omega)]; rfl
        · rw [if_neg e]; exact hO i (by omega)
    · repeat' (first | ((with_reducible refine pp_go (pc := 58) (seg := sg_X9_shares_58) hh_X9_shares sk_X9_shares_58 ?_); simp (disch := omega) only [sg_X9_shares_58, sw_c, sw_n, sx, sf_4, sv_i, sv_j, sv_r, sv_q1, sv_q0, sv_1i, sv_1r, sv_2, sl_i, sl_j, sl_a, sl_v, sp_p, sp_f1, sp_f2, sc_w, sc_c, sc_r, sc_f, sc_a, sc_k, pp_in, pp_al, ↓reduceIte, Nat.reduceEqDiff, Nat.reduceLT, Nat.reduceLeDiff, Nat.reduceAdd, Nat.reduceSub, Nat.reduceMul, List.length_cons, List.length_nil, true_and, and_true, and_self, true_implies, eq_self, not_true_eq_false, not_false_eq_true, false_implies, implies_true, false_and, and_false, Bool.false_eq_true, or_true, true_or, or_false, false_or, Classical.not_not, Nat.le_refl, Nat.lt_irrefl, Bool.true_eq_false, n_lit, n_a, n_c, n_s, n_b, n_m, n_g, n_w, n_n, hM]) | (refine ⟨fun _ => ?_, fun _ => ?_⟩ <;> try (exfalso; omega)) | fail)
      refine ih (m + 1) _ _ (by omega) (fun a ha => ?_) (fun a a1 a2 => ?_) (fun i hi => ?_) (fun i hi => ?_)
      · rw [pp_s_ne _ _ ha]; exact hI a ha
      · rw [pp_s_ne _ _ a1]; exact hJ a a1 a2
      · simp only [n_m, ↓reduceIte]
        by_cases e : i = m
        · rw [if_pos e]
        · rw [if_neg e]; exact hS i (by omega)
      · simp only [n_m, ↓reduceIte]
        by_cases e : i = m
        · rw [if_pos e, e, decide_eq_true (by omega)]; rfl
        · rw [if_neg e]; exact hO i (by omega)
theorem cnt_le8 (O : Nat → Bool) : cnt O ≤ 8 := by
  have := sm_le (f := fun m => if O m then 1 else 0) (c := 1) (fun i => by split <;> omega) 8
  unfold cnt
  omega
abbrev fJ (J J' : Nat → Nat → Int64) : Prop := ∀ a, a ≠ 134 → a ≠ 135 → J' a = J a
theorem m_shares (hM : sM sh R) (hN : mN J G) (hT : mT I T) (wG : wfL n G) (wT : wfT T) (hP : ∀ I' J', fS I I' → fJ J J' → (∀ i, i < 8 → J' 134 i = (dsh (wts T G) amount (T.1 6)).1 i) → P (.inl (some (.long (dsh (wts T G) amount (T.1 6)).2))) (sh, I', J', R)) : pp_MW g (h + 6) mi_X9_shares [.ref 121, .long amount] (sh, I, J, R) P := by
  refine pp_st0 [(0, .ref 121), (1, .long amount)] ok_X9_shares rfl (Nat.le_of_ble_eq_true rfl) rfl ?_
  refine pp_go rfl sk_X9_shares_0 ?_
  simp (disch := omega) only [sg_X9_shares_0, sw_c, sw_n, sx, sf_4, sv_i, sv_j, sv_r, sv_q1, sv_q0, sv_1i, sv_1r, sv_2, sl_i, sl_j, sl_a, sl_v, sp_p, sp_f1, sp_f2, sc_w, sc_c, sc_r, sc_f, sc_a, sc_k, pp_in, pp_al, ↓reduceIte, Nat.reduceEqDiff, Nat.reduceLT, Nat.reduceLeDiff, Nat.reduceAdd, Nat.reduceSub, Nat.reduceMul, List.length_cons, List.length_nil, true_and, and_true, and_self, true_implies, eq_self, not_true_eq_false, not_false_eq_true, false_implies, implies_true, false_and, and_false, Bool.false_eq_true, or_true, true_or, or_false, false_or, Classical.not_not, Nat.le_refl, Nat.lt_irrefl, Bool.true_eq_false, n_lit, n_a, n_c, n_s, n_b, n_m, n_g, n_w, n_n, hM]
  refine m_weighs hM hN hT wG wT (fun I' hf hw => ?_)
  have hT' : mT I' T := mT_fr hT (fun a _ _ => hf a (by omega))
  have bW := fun m => wts_le T G m wT
  simp (disch := omega) only [sw_c, sw_n, sx, sf_4, sv_i, sv_j, sv_r, sv_q1, sv_q0, sv_1i, sv_1r, sv_2, sl_i, sl_j, sl_a, sl_v, sp_p, sp_f1, sp_f2, sc_w, sc_c, sc_r, sc_f, sc_a, sc_k, pp_in, pp_al, ↓reduceIte, Nat.reduceEqDiff, Nat.reduceLT, Nat.reduceLeDiff, Nat.reduceAdd, Nat.reduceSub, Nat.reduceMul, List.length_cons, List.length_nil, true_and, and_true, and_self, true_implies, eq_self, not_true_eq_false, not_false_eq_true, false_implies, implies_true, false_and, and_false, Bool.false_eq_true, or_true, true_or, or_false, false_or, Classical.not_not, Nat.le_refl, Nat.lt_irrefl, Bool.true_eq_false, n_lit, n_a, n_c, n_s, n_b, n_m, n_g, n_w, n_n, hM, hT']
  refine m_sh_a (I := I') (J := J) hM hw bW (fun I2 J2 h1 h2 h3 h4 => ?_) 8 0 I' J rfl (fun _ _ => rfl) (fun _ _ _ => rfl) (fun i hi => absurd hi (by omega)) (fun i hi => absurd hi (by omega))
  refine pp_go rfl sk_X9_shares_65 ?_
  simp (disch := omega) only [sg_X9_shares_65, sw_c, sw_n, sx, sf_4, sv_i, sv_j, sv_r, sv_q1, sv_q0, sv_1i, sv_1r, sv_2, sl_i, sl_j, sl_a, sl_v, sp_p, sp_f1, sp_f2, sc_w, sc_c, sc_r, sc_f, sc_a, sc_k, pp_in, pp_al, ↓reduceIte, Nat.reduceEqDiff, Nat.reduceLT, Nat.reduceLeDiff, Nat.reduceAdd, Nat.reduceSub, Nat.reduceMul, List.length_cons, List.length_nil, true_and, and_true, and_self, true_implies, eq_self, not_true_eq_false, not_false_eq_true, false_implies, implies_true, false_and, and_false, Bool.false_eq_true, or_true, true_or, or_false, false_or, Classical.not_not, Nat.le_refl, Nat.lt_irrefl, Bool.true_eq_false, n_lit, n_a, n_c, n_s, n_b, n_m, n_g, n_w, n_n]
  refine m_sh_b (I := I') (J := J) hM hw bW 8 _ _ _ I2 J2 (cnt_le8 _) (fun m hm ho => by simpa using ho) h1 h2 h3 h4 (fun I3 J3 g1 g2 g3 => ?_)
  exact hP I3 J3 (fun a ha => (g1 a (by omega)).trans (hf a ha)) g2 g3
def o_shareOf (T : TM) (G : LG) (m a : Int32) : Nat × Int32 := wM G m (1, 0) (fun m => match idx a 1000000001 with
  | none => (2, 0)
  | some a => (0, ((dsh (wts T G) (Int64.ofNat a) (T.1 6)).1 m).toInt32))
theorem m_shareOf {m a : Int32} (hM : sM sh R) (hN : mN J G) (hT : mT I T) (wG : wfL n G) (wT : wfT T) (hP : ∀ I' J', (∀ a, a < 121 ∨ (121 < a ∧ a < 131) ∨ 137 ≤ a → I' a = I a) → I' 121 = va_up (I 121) 0 (Int32.ofNat (o_shareOf T G m a).1) → fJ J J' → P (.inl (some (.int (o_shareOf T G m a).2))) (sh, I', J', R)) : pp_MW g (h + 7) mi_X9_shareOf [.ref 121, .int m, .int a] (sh, I, J, R) P := by
  refine pp_st0 [(0, .ref 121), (1, .int m), (2, .int a)] ok_X9_shareOf rfl (Nat.le_of_ble_eq_true rfl) rfl ?_
  refine pp_go rfl sk_X9_shareOf_0 ?_
  simp (disch := omega) only [sg_X9_shareOf_0, sw_c, sw_n, sx, sf_4, sv_i, sv_j, sv_r, sv_q1, sv_q0, sv_1i, sv_1r, sv_2, sl_i, sl_j, sl_a, sl_v, sp_p, sp_f1, sp_f2, sc_w, sc_c, sc_r, sc_f, sc_a, sc_k, pp_in, pp_al, ↓reduceIte, Nat.reduceEqDiff, Nat.reduceLT, Nat.reduceLeDiff, Nat.reduceAdd, Nat.reduceSub, Nat.reduceMul, List.length_cons, List.length_nil, true_and, and_true, and_self, true_implies, eq_self, not_true_eq_false, not_false_eq_true, false_implies, implies_true, false_and, and_false, Bool.false_eq_true, or_true, true_or, or_false, false_or, Classical.not_not, Nat.le_refl, Nat.lt_irrefl, Bool.true_eq_false, n_lit, n_a, n_c, n_s, n_b, n_m, n_g, n_w, n_n, rk_X9_shareOf, hM]
  rcases idx_cases m (G.1 7) (by omega) with ⟨k, hk, rfl, e1⟩ | ⟨ho, e1⟩
  · refine m_nM0 hM hN wG hk ?_
    simp (disch := omega) only [sw_c, sw_n, sx, sf_4, sv_i, sv_j, sv_r, sv_q1, sv_q0, sv_1i, sv_1r, sv_2, sl_i, sl_j, sl_a, sl_v, sp_p, sp_f1, sp_f2, sc_w, sc_c, sc_r, sc_f, sc_a, sc_k, pp_in, pp_al, ↓reduceIte, Nat.reduceEqDiff, Nat.reduceLT, Nat.reduceLeDiff, Nat.reduceAdd, Nat.reduceSub, Nat.reduceMul, List.length_cons, List.length_nil, true_and, and_true, and_self, true_implies, eq_self, not_true_eq_false, not_false_eq_true, false_implies, implies_true, false_and, and_false, Bool.false_eq_true, or_true, true_or, or_false, false_or, Classical.not_not, Nat.le_refl, Nat.lt_irrefl, Bool.true_eq_false, n_lit, n_a, n_c, n_s, n_b, n_m, n_g, n_w, n_n, rk_X9_shareOf, hM]
    rcases idx_cases a 1000000001 (by omega) with ⟨j, hj, rfl, e2⟩ | ⟨ho, e2⟩
    · simp only [o_shareOf, wM, e1, e2] at hP
      have q : Int64.ofNat 0 ≤ Int64.ofNat j ∧ Int64.ofNat j ≤ Int64.ofNat 1000000000 := n_wi hj (by omega)
      simp (disch := omega) only [sw_c, sw_n, sx, sf_4, sv_i, sv_j, sv_r, sv_q1, sv_q0, sv_1i, sv_1r, sv_2, sl_i, sl_j, sl_a, sl_v, sp_p, sp_f1, sp_f2, sc_w, sc_c, sc_r, sc_f, sc_a, sc_k, pp_in, pp_al, ↓reduceIte, Nat.reduceEqDiff, Nat.reduceLT, Nat.reduceLeDiff, Nat.reduceAdd, Nat.reduceSub, Nat.reduceMul, List.length_cons, List.length_nil, true_and, and_true, and_self, true_implies, eq_self, not_true_eq_false, not_false_eq_true, false_implies, implies_true, false_and, and_false, Bool.false_eq_true, or_true, true_or, or_false, false_or, Classical.not_not, Nat.le_refl, Nat.lt_irrefl, Bool.true_eq_false, n_lit, n_a, n_c, n_s, n_b, n_m, n_g, n_w, n_n, rk_X9_shareOf]
      refine m_within ?_
      simp (disch := omega) only [sw_c, sw_n, sx, sf_4, sv_i, sv_j, sv_r, sv_q1, sv_q0, sv_1i, sv_1r, sv_2, sl_i, sl_j, sl_a, sl_v, sp_p, sp_f1, sp_f2, sc_w, sc_c, sc_r, sc_f, sc_a, sc_k, pp_in, pp_al, ↓reduceIte, Nat.reduceEqDiff, Nat.reduceLT, Nat.reduceLeDiff, Nat.reduceAdd, Nat.reduceSub, Nat.reduceMul, List.length_cons, List.length_nil, true_and, and_true, and_self, true_implies, eq_self, not_true_eq_false, not_false_eq_true, false_implies, implies_true, false_and, and_false, Bool.false_eq_true, or_true, true_or, or_false, false_or, Classical.not_not, Nat.le_refl, Nat.lt_irrefl, Bool.true_eq_false, n_lit, n_a, n_c, n_s, n_b, n_m, n_g, n_w, n_n, rk_X9_shareOf, q]
      repeat' (first | ((with_reducible refine pp_go (pc := 25) (seg := sg_X9_shareOf_25) hh_X9_shareOf sk_X9_shareOf_25 ?_); simp (disch := omega) only [sg_X9_shareOf_25, sw_c, sw_n, sx, sf_4, sv_i, sv_j, sv_r, sv_q1, sv_q0, sv_1i, sv_1r, sv_2, sl_i, sl_j, sl_a, sl_v, sp_p, sp_f1, sp_f2, sc_w, sc_c, sc_r, sc_f, sc_a, sc_k, pp_in, pp_al, ↓reduceIte, Nat.reduceEqDiff, Nat.reduceLT, Nat.reduceLeDiff, Nat.reduceAdd, Nat.reduceSub, Nat.reduceMul, List.length_cons, List.length_nil, true_and, and_true, and_self, true_implies, eq_self, not_true_eq_false, not_false_eq_true, false_implies, implies_true, false_and, and_false, Bool.false_eq_true, or_true, true_or, or_false, false_or, Classical.not_not, Nat.le_refl, Nat.lt_irrefl, Bool.true_eq_false, n_lit, n_a, n_c, n_s, n_b, n_m, n_g, n_w, n_n, rk_X9_shareOf, hM]) | ((with_reducible refine pp_go (pc := 26) (seg := sg_X9_shareOf_26) hh_X9_shareOf sk_X9_shareOf_26 ?_); simp (disch := omega) only [sg_X9_shareOf_26, sw_c, sw_n, sx, sf_4, sv_i, sv_j, sv_r, sv_q1, sv_q0, sv_1i, sv_1r, sv_2, sl_i, sl_j, sl_a, sl_v, sp_p, sp_f1, sp_f2, sc_w, sc_c, sc_r, sc_f, sc_a, sc_k, pp_in, pp_al, ↓reduceIte, Nat.reduceEqDiff, Nat.reduceLT, Nat.reduceLeDiff, Nat.reduceAdd, Nat.reduceSub, Nat.reduceMul, List.length_cons, List.length_nil, true_and, and_true, and_self, true_implies, eq_self, not_true_eq_false, not_false_eq_true, false_implies, implies_true, false_and, and_false, Bool.false_eq_true, or_true, true_or, or_false, false_or, Classical.not_not, Nat.le_refl, Nat.lt_irrefl, Bool.true_eq_false, n_lit, n_a, n_c, n_s, n_b, n_m, n_g, n_w, n_n, rk_X9_shareOf, hM]) | (refine ⟨fun _ => ?_, fun _ => ?_⟩ <;> try (exfalso; omega)) | fail)
      refine m_thr0 hM rfl ?_
      simp (disch := omega) only [sw_c, sw_n, sx, sf_4, sv_i, sv_j, sv_r, sv_q1, sv_q0, sv_1i, sv_1r, sv_2, sl_i, sl_j, sl_a, sl_v, sp_p, sp_f1, sp_f2, sc_w, sc_c, sc_r, sc_f, sc_a, sc_k, pp_in, pp_al, ↓reduceIte, Nat.reduceEqDiff, Nat.reduceLT, Nat.reduceLeDiff, Nat.reduceAdd, Nat.reduceSub, Nat.reduceMul, List.length_cons, List.length_nil, true_and, and_true, and_self, true_implies, eq_self, not_true_eq_false, not_false_eq_true, false_implies, implies_true, false_and, and_false, Bool.false_eq_true, or_true, true_or, or_false, false_or, Classical.not_not, Nat.le_refl, Nat.lt_irrefl, Bool.true_eq_false, n_lit, n_a, n_c, n_s, n_b, n_m, n_g, n_w, n_n, rk_X9_shareOf, hM]
      repeat' (first | ((with_reducible refine pp_go (pc := 35) (seg := sg_X9_shareOf_35) hh_X9_shareOf sk_X9_shareOf_35 ?_); simp (disch := omega) only [sg_X9_shareOf_35, sw_c, sw_n, sx, sf_4, sv_i, sv_j, sv_r, sv_q1, sv_q0, sv_1i, sv_1r, sv_2, sl_i, sl_j, sl_a, sl_v, sp_p, sp_f1, sp_f2, sc_w, sc_c, sc_r, sc_f, sc_a, sc_k, pp_in, pp_al, ↓reduceIte, Nat.reduceEqDiff, Nat.reduceLT, Nat.reduceLeDiff, Nat.reduceAdd, Nat.reduceSub, Nat.reduceMul, List.length_cons, List.length_nil, true_and, and_true, and_self, true_implies, eq_self, not_true_eq_false, not_false_eq_true, false_implies, implies_true, false_and, and_false, Bool.false_eq_true, or_true, true_or, or_false, false_or, Classical.not_not, Nat.le_refl, Nat.lt_irrefl, Bool.true_eq_false, n_lit, n_a, n_c, n_s, n_b, n_m, n_g, n_w, n_n, rk_X9_shareOf, hM, hN]) | (refine ⟨fun _ => ?_, fun _ => ?_⟩ <;> try (exfalso; omega)) | fail)
      refine m_shares hM hN hT wG wT (fun I' J' hf hJ hS => ?_)
      have hP := hP I' J' (fun a ha => (hf a (by omega)).trans (pp_s_ne _ _ (by omega))) (by rw [hf 121 (by omega)]; simp only [n_m, ↓reduceIte]) hJ
      have hS := hS k (by omega)
      simp (disch := omega) only [sw_c, sw_n, sx, sf_4, sv_i, sv_j, sv_r, sv_q1, sv_q0, sv_1i, sv_1r, sv_2, sl_i, sl_j, sl_a, sl_v, sp_p, sp_f1, sp_f2, sc_w, sc_c, sc_r, sc_f, sc_a, sc_k, pp_in, pp_al, ↓reduceIte, Nat.reduceEqDiff, Nat.reduceLT, Nat.reduceLeDiff, Nat.reduceAdd, Nat.reduceSub, Nat.reduceMul, List.length_cons, List.length_nil, true_and, and_true, and_self, true_implies, eq_self, not_true_eq_false, not_false_eq_true, false_implies, implies_true, false_and, and_false, Bool.false_eq_true, or_true, true_or, or_false, false_or, Classical.not_not, Nat.le_refl, Nat.lt_irrefl, Bool.true_eq_false, n_lit, n_a, n_c, n_s, n_b, n_m, n_g, n_w, n_n, rk_X9_shareOf, hM, hS]
      exact hP
    · simp only [o_shareOf, wM, e1, e2] at hP
      have hP := hP (tI I 2) J (fun a ha => pp_s_ne _ _ (by omega)) (by simp only [n_m, ↓reduceIte]) (fun _ _ _ => rfl)
      have q := n_wo ho (by omega)
      rw [n_s.2.1 _ _ (by omega)] at q
      refine m_within ?_
      simp (disch := omega) only [sw_c, sw_n, sx, sf_4, sv_i, sv_j, sv_r, sv_q1, sv_q0, sv_1i, sv_1r, sv_2, sl_i, sl_j, sl_a, sl_v, sp_p, sp_f1, sp_f2, sc_w, sc_c, sc_r, sc_f, sc_a, sc_k, pp_in, pp_al, ↓reduceIte, Nat.reduceEqDiff, Nat.reduceLT, Nat.reduceLeDiff, Nat.reduceAdd, Nat.reduceSub, Nat.reduceMul, List.length_cons, List.length_nil, true_and, and_true, and_self, true_implies, eq_self, not_true_eq_false, not_false_eq_true, false_implies, implies_true, false_and, and_false, Bool.false_eq_true, or_true, true_or, or_false, false_or, Classical.not_not, Nat.le_refl, Nat.lt_irrefl, Bool.true_eq_false, n_lit, n_a, n_c, n_s, n_b, n_m, n_g, n_w, n_n, rk_X9_shareOf, q]
      repeat' (first | ((with_reducible refine pp_go (pc := 25) (seg := sg_X9_shareOf_25) hh_X9_shareOf sk_X9_shareOf_25 ?_); simp (disch := omega) only [sg_X9_shareOf_25, sw_c, sw_n, sx, sf_4, sv_i, sv_j, sv_r, sv_q1, sv_q0, sv_1i, sv_1r, sv_2, sl_i, sl_j, sl_a, sl_v, sp_p, sp_f1, sp_f2, sc_w, sc_c, sc_r, sc_f, sc_a, sc_k, pp_in, pp_al, ↓reduceIte, Nat.reduceEqDiff, Nat.reduceLT, Nat.reduceLeDiff, Nat.reduceAdd, Nat.reduceSub, Nat.reduceMul, List.length_cons, List.length_nil, true_and, and_true, and_self, true_implies, eq_self, not_true_eq_false, not_false_eq_true, false_implies, implies_true, false_and, and_false, Bool.false_eq_true, or_true, true_or, or_false, false_or, Classical.not_not, Nat.le_refl, Nat.lt_irrefl, Bool.true_eq_false, n_lit, n_a, n_c, n_s, n_b, n_m, n_g, n_w, n_n, rk_X9_shareOf, hM]) | ((with_reducible refine pp_go (pc := 26) (seg := sg_X9_shareOf_26) hh_X9_shareOf sk_X9_shareOf_26 ?_); simp (disch := omega) only [sg_X9_shareOf_26, sw_c, sw_n, sx, sf_4, sv_i, sv_j, sv_r, sv_q1, sv_q0, sv_1i, sv_1r, sv_2, sl_i, sl_j, sl_a, sl_v, sp_p, sp_f1, sp_f2, sc_w, sc_c, sc_r, sc_f, sc_a, sc_k, pp_in, pp_al, ↓reduceIte, Nat.reduceEqDiff, Nat.reduceLT, Nat.reduceLeDiff, Nat.reduceAdd, Nat.reduceSub, Nat.reduceMul, List.length_cons, List.length_nil, true_and, and_true, and_self, true_implies, eq_self, not_true_eq_false, not_false_eq_true, false_implies, implies_true, false_and, and_false, Bool.false_eq_true, or_true, true_or, or_false, false_or, Classical.not_not, Nat.le_refl, Nat.lt_irrefl, Bool.true_eq_false, n_lit, n_a, n_c, n_s, n_b, n_m, n_g, n_w, n_n, rk_X9_shareOf, hM]) | (refine ⟨fun _ => ?_, fun _ => ?_⟩ <;> try (exfalso; omega)) | fail)
      refine m_thr1 hM rfl (by omega) ?_
      simp (disch := omega) only [sw_c, sw_n, sx, sf_4, sv_i, sv_j, sv_r, sv_q1, sv_q0, sv_1i, sv_1r, sv_2, sl_i, sl_j, sl_a, sl_v, sp_p, sp_f1, sp_f2, sc_w, sc_c, sc_r, sc_f, sc_a, sc_k, pp_in, pp_al, ↓reduceIte, Nat.reduceEqDiff, Nat.reduceLT, Nat.reduceLeDiff, Nat.reduceAdd, Nat.reduceSub, Nat.reduceMul, List.length_cons, List.length_nil, true_and, and_true, and_self, true_implies, eq_self, not_true_eq_false, not_false_eq_true, false_implies, implies_true, false_and, and_false, Bool.false_eq_true, or_true, true_or, or_false, false_or, Classical.not_not, Nat.le_refl, Nat.lt_irrefl, Bool.true_eq_false, n_lit, n_a, n_c, n_s, n_b, n_m, n_g, n_w, n_n, rk_X9_shareOf, hM]
      repeat' (first | ((with_reducible refine pp_go (pc := 33) (seg := sg_X9_shareOf_33) hh_X9_shareOf sk_X9_shareOf_33 ?_); simp (disch := omega) only [sg_X9_shareOf_33, sw_c, sw_n, sx, sf_4, sv_i, sv_j, sv_r, sv_q1, sv_q0, sv_1i, sv_1r, sv_2, sl_i, sl_j, sl_a, sl_v, sp_p, sp_f1, sp_f2, sc_w, sc_c, sc_r, sc_f, sc_a, sc_k, pp_in, pp_al, ↓reduceIte, Nat.reduceEqDiff, Nat.reduceLT, Nat.reduceLeDiff, Nat.reduceAdd, Nat.reduceSub, Nat.reduceMul, List.length_cons, List.length_nil, true_and, and_true, and_self, true_implies, eq_self, not_true_eq_false, not_false_eq_true, false_implies, implies_true, false_and, and_false, Bool.false_eq_true, or_true, true_or, or_false, false_or, Classical.not_not, Nat.le_refl, Nat.lt_irrefl, Bool.true_eq_false, n_lit, n_a, n_c, n_s, n_b, n_m, n_g, n_w, n_n, rk_X9_shareOf, hM, hN]) | (refine ⟨fun _ => ?_, fun _ => ?_⟩ <;> try (exfalso; omega)) | fail)
      exact hP
  · simp only [o_shareOf, wM, e1] at hP
    have hP := hP (tI I 1) J (fun a ha => pp_s_ne _ _ (by omega)) (by simp only [n_m, ↓reduceIte]) (fun _ _ _ => rfl)
    refine m_nM1 hM hN wG ho ?_
    simp (disch := omega) only [sw_c, sw_n, sx, sf_4, sv_i, sv_j, sv_r, sv_q1, sv_q0, sv_1i, sv_1r, sv_2, sl_i, sl_j, sl_a, sl_v, sp_p, sp_f1, sp_f2, sc_w, sc_c, sc_r, sc_f, sc_a, sc_k, pp_in, pp_al, ↓reduceIte, Nat.reduceEqDiff, Nat.reduceLT, Nat.reduceLeDiff, Nat.reduceAdd, Nat.reduceSub, Nat.reduceMul, List.length_cons, List.length_nil, true_and, and_true, and_self, true_implies, eq_self, not_true_eq_false, not_false_eq_true, false_implies, implies_true, false_and, and_false, Bool.false_eq_true, or_true, true_or, or_false, false_or, Classical.not_not, Nat.le_refl, Nat.lt_irrefl, Bool.true_eq_false, n_lit, n_a, n_c, n_s, n_b, n_m, n_g, n_w, n_n, rk_X9_shareOf, hM]
    repeat' (first | ((with_reducible refine pp_go (pc := 33) (seg := sg_X9_shareOf_33) hh_X9_shareOf sk_X9_shareOf_33 ?_); simp (disch := omega) only [sg_X9_shareOf_33, sw_c, sw_n, sx, sf_4, sv_i, sv_j, sv_r, sv_q1, sv_q0, sv_1i, sv_1r, sv_2, sl_i, sl_j, sl_a, sl_v, sp_p, sp_f1, sp_f2, sc_w, sc_c, sc_r, sc_f, sc_a, sc_k, pp_in, pp_al, ↓reduceIte, Nat.reduceEqDiff, Nat.reduceLT, Nat.reduceLeDiff, Nat.reduceAdd, Nat.reduceSub, Nat.reduceMul, List.length_cons, List.length_nil, true_and, and_true, and_self, true_implies, eq_self, not_true_eq_false, not_false_eq_true, false_implies, implies_true, false_and, and_false, Bool.false_eq_true, or_true, true_or, or_false, false_or, Classical.not_not, Nat.le_refl, Nat.lt_irrefl, Bool.true_eq_false, n_lit, n_a, n_c, n_s, n_b, n_m, n_g, n_w, n_n, rk_X9_shareOf, hM, hN]) | (refine ⟨fun _ => ?_, fun _ => ?_⟩ <;> try (exfalso; omega)) | fail)
    exact hP
end
