/-! THE CLASS, 16: reads formulas -/
set_option maxHeartbeats 2000000
set_option maxRecDepth 100000
abbrev fG (I I' : Nat → Nat → Int32) : Prop := (∀ a, a ≠ 94 → a ≠ 71 → a ≠ 72 → I' a = I a) ∧ I' 94 1 = I 94 1 ∧ (∀ k, k ≠ 1 → I' 71 k = I 71 k)
theorem fG.trans {I I1 I2 : Nat → Nat → Int32} (a : fG I I1) (b : fG I1 I2) : fG I I2 := ⟨fun i h1 h2 h3 => (b.1 i h1 h2 h3).trans (a.1 i h1 h2 h3), b.2.1.trans a.2.1, fun k h => (b.2.2 k h).trans (a.2.2 k h)⟩
theorem fG_B {I I' : Nat → Nat → Int32} (a : fB I I') : fG I I' := ⟨fun i h1 _ _ => a.1 i h1, a.2, fun k _ => by rw [a.1 71 (by omega)]⟩
theorem fG.refl (I : Nat → Nat → Int32) : fG I I := ⟨fun _ _ _ _ => rfl, rfl, fun _ _ => rfl⟩
abbrev lok (I : Nat → Nat → Int32) : Prop := ∃ m, m ≤ 700 ∧ I 71 1 = Int32.ofNat m
abbrev cC (I : Nat → Nat → Int32) (c : List Nat) : Prop := I 71 1 = Int32.ofNat c.length ∧ (∀ i, i < c.length → I 72 i = encC (c.getD i 0)) ∧ c.length ≤ 700
theorem cC_cg {I I' : Nat → Nat → Int32} {c : List Nat} (h : cC I c) (e1 : I' 71 = I 71) (e2 : I' 72 = I 72) : cC I' c := by
  simpa only [cC, e1, e2] using h
def pFc (sh : List (Nat × Nat)) (I : Nat → Nat → Int32) (J : Nat → Nat → Int64) (R : Nat → Nat → Option Nat) (P : pp_R → pp_W → Prop) (b : Nat → Nat) (n : Nat) (r : PR) : Prop := match r with
  | .inl e => ∀ I', fG I I' → lok I' → I' 94 4 = Int32.ofNat e.2 → P (.inl (some (.int (Int32.ofNat e.1)))) (sh, I', J, R)
  | .inr q => ∀ I', fG I I' → tC I' b n q.1 → cC I' q.2 → P (.inl (some (.int (Int32.ofNat 0)))) (sh, I', J, R)
theorem pFc_fr {sh : List (Nat × Nat)} {I I1 : Nat → Nat → Int32} {J : Nat → Nat → Int64} {R : Nat → Nat → Option Nat} {P : pp_R → pp_W → Prop} {b : Nat → Nat} {n : Nat} {r : PR} (hf : fG I I1) (h : pFc sh I J R P b n r) : pFc sh I1 J R P b n r := by
  cases r with
  | inl e => exact fun I' a b c => h I' (fG.trans hf a) b c
  | inr q => exact fun I' a b c => h I' (fG.trans hf a) b c
abbrev eok (F : TK → List Nat → PR) : Prop := ∀ t c e, F t c = .inl e → 0 < e.1 ∧ e.1 < 5
def cSC (g : pp_G) (h : Nat) (mi : pp_MI) (b : Nat → Nat) (n : Nat) (F : TK → List Nat → PR) (o : Nat) : Prop := ∀ (sh : List (Nat × Nat)) (I : Nat → Nat → Int32) (J : Nat → Nat → Int64) (R : Nat → Nat → Option Nat) (P : pp_R → pp_W → Prop) (t : TK) (c : List Nat), sC sh R → xC I b n → tC I b n t → cC I c → c.length ≤ t.2.1 → pFc sh I J R P b n (F t c) → pp_MW g h mi [.ref 66, .int (Int32.ofNat o)] (sh, I, J, R) P
theorem eok_fac {b : Nat → Nat} {n : Nat} {op : Option (TK → List Nat → PR)} (h : ∀ s, op = some s → eok s) : eok (fac b n op) := by
  intro t c e he
  unfold fac at he
  by_cases q : sgP t 40
  · rw [if_pos q] at he
    cases op with
    | none => cases he; exact ⟨by show 0 < 4; omega, by show 4 < 5; omega⟩
    | some s =>
      simp only [] at he
      cases hs : s (nxt b n t) c with
      | inl x => rw [hs] at he; cases he; exact h s rfl _ _ _ hs
      | inr r =>
        rw [hs] at he
        simp only [] at he
        split at he
        · cases he
        · cases he; exact ⟨by show 0 < 1; omega, by show 1 < 5; omega⟩
  · rw [if_neg q] at he
    split at he
    · cases he
    · split at he
      · cases he
      · split at he
        · cases he
        · split at he
          · cases he
          · cases he; exact ⟨by show 0 < 1; omega, by show 1 < 5; omega⟩
theorem eok_lop {b : Nat → Nat} {n x y kx ky : Nat} {F : TK → List Nat → PR} (h : eok F) : ∀ f, eok (lop b n x y kx ky F f) := by
  intro f
  induction f with
  | zero => intro t c e he; rw [lop] at he; cases he
  | succ f ih =>
    intro t c e he
    rw [lop] at he
    split at he
    · cases hs : F (nxt b n t) c with
      | inl z => rw [hs] at he; cases he; exact h _ _ _ hs
      | inr r => rw [hs] at he; exact ih _ _ _ he
    · cases he
theorem eok_jnd {b : Nat → Nat} {n x y kx ky : Nat} {F : TK → List Nat → PR} (h : eok F) : eok (jnd b n x y kx ky F) := by
  intro t c e he
  rw [jnd] at he
  cases hs : F t c with
  | inl z => rw [hs] at he; cases he; exact h _ _ _ hs
  | inr r => rw [hs] at he; exact eok_lop h _ _ _ _ he
theorem eok_sumN {b : Nat → Nat} {n : Nat} : ∀ r, eok (sumN b n r) ∧ eok (trm b n (opN b n r)) ∧ eok (fac b n (opN b n r)) := by
  have step : ∀ r, (∀ s, opN b n r = some s → eok s) → eok (sumN b n r) ∧ eok (trm b n (opN b n r)) ∧ eok (fac b n (opN b n r)) := fun r hr => by
    have f := eok_fac (b := b) (n := n) hr
    have t : eok (trm b n (opN b n r)) := eok_jnd f
    exact ⟨eok_jnd t, t, f⟩
  intro r
  induction r with
  | zero => exact step 0 (fun s hs => by cases hs)
  | succ r ih =>
    refine step (r + 1) (fun s hs => ?_)
    rw [opN] at hs
    cases hs
    exact ih.1
section
variable {g : pp_G} {h : Nat} {sh : List (Nat × Nat)} {I : Nat → Nat → Int32} {J : Nat → Nat → Int64} {R : Nat → Nat → Option Nat} {w : pp_W} {P : pp_R → pp_W → Prop} {b : Nat → Nat} {n : Nat} {t : TK}
theorem c_isSign {c : Nat} (hC : sC sh R) (ht : tC I b n t) (hc : c < 256) (hP : P (.inl (some (bI (sgP t c)))) (sh, I, J, R)) : pp_MW g (h + 1) mi_X7_isSign [.ref 94, .int (Int32.ofNat c)] (sh, I, J, R) P := by
  refine pp_st0 [(0, .ref 94), (1, .int (Int32.ofNat c))] ok_X7_isSign rfl (Nat.le_of_ble_eq_true rfl) rfl ?_
  have tb := tk_b ht.1
  obtain ⟨-, e14, e12, e13, e15⟩ := ht
  by_cases k3 : t.1 = 3
  · have e15 := e15 (Or.inr k3)
    have v := tb.2.2.2.2.2.2 k3
    refine pp_go rfl sk_X7_isSign_0 ?_
    simp (disch := omega) only [sg_X7_isSign_0, sw_c, sw_n, sx, sf_4, sv_i, sv_j, sv_r, sv_q1, sv_q0, sv_1i, sv_1r, sv_2, sl_i, sl_j, sl_a, sl_v, sp_p, sp_f1, sp_f2, sc_w, sc_c, sc_r, sc_f, sc_a, sc_k, pp_in, pp_al, ↓reduceIte, Nat.reduceEqDiff, Nat.reduceLT, Nat.reduceLeDiff, Nat.reduceAdd, Nat.reduceSub, Nat.reduceMul, List.length_cons, List.length_nil, true_and, and_true, and_self, true_implies, eq_self, not_true_eq_false, not_false_eq_true, false_implies, implies_true, false_and, and_false, Bool.false_eq_true, or_true, true_or, or_false, false_or, Classical.not_not, Nat.le_refl, Nat.lt_irrefl, Bool.true_eq_false, n_lit, n_a, n_c, n_s, n_b, n_m, n_g, n_w, n_n, rk_X7_isSign, hC, e14, e15, k3]
    repeat' (first | ((with_reducible refine pp_go (pc := 20) (seg := sg_X7_isSign_20) hh_X7_isSign sk_X7_isSign_20 ?_); simp (disch := omega) only [sg_X7_isSign_20, sw_c, sw_n, sx, sf_4, sv_i, sv_j, sv_r, sv_q1, sv_q0, sv_1i, sv_1r, sv_2, sl_i, sl_j, sl_a, sl_v, sp_p, sp_f1, sp_f2, sc_w, sc_c, sc_r, sc_f, sc_a, sc_k, pp_in, pp_al, ↓reduceIte, Nat.reduceEqDiff, Nat.reduceLT, Nat.reduceLeDiff, Nat.reduceAdd, Nat.reduceSub, Nat.reduceMul, List.length_cons, List.length_nil, true_and, and_true, and_self, true_implies, eq_self, not_true_eq_false, not_false_eq_true, false_implies, implies_true, false_and, and_false, Bool.false_eq_true, or_true, true_or, or_false, false_or, Classical.not_not, Nat.le_refl, Nat.lt_irrefl, Bool.true_eq_false, n_lit, n_a, n_c, n_s, n_b, n_m, n_g, n_w, n_n, rk_X7_isSign]) | ((with_reducible refine pp_go (pc := 21) (seg := sg_X7_isSign_21) hh_X7_isSign sk_X7_isSign_21 ?_); simp (disch := omega) only [sg_X7_isSign_21, sw_c, sw_n, sx, sf_4, sv_i, sv_j, sv_r, sv_q1, sv_q0, sv_1i, sv_1r, sv_2, sl_i, sl_j, sl_a, sl_v, sp_p, sp_f1, sp_f2, sc_w, sc_c, sc_r, sc_f, sc_a, sc_k, pp_in, pp_al, ↓reduceIte, Nat.reduceEqDiff, Nat.reduceLT, Nat.reduceLeDiff, Nat.reduceAdd, Nat.reduceSub, Nat.reduceMul, List.length_cons, List.length_nil, true_and, and_true, and_self, true_implies, eq_self, not_true_eq_false, not_false_eq_true, false_implies, implies_true, false_and, and_false, Bool.false_eq_true, or_true, true_or, or_false, false_or, Classical.not_not, Nat.le_refl, Nat.lt_irrefl, Bool.true_eq_false, n_lit, n_a, n_c, n_s, n_b, n_m, n_g, n_w, n_n, rk_X7_isSign]) | (refine ⟨fun _ => ?_, fun _ => ?_⟩ <;> try (exfalso; omega)) | fail)
    all_goals (first | exact hP | (rw [bI_t (by omega)] at hP; exact hP) | (rw [bI_f (by omega)] at hP; exact hP) | (rw [if_pos (by omega)] at hP; exact hP) | (rw [if_neg (by omega)] at hP; exact hP))
  · refine pp_go rfl sk_X7_isSign_0 ?_
    simp (disch := omega) only [sg_X7_isSign_0, sw_c, sw_n, sx, sf_4, sv_i, sv_j, sv_r, sv_q1, sv_q0, sv_1i, sv_1r, sv_2, sl_i, sl_j, sl_a, sl_v, sp_p, sp_f1, sp_f2, sc_w, sc_c, sc_r, sc_f, sc_a, sc_k, pp_in, pp_al, ↓reduceIte, Nat.reduceEqDiff, Nat.reduceLT, Nat.reduceLeDiff, Nat.reduceAdd, Nat.reduceSub, Nat.reduceMul, List.length_cons, List.length_nil, true_and, and_true, and_self, true_implies, eq_self, not_true_eq_false, not_false_eq_true, false_implies, implies_true, false_and, and_false, Bool.false_eq_true, or_true, true_or, or_false, false_or, Classical.not_not, Nat.le_refl, Nat.lt_irrefl, Bool.true_eq_false, n_lit, n_a, n_c, n_s, n_b, n_m, n_g, n_w, n_n, rk_X7_isSign, hC, e14, k3]
    repeat' (first | ((with_reducible refine pp_go (pc := 20) (seg := sg_X7_isSign_20) hh_X7_isSign sk_X7_isSign_20 ?_); simp (disch := omega) only [sg_X7_isSign_20, sw_c, sw_n, sx, sf_4, sv_i, sv_j, sv_r, sv_q1, sv_q0, sv_1i, sv_1r, sv_2, sl_i, sl_j, sl_a, sl_v, sp_p, sp_f1, sp_f2, sc_w, sc_c, sc_r, sc_f, sc_a, sc_k, pp_in, pp_al, ↓reduceIte, Nat.reduceEqDiff, Nat.reduceLT, Nat.reduceLeDiff, Nat.reduceAdd, Nat.reduceSub, Nat.reduceMul, List.length_cons, List.length_nil, true_and, and_true, and_self, true_implies, eq_self, not_true_eq_false, not_false_eq_true, false_implies, implies_true, false_and, and_false, Bool.false_eq_true, or_true, true_or, or_false, false_or, Classical.not_not, Nat.le_refl, Nat.lt_irrefl, Bool.true_eq_false, n_lit, n_a, n_c, n_s, n_b, n_m, n_g, n_w, n_n, rk_X7_isSign]) | ((with_reducible refine pp_go (pc := 21) (seg := sg_X7_isSign_21) hh_X7_isSign sk_X7_isSign_21 ?_); simp (disch := omega) only [sg_X7_isSign_21, sw_c, sw_n, sx, sf_4, sv_i, sv_j, sv_r, sv_q1, sv_q0, sv_1i, sv_1r, sv_2, sl_i, sl_j, sl_a, sl_v, sp_p, sp_f1, sp_f2, sc_w, sc_c, sc_r, sc_f, sc_a, sc_k, pp_in, pp_al, ↓reduceIte, Nat.reduceEqDiff, Nat.reduceLT, Nat.reduceLeDiff, Nat.reduceAdd, Nat.reduceSub, Nat.reduceMul, List.length_cons, List.length_nil, true_and, and_true, and_self, true_implies, eq_self, not_true_eq_false, not_false_eq_true, false_implies, implies_true, false_and, and_false, Bool.false_eq_true, or_true, true_or, or_false, false_or, Classical.not_not, Nat.le_refl, Nat.lt_irrefl, Bool.true_eq_false, n_lit, n_a, n_c, n_s, n_b, n_m, n_g, n_w, n_n, rk_X7_isSign]) | (refine ⟨fun _ => ?_, fun _ => ?_⟩ <;> try (exfalso; omega)) | fail)
    first | exact hP | (rw [bI_t (by omega)] at hP; exact hP) | (rw [bI_f (by omega)] at hP; exact hP) | (rw [if_pos (by omega)] at hP; exact hP) | (rw [if_neg (by omega)] at hP; exact hP)
theorem c_iW_l {i s e : Nat} {l : List Nat} (hC : sC sh R) (hx : xC I b n) (hi : i < 15) (h12 : I 94 4 = Int32.ofNat s) (hl : wtx.getD i [] = l) (hs : s + l.length ≤ n) :
    ∀ (rest : List Nat) (k : Nat), k + rest.length = l.length → (∀ j, j < rest.length → l.getD (k + j) 0 = rest.getD j 0) → P (.inl (some (bI (mtc b (s + k) rest = true)))) (sh, I, J, R) → pp_N g (h + 4) mi_X7_isWord P 28 [(0, .ref 94), (1, .ref (i + 1)), (2, .int (Int32.ofNat k))] [] (sh, I, J, R) := by
  have h7 := hx.2.2.1
  have hw := wtx_len i hi
  rw [hl] at hw
  intro rest
  induction rest with
  | nil =>
    intro k hk _ hP
    rw [List.length_nil] at hk
    rw [mtc, bI_t rfl] at hP
    have q1 : l.length ≤ k := by omega
    refine pp_go rfl sk_X7_isWord_28 ?_
    simp (disch := omega) only [sg_X7_isWord_28, sw_c, sw_n, sx, sf_4, sv_i, sv_j, sv_r, sv_q1, sv_q0, sv_1i, sv_1r, sv_2, sl_i, sl_j, sl_a, sl_v, sp_p, sp_f1, sp_f2, sc_w, sc_c, sc_r, sc_f, sc_a, sc_k, pp_in, pp_al, ↓reduceIte, Nat.reduceEqDiff, Nat.reduceLT, Nat.reduceLeDiff, Nat.reduceAdd, Nat.reduceSub, Nat.reduceMul, List.length_cons, List.length_nil, true_and, and_true, and_self, true_implies, eq_self, not_true_eq_false, not_false_eq_true, false_implies, implies_true, false_and, and_false, Bool.false_eq_true, or_true, true_or, or_false, false_or, Classical.not_not, Nat.le_refl, Nat.lt_irrefl, Bool.true_eq_false, n_lit, n_a, n_c, n_s, n_b, n_m, n_g, n_w, n_n, rk_X7_isWord]
    refine ⟨by omega, ?_⟩
    refine j_length hi ?_
    rw [hl]
    simp (disch := omega) only [sw_c, sw_n, sx, sf_4, sv_i, sv_j, sv_r, sv_q1, sv_q0, sv_1i, sv_1r, sv_2, sl_i, sl_j, sl_a, sl_v, sp_p, sp_f1, sp_f2, sc_w, sc_c, sc_r, sc_f, sc_a, sc_k, pp_in, pp_al, ↓reduceIte, Nat.reduceEqDiff, Nat.reduceLT, Nat.reduceLeDiff, Nat.reduceAdd, Nat.reduceSub, Nat.reduceMul, List.length_cons, List.length_nil, true_and, and_true, and_self, true_implies, eq_self, not_true_eq_false, not_false_eq_true, false_implies, implies_true, false_and, and_false, Bool.false_eq_true, or_true, true_or, or_false, false_or, Classical.not_not, Nat.le_refl, Nat.lt_irrefl, Bool.true_eq_false, n_lit, n_a, n_c, n_s, n_b, n_m, n_g, n_w, n_n, rk_X7_isWord, q1]
    repeat' (first | ((with_reducible refine pp_go (pc := 63) (seg := sg_X7_isWord_63) hh_X7_isWord sk_X7_isWord_63 ?_); simp (disch := omega) only [sg_X7_isWord_63, sw_c, sw_n, sx, sf_4, sv_i, sv_j, sv_r, sv_q1, sv_q0, sv_1i, sv_1r, sv_2, sl_i, sl_j, sl_a, sl_v, sp_p, sp_f1, sp_f2, sc_w, sc_c, sc_r, sc_f, sc_a, sc_k, pp_in, pp_al, ↓reduceIte, Nat.reduceEqDiff, Nat.reduceLT, Nat.reduceLeDiff, Nat.reduceAdd, Nat.reduceSub, Nat.reduceMul, List.length_cons, List.length_nil, true_and, and_true, and_self, true_implies, eq_self, not_true_eq_false, not_false_eq_true, false_implies, implies_true, false_and, and_false, Bool.false_eq_true, or_true, true_or, or_false, false_or, Classical.not_not, Nat.le_refl, Nat.lt_irrefl, Bool.true_eq_false, n_lit, n_a, n_c, n_s, n_b, n_m, n_g, n_w, n_n, rk_X7_isWord]) | (refine ⟨fun _ => ?_, fun _ => ?_⟩ <;> try (exfalso; omega)) | fail)
    exact hP
  | cons c rest ih =>
    intro k hk hj hP
    rw [List.length_cons] at hk
    have hc : l.getD k 0 = c := hj 0 (by rw [List.length_cons]; omega)
    have q1 : ¬ l.length ≤ k := by omega
    have ec := wtx_at i hi k (by rw [hl]; omega)
    rw [hl, hc] at ec
    have et := hx.2.1 (s + k) (by omega)
    have eq := (sgn_le (b (s + k)) c (hx.2.2.2 _) ec.2).2.2.2.2
    rw [mtc] at hP
    refine pp_go rfl sk_X7_isWord_28 ?_
    simp (disch := omega) only [sg_X7_isWord_28, sw_c, sw_n, sx, sf_4, sv_i, sv_j, sv_r, sv_q1, sv_q0, sv_1i, sv_1r, sv_2, sl_i, sl_j, sl_a, sl_v, sp_p, sp_f1, sp_f2, sc_w, sc_c, sc_r, sc_f, sc_a, sc_k, pp_in, pp_al, ↓reduceIte, Nat.reduceEqDiff, Nat.reduceLT, Nat.reduceLeDiff, Nat.reduceAdd, Nat.reduceSub, Nat.reduceMul, List.length_cons, List.length_nil, true_and, and_true, and_self, true_implies, eq_self, not_true_eq_false, not_false_eq_true, false_implies, implies_true, false_and, and_false, Bool.false_eq_true, or_true, true_or, or_false, false_or, Classical.not_not, Nat.le_refl, Nat.lt_irrefl, Bool.true_eq_false, n_lit, n_a, n_c, n_s, n_b, n_m, n_g, n_w, n_n, rk_X7_isWord]
    refine ⟨by omega, ?_⟩
    refine j_length hi ?_
    rw [hl]
    simp (disch := omega) only [sw_c, sw_n, sx, sf_4, sv_i, sv_j, sv_r, sv_q1, sv_q0, sv_1i, sv_1r, sv_2, sl_i, sl_j, sl_a, sl_v, sp_p, sp_f1, sp_f2, sc_w, sc_c, sc_r, sc_f, sc_a, sc_k, pp_in, pp_al, ↓reduceIte, Nat.reduceEqDiff, Nat.reduceLT, Nat.reduceLeDiff, Nat.reduceAdd, Nat.reduceSub, Nat.reduceMul, List.length_cons, List.length_nil, true_and, and_true, and_self, true_implies, eq_self, not_true_eq_false, not_false_eq_true, false_implies, implies_true, false_and, and_false, Bool.false_eq_true, or_true, true_or, or_false, false_or, Classical.not_not, Nat.le_refl, Nat.lt_irrefl, Bool.true_eq_false, n_lit, n_a, n_c, n_s, n_b, n_m, n_g, n_w, n_n, rk_X7_isWord, q1, hC, h12, et]
    refine ⟨by omega, ?_⟩
    refine j_charAt hi (by rw [hl]; omega) ?_
    rw [hl, hc]
    simp (disch := omega) only [sw_c, sw_n, sx, sf_4, sv_i, sv_j, sv_r, sv_q1, sv_q0, sv_1i, sv_1r, sv_2, sl_i, sl_j, sl_a, sl_v, sp_p, sp_f1, sp_f2, sc_w, sc_c, sc_r, sc_f, sc_a, sc_k, pp_in, pp_al, ↓reduceIte, Nat.reduceEqDiff, Nat.reduceLT, Nat.reduceLeDiff, Nat.reduceAdd, Nat.reduceSub, Nat.reduceMul, List.length_cons, List.length_nil, true_and, and_true, and_self, true_implies, eq_self, not_true_eq_false, not_false_eq_true, false_implies, implies_true, false_and, and_false, Bool.false_eq_true, or_true, true_or, or_false, false_or, Classical.not_not, Nat.le_refl, Nat.lt_irrefl, Bool.true_eq_false, n_lit, n_a, n_c, n_s, n_b, n_m, n_g, n_w, n_n, rk_X7_isWord, eq]
    refine ⟨fun q => ?_, fun q => ?_⟩
    · refine pp_go rfl sk_X7_isWord_57 ?_
      simp (disch := omega) only [sg_X7_isWord_57, sw_c, sw_n, sx, sf_4, sv_i, sv_j, sv_r, sv_q1, sv_q0, sv_1i, sv_1r, sv_2, sl_i, sl_j, sl_a, sl_v, sp_p, sp_f1, sp_f2, sc_w, sc_c, sc_r, sc_f, sc_a, sc_k, pp_in, pp_al, ↓reduceIte, Nat.reduceEqDiff, Nat.reduceLT, Nat.reduceLeDiff, Nat.reduceAdd, Nat.reduceSub, Nat.reduceMul, List.length_cons, List.length_nil, true_and, and_true, and_self, true_implies, eq_self, not_true_eq_false, not_false_eq_true, false_implies, implies_true, false_and, and_false, Bool.false_eq_true, or_true, true_or, or_false, false_or, Classical.not_not, Nat.le_refl, Nat.lt_irrefl, Bool.true_eq_false, n_lit, n_a, n_c, n_s, n_b, n_m, n_g, n_w, n_n, rk_X7_isWord]
      refine ih (k + 1) (by omega) (fun j hjl => ?_) ?_
      · have := hj (j + 1) (by rw [List.length_cons]; omega)
        rw [show k + 1 + j = k + (j + 1) by omega, this]
        rfl
      · rw [show s + (k + 1) = s + k + 1 by omega]
        simpa [q] using hP
    · rw [bI_f (by simp [q])] at hP
      exact hP
theorem c_isWord {i : Nat} (hC : sC sh R) (hx : xC I b n) (ht : tC I b n t) (hi : i < 15) (hP : P (.inl (some (bI (isw b t i = true)))) (sh, I, J, R)) : pp_MW g (h + 5) mi_X7_isWord [.ref 94, .ref (i + 1)] (sh, I, J, R) P := by
  refine pp_st0 [(0, .ref 94), (1, .ref (i + 1))] ok_X7_isWord rfl (Nat.le_of_ble_eq_true rfl) rfl ?_
  have h7 := hx.2.2.1
  have hw := wtx_len i hi
  have tb := tk_b ht.1
  obtain ⟨-, e14, e12, e13, -⟩ := ht
  have KF : ¬ isw b t i = true → pp_N g (h + 4) mi_X7_isWord P 24 [(0, .ref 94), (1, .ref (i + 1))] [] (sh, I, J, R) := by
    intro z
    rw [bI_f z] at hP
    refine pp_go rfl sk_X7_isWord_24 ?_
    simp (disch := omega) only [sg_X7_isWord_24, sw_c, sw_n, sx, sf_4, sv_i, sv_j, sv_r, sv_q1, sv_q0, sv_1i, sv_1r, sv_2, sl_i, sl_j, sl_a, sl_v, sp_p, sp_f1, sp_f2, sc_w, sc_c, sc_r, sc_f, sc_a, sc_k, pp_in, pp_al, ↓reduceIte, Nat.reduceEqDiff, Nat.reduceLT, Nat.reduceLeDiff, Nat.reduceAdd, Nat.reduceSub, Nat.reduceMul, List.length_cons, List.length_nil, true_and, and_true, and_self, true_implies, eq_self, not_true_eq_false, not_false_eq_true, false_implies, implies_true, false_and, and_false, Bool.false_eq_true, or_true, true_or, or_false, false_or, Classical.not_not, Nat.le_refl, Nat.lt_irrefl, Bool.true_eq_false, n_lit, n_a, n_c, n_s, n_b, n_m, n_g, n_w, n_n, rk_X7_isWord]
    exact hP
  refine pp_go rfl sk_X7_isWord_0 ?_
  simp (disch := omega) only [sg_X7_isWord_0, sw_c, sw_n, sx, sf_4, sv_i, sv_j, sv_r, sv_q1, sv_q0, sv_1i, sv_1r, sv_2, sl_i, sl_j, sl_a, sl_v, sp_p, sp_f1, sp_f2, sc_w, sc_c, sc_r, sc_f, sc_a, sc_k, pp_in, pp_al, ↓reduceIte, Nat.reduceEqDiff, Nat.reduceLT, Nat.reduceLeDiff, Nat.reduceAdd, Nat.reduceSub, Nat.reduceMul, List.length_cons, List.length_nil, true_and, and_true, and_self, true_implies, eq_self, not_true_eq_false, not_false_eq_true, false_implies, implies_true, false_and, and_false, Bool.false_eq_true, or_true, true_or, or_false, false_or, Classical.not_not, Nat.le_refl, Nat.lt_irrefl, Bool.true_eq_false, n_lit, n_a, n_c, n_s, n_b, n_m, n_g, n_w, n_n, rk_X7_isWord, hC, e14, e12, e13]
  refine ⟨fun q => ?_, fun q => ⟨by omega, ?_⟩⟩
  · exact KF (fun z => q (isw_1 z))
  · refine j_length hi ?_
    simp (disch := omega) only [sw_c, sw_n, sx, sf_4, sv_i, sv_j, sv_r, sv_q1, sv_q0, sv_1i, sv_1r, sv_2, sl_i, sl_j, sl_a, sl_v, sp_p, sp_f1, sp_f2, sc_w, sc_c, sc_r, sc_f, sc_a, sc_k, pp_in, pp_al, ↓reduceIte, Nat.reduceEqDiff, Nat.reduceLT, Nat.reduceLeDiff, Nat.reduceAdd, Nat.reduceSub, Nat.reduceMul, List.length_cons, List.length_nil, true_and, and_true, and_self, true_implies, eq_self, not_true_eq_false, not_false_eq_true, false_implies, implies_true, false_and, and_false, Bool.false_eq_true, or_true, true_or, or_false, false_or, Classical.not_not, Nat.le_refl, Nat.lt_irrefl, Bool.true_eq_false, n_lit, n_a, n_c, n_s, n_b, n_m, n_g, n_w, n_n, rk_X7_isWord]
    refine ⟨fun q2 => ?_, fun q2 => ?_⟩
    · refine pp_go rfl sk_X7_isWord_26 ?_
      simp (disch := omega) only [sg_X7_isWord_26, sw_c, sw_n, sx, sf_4, sv_i, sv_j, sv_r, sv_q1, sv_q0, sv_1i, sv_1r, sv_2, sl_i, sl_j, sl_a, sl_v, sp_p, sp_f1, sp_f2, sc_w, sc_c, sc_r, sc_f, sc_a, sc_k, pp_in, pp_al, ↓reduceIte, Nat.reduceEqDiff, Nat.reduceLT, Nat.reduceLeDiff, Nat.reduceAdd, Nat.reduceSub, Nat.reduceMul, List.length_cons, List.length_nil, true_and, and_true, and_self, true_implies, eq_self, not_true_eq_false, not_false_eq_true, false_implies, implies_true, false_and, and_false, Bool.false_eq_true, or_true, true_or, or_false, false_or, Classical.not_not, Nat.le_refl, Nat.lt_irrefl, Bool.true_eq_false, n_lit, n_a, n_c, n_s, n_b, n_m, n_g, n_w, n_n, rk_X7_isWord]
      refine c_iW_l (e := 0) hC hx hi e12 rfl (by omega) (wtx.getD i []) 0 (by omega) (fun j hj => by rw [Nat.zero_add]) ?_
      have e : (isw b t i = true) = (mtc b (t.2.1 + 0) (wtx.getD i []) = true) := by simp [isw, q, q2]
      by_cases z : isw b t i = true
      · rw [bI_t z] at hP
        rw [bI_t (e ▸ z)]
        exact hP
      · rw [bI_f z] at hP
        rw [bI_f (fun y => z (e ▸ y))]
        exact hP
    · exact KF (fun z => q2 (by simp only [isw, Bool.and_eq_true, beq_iff_eq] at z; exact z.2.1))
theorem c_add {F K m : Nat} {v : Int32} (hF : sh[F]? = some (2, 0)) (hK : sh[K]? = some (10, 700)) (hR : R F 0 = some K) (ne : (F = K) = False ∧ (K = F) = False) (hm : I F 1 = Int32.ofNat m) (h7 : m ≤ 700) (hP : ∀ I', (∀ a, a ≠ F → a ≠ K → I' a = I a) → (∀ k, k ≠ 1 → I' F k = I F k) → (∃ m', m' ≤ 700 ∧ I' F 1 = Int32.ofNat m') → (m < 700 → I' F 1 = Int32.ofNat (m + 1) ∧ I' K m = v ∧ ∀ j, j ≠ m → I' K j = I K j) → P (.inl none) (sh, I', J, R)) : pp_MW g (h + 1) mi_X2_add [.ref F, .int v] (sh, I, J, R) P := by
  refine pp_st0 [(0, .ref F), (1, .int v)] ok_X2_add rfl (Nat.le_of_ble_eq_true rfl) rfl ?_
  by_cases c : 700 ≤ m
  · refine pp_go rfl sk_X2_add_0 ?_
    simp (disch := omega) only [sg_X2_add_0, sw_c, sw_n, sx, sf_4, sv_i, sv_j, sv_r, sv_q1, sv_q0, sv_1i, sv_1r, sv_2, sl_i, sl_j, sl_a, sl_v, sp_p, sp_f1, sp_f2, sc_w, sc_c, sc_r, sc_f, sc_a, sc_k, pp_in, pp_al, ↓reduceIte, Nat.reduceEqDiff, Nat.reduceLT, Nat.reduceLeDiff, Nat.reduceAdd, Nat.reduceSub, Nat.reduceMul, List.length_cons, List.length_nil, true_and, and_true, and_self, true_implies, eq_self, not_true_eq_false, not_false_eq_true, false_implies, implies_true, false_and, and_false, Bool.false_eq_true, or_true, true_or, or_false, false_or, Classical.not_not, Nat.le_refl, Nat.lt_irrefl, Bool.true_eq_false, n_lit, n_a, n_c, n_s, n_b, n_m, n_g, n_w, n_n, hF, hK, hR, hm, c]
    refine pp_go rfl sk_X2_add_32 ?_
    simp (disch := omega) only [sg_X2_add_32, sw_c, sw_n, sx, sf_4, sv_i, sv_j, sv_r, sv_q1, sv_q0, sv_1i, sv_1r, sv_2, sl_i, sl_j, sl_a, sl_v, sp_p, sp_f1, sp_f2, sc_w, sc_c, sc_r, sc_f, sc_a, sc_k, pp_in, pp_al, ↓reduceIte, Nat.reduceEqDiff, Nat.reduceLT, Nat.reduceLeDiff, Nat.reduceAdd, Nat.reduceSub, Nat.reduceMul, List.length_cons, List.length_nil, true_and, and_true, and_self, true_implies, eq_self, not_true_eq_false, not_false_eq_true, false_implies, implies_true, false_and, and_false, Bool.false_eq_true, or_true, true_or, or_false, false_or, Classical.not_not, Nat.le_refl, Nat.lt_irrefl, Bool.true_eq_false, n_lit, n_a, n_c, n_s, n_b, n_m, n_g, n_w, n_n]
    exact hP I (fun _ _ _ => rfl) (fun _ _ => rfl) ⟨m, h7, hm⟩ (fun z => absurd z (by omega))
  · refine pp_go rfl sk_X2_add_0 ?_
    simp (disch := omega) only [sg_X2_add_0, sw_c, sw_n, sx, sf_4, sv_i, sv_j, sv_r, sv_q1, sv_q0, sv_1i, sv_1r, sv_2, sl_i, sl_j, sl_a, sl_v, sp_p, sp_f1, sp_f2, sc_w, sc_c, sc_r, sc_f, sc_a, sc_k, pp_in, pp_al, ↓reduceIte, Nat.reduceEqDiff, Nat.reduceLT, Nat.reduceLeDiff, Nat.reduceAdd, Nat.reduceSub, Nat.reduceMul, List.length_cons, List.length_nil, true_and, and_true, and_self, true_implies, eq_self, not_true_eq_false, not_false_eq_true, false_implies, implies_true, false_and, and_false, Bool.false_eq_true, or_true, true_or, or_false, false_or, Classical.not_not, Nat.le_refl, Nat.lt_irrefl, Bool.true_eq_false, n_lit, n_a, n_c, n_s, n_b, n_m, n_g, n_w, n_n, hF, hK, hR, hm, c, ne]
    refine pp_go rfl sk_X2_add_32 ?_
    simp (disch := omega) only [sg_X2_add_32, sw_c, sw_n, sx, sf_4, sv_i, sv_j, sv_r, sv_q1, sv_q0, sv_1i, sv_1r, sv_2, sl_i, sl_j, sl_a, sl_v, sp_p, sp_f1, sp_f2, sc_w, sc_c, sc_r, sc_f, sc_a, sc_k, pp_in, pp_al, ↓reduceIte, Nat.reduceEqDiff, Nat.reduceLT, Nat.reduceLeDiff, Nat.reduceAdd, Nat.reduceSub, Nat.reduceMul, List.length_cons, List.length_nil, true_and, and_true, and_self, true_implies, eq_self, not_true_eq_false, not_false_eq_true, false_implies, implies_true, false_and, and_false, Bool.false_eq_true, or_true, true_or, or_false, false_or, Classical.not_not, Nat.le_refl, Nat.lt_irrefl, Bool.true_eq_false, n_lit, n_a, n_c, n_s, n_b, n_m, n_g, n_w, n_n]
    have n1 : F ≠ K := fun e => by rw [ne.1] at e; exact e
    refine hP _ (fun a x y => ?_) (fun k hk => ?_) ⟨m + 1, by omega, ?_⟩ (fun _ => ⟨?_, ?_, fun j hj => ?_⟩)
    · simp only [n_m]; rw [if_neg x, if_neg y]
    · simp only [n_m, ↓reduceIte]; rw [if_neg hk]
    · simp only [n_m, ↓reduceIte]
    · simp only [n_m, ↓reduceIte]
    · simp only [n_m, ne, ↓reduceIte]
    · simp only [n_m, ne, ↓reduceIte]; rw [if_neg hj]
theorem c_addP {c : List Nat} {e : Nat} {v : Int32} (hC : sC sh R) (hc : cC I c) (hl : c.length < 700) (hv : v = encC e) (hP : ∀ I', fG I I' → I' 94 = I 94 → cC I' (c ++ [e]) → P (.inl none) (sh, I', J, R)) : pp_MW g (h + 1) mi_X2_add [.ref 71, .int v] (sh, I, J, R) P := by
  refine c_add (F := 71) (K := 72) hC.2.2.2.1.2.2.2.2.1 hC.2.2.2.1.2.2.2.2.2.1 hC.2.2.2.1.2.2.2.2.2.2.2.2.2.2.2.1 ⟨by simp, by simp⟩ hc.1 hc.2.2 (fun I' a1 a2 a3 a4 => ?_)
  have z := a4 hl
  refine hP I' ⟨fun a x y z => a1 a y z, by rw [a1 94 (by omega) (by omega)], a2⟩ (a1 94 (by omega) (by omega)) ⟨?_, fun i hi => ?_, ?_⟩
  · rw [z.1, List.length_append, List.length_cons, List.length_nil]
  · rw [List.length_append, List.length_cons, List.length_nil] at hi
    by_cases y : i = c.length
    · rw [y, z.2.1, hv]; simp
    · rw [z.2.2 i y, hc.2.1 i (by omega)]
      simp [List.getElem?_append_left (show i < c.length by omega)]
  · rw [List.length_append, List.length_cons, List.length_nil]; omega
theorem c_factor {o : Nat} {op : Option (TK → List Nat → PR)} (hop : (o = 5 ∧ op = none) ∨ (o < 5 ∧ ∃ s, op = some s ∧ eok s ∧ cSC g (h + 5) mi_X5_readSum b n s (o + 1))) : cSC g (h + 6) mi_X5_readFactor b n (fac b n op) o := by
  intro sh I J R P t c hC hx ht hc hl hP
  refine pp_st0 [(0, .ref 66), (1, .int (Int32.ofNat o))] ok_X5_readFactor rfl (Nat.le_of_ble_eq_true rfl) rfl ?_
  have tb := tk_b ht.1
  have h7 := hx.2.2.1
  have ho5 : o ≤ 5 := by rcases hop with z | z <;> omega
  have lk : lok I := ⟨c.length, hc.2.2, hc.1⟩
  unfold fac at hP
  have K170 : ∀ (I1 : Nat → Nat → Int32) (t1 : TK) (c1 : List Nat) (L : List (Nat × Value)), ((0, Value.ref 66) ∈ L) → fG I I1 → tC I1 b n t1 → cC I1 c1 → pFc sh I J R P b n (.inr (nxt b n t1, c1)) → pp_N g (h + 5) mi_X5_readFactor P 170 L [] (sh, I1, J, R) := by
    intro I1 t1 c1 L hL f1 ht1 hc1 hP
    refine pp_N.sub (L' := [(0, .ref 66)]) ?_ (by simpa using hL)
    refine pp_go rfl sk_X5_readFactor_170 ?_
    simp (disch := omega) only [sg_X5_readFactor_170, sw_c, sw_n, sx, sf_4, sv_i, sv_j, sv_r, sv_q1, sv_q0, sv_1i, sv_1r, sv_2, sl_i, sl_j, sl_a, sl_v, sp_p, sp_f1, sp_f2, sc_w, sc_c, sc_r, sc_f, sc_a, sc_k, pp_in, pp_al, ↓reduceIte, Nat.reduceEqDiff, Nat.reduceLT, Nat.reduceLeDiff, Nat.reduceAdd, Nat.reduceSub, Nat.reduceMul, List.length_cons, List.length_nil, true_and, and_true, and_self, true_implies, eq_self, not_true_eq_false, not_false_eq_true, false_implies, implies_true, false_and, and_false, Bool.false_eq_true, or_true, true_or, or_false, false_or, Classical.not_not, Nat.le_refl, Nat.lt_irrefl, Bool.true_eq_false, n_lit, n_a, n_c, n_s, n_b, n_m, n_g, n_w, n_n, rk_X5_readFactor, hC]
    refine c_next hC (xC_fr hx f1.2.1 (f1.1 65 (by omega) (by omega) (by omega))) (tk_b ht1.1).2.1 ht1.2.2.2.1 (fun I2 f2 t2 => ?_)
    simp (disch := omega) only [sw_c, sw_n, sx, sf_4, sv_i, sv_j, sv_r, sv_q1, sv_q0, sv_1i, sv_1r, sv_2, sl_i, sl_j, sl_a, sl_v, sp_p, sp_f1, sp_f2, sc_w, sc_c, sc_r, sc_f, sc_a, sc_k, pp_in, pp_al, ↓reduceIte, Nat.reduceEqDiff, Nat.reduceLT, Nat.reduceLeDiff, Nat.reduceAdd, Nat.reduceSub, Nat.reduceMul, List.length_cons, List.length_nil, true_and, and_true, and_self, true_implies, eq_self, not_true_eq_false, not_false_eq_true, false_implies, implies_true, false_and, and_false, Bool.false_eq_true, or_true, true_or, or_false, false_or, Classical.not_not, Nat.le_refl, Nat.lt_irrefl, Bool.true_eq_false, n_lit, n_a, n_c, n_s, n_b, n_m, n_g, n_w, n_n, rk_X5_readFactor]
    exact hP I2 (fG.trans f1 (fG_B f2)) t2 (cC_cg hc1 (f2.1 71 (by omega)) (f2.1 72 (by omega)))
  refine pp_go rfl sk_X5_readFactor_0 ?_
  simp (disch := omega) only [sg_X5_readFactor_0, sw_c, sw_n, sx, sf_4, sv_i, sv_j, sv_r, sv_q1, sv_q0, sv_1i, sv_1r, sv_2, sl_i, sl_j, sl_a, sl_v, sp_p, sp_f1, sp_f2, sc_w, sc_c, sc_r, sc_f, sc_a, sc_k, pp_in, pp_al, ↓reduceIte, Nat.reduceEqDiff, Nat.reduceLT, Nat.reduceLeDiff, Nat.reduceAdd, Nat.reduceSub, Nat.reduceMul, List.length_cons, List.length_nil, true_and, and_true, and_self, true_implies, eq_self, not_true_eq_false, not_false_eq_true, false_implies, implies_true, false_and, and_false, Bool.false_eq_true, or_true, true_or, or_false, false_or, Classical.not_not, Nat.le_refl, Nat.lt_irrefl, Bool.true_eq_false, n_lit, n_a, n_c, n_s, n_b, n_m, n_g, n_w, n_n, rk_X5_readFactor, hC]
  refine c_isSign hC ht (by omega) ?_
  simp (disch := omega) only [sw_c, sw_n, sx, sf_4, sv_i, sv_j, sv_r, sv_q1, sv_q0, sv_1i, sv_1r, sv_2, sl_i, sl_j, sl_a, sl_v, sp_p, sp_f1, sp_f2, sc_w, sc_c, sc_r, sc_f, sc_a, sc_k, pp_in, pp_al, ↓reduceIte, Nat.reduceEqDiff, Nat.reduceLT, Nat.reduceLeDiff, Nat.reduceAdd, Nat.reduceSub, Nat.reduceMul, List.length_cons, List.length_nil, true_and, and_true, and_self, true_implies, eq_self, not_true_eq_false, not_false_eq_true, false_implies, implies_true, false_and, and_false, Bool.false_eq_true, or_true, true_or, or_false, false_or, Classical.not_not, Nat.le_refl, Nat.lt_irrefl, Bool.true_eq_false, n_lit, n_a, n_c, n_s, n_b, n_m, n_g, n_w, n_n, rk_X5_readFactor, hC]
  refine ⟨fun q => ?_, fun q => ?_⟩
  · rw [if_neg q] at hP
    by_cases q2 : t.1 = 2
    · rw [if_pos q2] at hP
      have e15 := ht.2.2.2.2 (Or.inl q2)
      have hv := tb.2.2.2.2.2.1 q2
      have t1 := tb.2.2.1 (by omega)
      refine pp_go rfl sk_X5_readFactor_57 ?_
      simp (disch := omega) only [sg_X5_readFactor_57, sw_c, sw_n, sx, sf_4, sv_i, sv_j, sv_r, sv_q1, sv_q0, sv_1i, sv_1r, sv_2, sl_i, sl_j, sl_a, sl_v, sp_p, sp_f1, sp_f2, sc_w, sc_c, sc_r, sc_f, sc_a, sc_k, pp_in, pp_al, ↓reduceIte, Nat.reduceEqDiff, Nat.reduceLT, Nat.reduceLeDiff, Nat.reduceAdd, Nat.reduceSub, Nat.reduceMul, List.length_cons, List.length_nil, true_and, and_true, and_self, true_implies, eq_self, not_true_eq_false, not_false_eq_true, false_implies, implies_true, false_and, and_false, Bool.false_eq_true, or_true, true_or, or_false, false_or, Classical.not_not, Nat.le_refl, Nat.lt_irrefl, Bool.true_eq_false, n_lit, n_a, n_c, n_s, n_b, n_m, n_g, n_w, n_n, rk_X5_readFactor, hC, ht.2.1, e15, q2]
      refine c_addP (e := 100 + t.2.2.2) hC hc (by omega) (by rw [encC_no (by omega), show 100 + t.2.2.2 - 100 = t.2.2.2 by omega]) (fun I1 a1 a2 a3 => ?_)
      simp (disch := omega) only [sw_c, sw_n, sx, sf_4, sv_i, sv_j, sv_r, sv_q1, sv_q0, sv_1i, sv_1r, sv_2, sl_i, sl_j, sl_a, sl_v, sp_p, sp_f1, sp_f2, sc_w, sc_c, sc_r, sc_f, sc_a, sc_k, pp_in, pp_al, ↓reduceIte, Nat.reduceEqDiff, Nat.reduceLT, Nat.reduceLeDiff, Nat.reduceAdd, Nat.reduceSub, Nat.reduceMul, List.length_cons, List.length_nil, true_and, and_true, and_self, true_implies, eq_self, not_true_eq_false, not_false_eq_true, false_implies, implies_true, false_and, and_false, Bool.false_eq_true, or_true, true_or, or_false, false_or, Classical.not_not, Nat.le_refl, Nat.lt_irrefl, Bool.true_eq_false, n_lit, n_a, n_c, n_s, n_b, n_m, n_g, n_w, n_n, rk_X5_readFactor]
      exact K170 I1 t _ _ (by simp) a1 (by simpa only [tC, a2] using ht) a3 hP
    · rw [if_neg q2] at hP
      have t4 := tb.2.2.2.2.1
      refine pp_go rfl sk_X5_readFactor_57 ?_
      simp (disch := omega) only [sg_X5_readFactor_57, sw_c, sw_n, sx, sf_4, sv_i, sv_j, sv_r, sv_q1, sv_q0, sv_1i, sv_1r, sv_2, sl_i, sl_j, sl_a, sl_v, sp_p, sp_f1, sp_f2, sc_w, sc_c, sc_r, sc_f, sc_a, sc_k, pp_in, pp_al, ↓reduceIte, Nat.reduceEqDiff, Nat.reduceLT, Nat.reduceLeDiff, Nat.reduceAdd, Nat.reduceSub, Nat.reduceMul, List.length_cons, List.length_nil, true_and, and_true, and_self, true_implies, eq_self, not_true_eq_false, not_false_eq_true, false_implies, implies_true, false_and, and_false, Bool.false_eq_true, or_true, true_or, or_false, false_or, Classical.not_not, Nat.le_refl, Nat.lt_irrefl, Bool.true_eq_false, n_lit, n_a, n_c, n_s, n_b, n_m, n_g, n_w, n_n, rk_X5_readFactor, hC, ht.2.1, q2]
      refine pp_go rfl sk_X5_readFactor_88 ?_
      simp (disch := omega) only [sg_X5_readFactor_88, sw_c, sw_n, sx, sf_4, sv_i, sv_j, sv_r, sv_q1, sv_q0, sv_1i, sv_1r, sv_2, sl_i, sl_j, sl_a, sl_v, sp_p, sp_f1, sp_f2, sc_w, sc_c, sc_r, sc_f, sc_a, sc_k, pp_in, pp_al, ↓reduceIte, Nat.reduceEqDiff, Nat.reduceLT, Nat.reduceLeDiff, Nat.reduceAdd, Nat.reduceSub, Nat.reduceMul, List.length_cons, List.length_nil, true_and, and_true, and_self, true_implies, eq_self, not_true_eq_false, not_false_eq_true, false_implies, implies_true, false_and, and_false, Bool.false_eq_true, or_true, true_or, or_false, false_or, Classical.not_not, Nat.le_refl, Nat.lt_irrefl, Bool.true_eq_false, n_lit, n_a, n_c, n_s, n_b, n_m, n_g, n_w, n_n, rk_X5_readFactor, hC]
      refine c_isWord (i := 12) hC hx ht (by omega) ?_
      simp (disch := omega) only [sw_c, sw_n, sx, sf_4, sv_i, sv_j, sv_r, sv_q1, sv_q0, sv_1i, sv_1r, sv_2, sl_i, sl_j, sl_a, sl_v, sp_p, sp_f1, sp_f2, sc_w, sc_c, sc_r, sc_f, sc_a, sc_k, pp_in, pp_al, ↓reduceIte, Nat.reduceEqDiff, Nat.reduceLT, Nat.reduceLeDiff, Nat.reduceAdd, Nat.reduceSub, Nat.reduceMul, List.length_cons, List.length_nil, true_and, and_true, and_self, true_implies, eq_self, not_true_eq_false, not_false_eq_true, false_implies, implies_true, false_and, and_false, Bool.false_eq_true, or_true, true_or, or_false, false_or, Classical.not_not, Nat.le_refl, Nat.lt_irrefl, Bool.true_eq_false, n_lit, n_a, n_c, n_s, n_b, n_m, n_g, n_w, n_n, rk_X5_readFactor, hC]
      refine ⟨fun w1 => ?_, fun w1 => ?_⟩
      · rw [if_neg w1] at hP
        refine pp_go rfl sk_X5_readFactor_114 ?_
        simp (disch := omega) only [sg_X5_readFactor_114, sw_c, sw_n, sx, sf_4, sv_i, sv_j, sv_r, sv_q1, sv_q0, sv_1i, sv_1r, sv_2, sl_i, sl_j, sl_a, sl_v, sp_p, sp_f1, sp_f2, sc_w, sc_c, sc_r, sc_f, sc_a, sc_k, pp_in, pp_al, ↓reduceIte, Nat.reduceEqDiff, Nat.reduceLT, Nat.reduceLeDiff, Nat.reduceAdd, Nat.reduceSub, Nat.reduceMul, List.length_cons, List.length_nil, true_and, and_true, and_self, true_implies, eq_self, not_true_eq_false, not_false_eq_true, false_implies, implies_true, false_and, and_false, Bool.false_eq_true, or_true, true_or, or_false, false_or, Classical.not_not, Nat.le_refl, Nat.lt_irrefl, Bool.true_eq_false, n_lit, n_a, n_c, n_s, n_b, n_m, n_g, n_w, n_n, rk_X5_readFactor, hC]
        refine c_isWord (i := 13) hC hx ht (by omega) ?_
        simp (disch := omega) only [sw_c, sw_n, sx, sf_4, sv_i, sv_j, sv_r, sv_q1, sv_q0, sv_1i, sv_1r, sv_2, sl_i, sl_j, sl_a, sl_v, sp_p, sp_f1, sp_f2, sc_w, sc_c, sc_r, sc_f, sc_a, sc_k, pp_in, pp_al, ↓reduceIte, Nat.reduceEqDiff, Nat.reduceLT, Nat.reduceLeDiff, Nat.reduceAdd, Nat.reduceSub, Nat.reduceMul, List.length_cons, List.length_nil, true_and, and_true, and_self, true_implies, eq_self, not_true_eq_false, not_false_eq_true, false_implies, implies_true, false_and, and_false, Bool.false_eq_true, or_true, true_or, or_false, false_or, Classical.not_not, Nat.le_refl, Nat.lt_irrefl, Bool.true_eq_false, n_lit, n_a, n_c, n_s, n_b, n_m, n_g, n_w, n_n, rk_X5_readFactor, hC]
        refine ⟨fun w2 => ?_, fun w2 => ?_⟩
        · rw [if_neg w2] at hP
          refine pp_go rfl sk_X5_readFactor_141 ?_
          simp (disch := omega) only [sg_X5_readFactor_141, sw_c, sw_n, sx, sf_4, sv_i, sv_j, sv_r, sv_q1, sv_q0, sv_1i, sv_1r, sv_2, sl_i, sl_j, sl_a, sl_v, sp_p, sp_f1, sp_f2, sc_w, sc_c, sc_r, sc_f, sc_a, sc_k, pp_in, pp_al, ↓reduceIte, Nat.reduceEqDiff, Nat.reduceLT, Nat.reduceLeDiff, Nat.reduceAdd, Nat.reduceSub, Nat.reduceMul, List.length_cons, List.length_nil, true_and, and_true, and_self, true_implies, eq_self, not_true_eq_false, not_false_eq_true, false_implies, implies_true, false_and, and_false, Bool.false_eq_true, or_true, true_or, or_false, false_or, Classical.not_not, Nat.le_refl, Nat.lt_irrefl, Bool.true_eq_false, n_lit, n_a, n_c, n_s, n_b, n_m, n_g, n_w, n_n, rk_X5_readFactor, hC]
          refine c_isWord (i := 14) hC hx ht (by omega) ?_
          simp (disch := omega) only [sw_c, sw_n, sx, sf_4, sv_i, sv_j, sv_r, sv_q1, sv_q0, sv_1i, sv_1r, sv_2, sl_i, sl_j, sl_a, sl_v, sp_p, sp_f1, sp_f2, sc_w, sc_c, sc_r, sc_f, sc_a, sc_k, pp_in, pp_al, ↓reduceIte, Nat.reduceEqDiff, Nat.reduceLT, Nat.reduceLeDiff, Nat.reduceAdd, Nat.reduceSub, Nat.reduceMul, List.length_cons, List.length_nil, true_and, and_true, and_self, true_implies, eq_self, not_true_eq_false, not_false_eq_true, false_implies, implies_true, false_and, and_false, Bool.false_eq_true, or_true, true_or, or_false, false_or, Classical.not_not, Nat.le_refl, Nat.lt_irrefl, Bool.true_eq_false, n_lit, n_a, n_c, n_s, n_b, n_m, n_g, n_w, n_n, rk_X5_readFactor, hC]
          refine ⟨fun w3 => ?_, fun w3 => ?_⟩
          · rw [if_neg w3] at hP
            refine pp_go rfl sk_X5_readFactor_168 ?_
            simp (disch := omega) only [sg_X5_readFactor_168, sw_c, sw_n, sx, sf_4, sv_i, sv_j, sv_r, sv_q1, sv_q0, sv_1i, sv_1r, sv_2, sl_i, sl_j, sl_a, sl_v, sp_p, sp_f1, sp_f2, sc_w, sc_c, sc_r, sc_f, sc_a, sc_k, pp_in, pp_al, ↓reduceIte, Nat.reduceEqDiff, Nat.reduceLT, Nat.reduceLeDiff, Nat.reduceAdd, Nat.reduceSub, Nat.reduceMul, List.length_cons, List.length_nil, true_and, and_true, and_self, true_implies, eq_self, not_true_eq_false, not_false_eq_true, false_implies, implies_true, false_and, and_false, Bool.false_eq_true, or_true, true_or, or_false, false_or, Classical.not_not, Nat.le_refl, Nat.lt_irrefl, Bool.true_eq_false, n_lit, n_a, n_c, n_s, n_b, n_m, n_g, n_w, n_n, rk_X5_readFactor]
            exact hP I (fG.refl I) lk ht.2.2.1
          · rw [if_pos w3] at hP
            have t1 := tb.2.2.1 (by have := isw_1 w3; omega)
            refine c_addP (e := 3) hC hc (by omega) (by decide) (fun I1 a1 a2 a3 => ?_)
            simp (disch := omega) only [sw_c, sw_n, sx, sf_4, sv_i, sv_j, sv_r, sv_q1, sv_q0, sv_1i, sv_1r, sv_2, sl_i, sl_j, sl_a, sl_v, sp_p, sp_f1, sp_f2, sc_w, sc_c, sc_r, sc_f, sc_a, sc_k, pp_in, pp_al, ↓reduceIte, Nat.reduceEqDiff, Nat.reduceLT, Nat.reduceLeDiff, Nat.reduceAdd, Nat.reduceSub, Nat.reduceMul, List.length_cons, List.length_nil, true_and, and_true, and_self, true_implies, eq_self, not_true_eq_false, not_false_eq_true, false_implies, implies_true, false_and, and_false, Bool.false_eq_true, or_true, true_or, or_false, false_or, Classical.not_not, Nat.le_refl, Nat.lt_irrefl, Bool.true_eq_false, n_lit, n_a, n_c, n_s, n_b, n_m, n_g, n_w, n_n, rk_X5_readFactor]
            exact K170 I1 t _ _ (by simp) a1 (by simpa only [tC, a2] using ht) a3 hP
        · rw [if_pos w2] at hP
          have t1 := tb.2.2.1 (by have := isw_1 w2; omega)
          refine c_addP (e := 2) hC hc (by omega) (by decide) (fun I1 a1 a2 a3 => ?_)
          simp (disch := omega) only [sw_c, sw_n, sx, sf_4, sv_i, sv_j, sv_r, sv_q1, sv_q0, sv_1i, sv_1r, sv_2, sl_i, sl_j, sl_a, sl_v, sp_p, sp_f1, sp_f2, sc_w, sc_c, sc_r, sc_f, sc_a, sc_k, pp_in, pp_al, ↓reduceIte, Nat.reduceEqDiff, Nat.reduceLT, Nat.reduceLeDiff, Nat.reduceAdd, Nat.reduceSub, Nat.reduceMul, List.length_cons, List.length_nil, true_and, and_true, and_self, true_implies, eq_self, not_true_eq_false, not_false_eq_true, false_implies, implies_true, false_and, and_false, Bool.false_eq_true, or_true, true_or, or_false, false_or, Classical.not_not, Nat.le_refl, Nat.lt_irrefl, Bool.true_eq_false, n_lit, n_a, n_c, n_s, n_b, n_m, n_g, n_w, n_n, rk_X5_readFactor]
          exact K170 I1 t _ _ (by simp) a1 (by simpa only [tC, a2] using ht) a3 hP
      · rw [if_pos w1] at hP
        have t1 := tb.2.2.1 (by have := isw_1 w1; omega)
        refine c_addP (e := 1) hC hc (by omega) (by decide) (fun I1 a1 a2 a3 => ?_)
        simp (disch := omega) only [sw_c, sw_n, sx, sf_4, sv_i, sv_j, sv_r, sv_q1, sv_q0, sv_1i, sv_1r, sv_2, sl_i, sl_j, sl_a, sl_v, sp_p, sp_f1, sp_f2, sc_w, sc_c, sc_r, sc_f, sc_a, sc_k, pp_in, pp_al, ↓reduceIte, Nat.reduceEqDiff, Nat.reduceLT, Nat.reduceLeDiff, Nat.reduceAdd, Nat.reduceSub, Nat.reduceMul, List.length_cons, List.length_nil, true_and, and_true, and_self, true_implies, eq_self, not_true_eq_false, not_false_eq_true, false_implies, implies_true, false_and, and_false, Bool.false_eq_true, or_true, true_or, or_false, false_or, Classical.not_not, Nat.le_refl, Nat.lt_irrefl, Bool.true_eq_false, n_lit, n_a, n_c, n_s, n_b, n_m, n_g, n_w, n_n, rk_X5_readFactor]
        exact K170 I1 t _ _ (by simp) a1 (by simpa only [tC, a2] using ht) a3 hP
  · rw [if_pos q] at hP
    rcases hop with ⟨ho, rfl⟩ | ⟨ho, s, rfl, es, hs⟩
    · refine ⟨fun q2 => absurd q2 (by omega), fun q2 => ?_⟩
      exact hP I (fG.refl I) lk ht.2.2.1
    · refine ⟨fun q2 => ?_, fun q2 => absurd ho (by omega)⟩
      have t1 := tb.2.2.1 (by rw [q.1]; omega)
      have nb := (nxt_ok ht.1).2
      refine pp_go rfl sk_X5_readFactor_19 ?_
      simp (disch := omega) only [sg_X5_readFactor_19, sw_c, sw_n, sx, sf_4, sv_i, sv_j, sv_r, sv_q1, sv_q0, sv_1i, sv_1r, sv_2, sl_i, sl_j, sl_a, sl_v, sp_p, sp_f1, sp_f2, sc_w, sc_c, sc_r, sc_f, sc_a, sc_k, pp_in, pp_al, ↓reduceIte, Nat.reduceEqDiff, Nat.reduceLT, Nat.reduceLeDiff, Nat.reduceAdd, Nat.reduceSub, Nat.reduceMul, List.length_cons, List.length_nil, true_and, and_true, and_self, true_implies, eq_self, not_true_eq_false, not_false_eq_true, false_implies, implies_true, false_and, and_false, Bool.false_eq_true, or_true, true_or, or_false, false_or, Classical.not_not, Nat.le_refl, Nat.lt_irrefl, Bool.true_eq_false, n_lit, n_a, n_c, n_s, n_b, n_m, n_g, n_w, n_n, rk_X5_readFactor, hC]
      refine c_next hC hx tb.2.1 ht.2.2.2.1 (fun I1 f1 ht1 => ?_)
      simp (disch := omega) only [sw_c, sw_n, sx, sf_4, sv_i, sv_j, sv_r, sv_q1, sv_q0, sv_1i, sv_1r, sv_2, sl_i, sl_j, sl_a, sl_v, sp_p, sp_f1, sp_f2, sc_w, sc_c, sc_r, sc_f, sc_a, sc_k, pp_in, pp_al, ↓reduceIte, Nat.reduceEqDiff, Nat.reduceLT, Nat.reduceLeDiff, Nat.reduceAdd, Nat.reduceSub, Nat.reduceMul, List.length_cons, List.length_nil, true_and, and_true, and_self, true_implies, eq_self, not_true_eq_false, not_false_eq_true, false_implies, implies_true, false_and, and_false, Bool.false_eq_true, or_true, true_or, or_false, false_or, Classical.not_not, Nat.le_refl, Nat.lt_irrefl, Bool.true_eq_false, n_lit, n_a, n_c, n_s, n_b, n_m, n_g, n_w, n_n, rk_X5_readFactor, hC]
      refine hs _ _ _ _ _ (nxt b n t) c hC (xC_fr hx f1.2 (f1.1 65 (by omega))) ht1 (cC_cg hc (f1.1 71 (by omega)) (f1.1 72 (by omega))) (by omega) ?_
      simp only [] at hP
      cases hr : s (nxt b n t) c with
      | inl e =>
        rw [hr] at hP
        have e0 := es _ _ _ hr
        have e1 : ¬ e.1 = 0 := by omega
        intro I2 a1 a2 a3
        simp (disch := omega) only [sw_c, sw_n, sx, sf_4, sv_i, sv_j, sv_r, sv_q1, sv_q0, sv_1i, sv_1r, sv_2, sl_i, sl_j, sl_a, sl_v, sp_p, sp_f1, sp_f2, sc_w, sc_c, sc_r, sc_f, sc_a, sc_k, pp_in, pp_al, ↓reduceIte, Nat.reduceEqDiff, Nat.reduceLT, Nat.reduceLeDiff, Nat.reduceAdd, Nat.reduceSub, Nat.reduceMul, List.length_cons, List.length_nil, true_and, and_true, and_self, true_implies, eq_self, not_true_eq_false, not_false_eq_true, false_implies, implies_true, false_and, and_false, Bool.false_eq_true, or_true, true_or, or_false, false_or, Classical.not_not, Nat.le_refl, Nat.lt_irrefl, Bool.true_eq_false, n_lit, n_a, n_c, n_s, n_b, n_m, n_g, n_w, n_n, rk_X5_readFactor, e1]
        exact hP I2 (fG.trans (fG_B f1) a1) a2 a3
      | inr r =>
        obtain ⟨t2, c2⟩ := r
        rw [hr] at hP
        simp only [] at hP
        intro I2 a1 a2 a3
        have f2 := fG.trans (fG_B f1) a1
        dsimp only at a2 a3
        simp (disch := omega) only [sw_c, sw_n, sx, sf_4, sv_i, sv_j, sv_r, sv_q1, sv_q0, sv_1i, sv_1r, sv_2, sl_i, sl_j, sl_a, sl_v, sp_p, sp_f1, sp_f2, sc_w, sc_c, sc_r, sc_f, sc_a, sc_k, pp_in, pp_al, ↓reduceIte, Nat.reduceEqDiff, Nat.reduceLT, Nat.reduceLeDiff, Nat.reduceAdd, Nat.reduceSub, Nat.reduceMul, List.length_cons, List.length_nil, true_and, and_true, and_self, true_implies, eq_self, not_true_eq_false, not_false_eq_true, false_implies, implies_true, false_and, and_false, Bool.false_eq_true, or_true, true_or, or_false, false_or, Classical.not_not, Nat.le_refl, Nat.lt_irrefl, Bool.true_eq_false, n_lit, n_a, n_c, n_s, n_b, n_m, n_g, n_w, n_n, rk_X5_readFactor]
        refine pp_go rfl sk_X5_readFactor_40 ?_
        simp (disch := omega) only [sg_X5_readFactor_40, sw_c, sw_n, sx, sf_4, sv_i, sv_j, sv_r, sv_q1, sv_q0, sv_1i, sv_1r, sv_2, sl_i, sl_j, sl_a, sl_v, sp_p, sp_f1, sp_f2, sc_w, sc_c, sc_r, sc_f, sc_a, sc_k, pp_in, pp_al, ↓reduceIte, Nat.reduceEqDiff, Nat.reduceLT, Nat.reduceLeDiff, Nat.reduceAdd, Nat.reduceSub, Nat.reduceMul, List.length_cons, List.length_nil, true_and, and_true, and_self, true_implies, eq_self, not_true_eq_false, not_false_eq_true, false_implies, implies_true, false_and, and_false, Bool.false_eq_true, or_true, true_or, or_false, false_or, Classical.not_not, Nat.le_refl, Nat.lt_irrefl, Bool.true_eq_false, n_lit, n_a, n_c, n_s, n_b, n_m, n_g, n_w, n_n, rk_X5_readFactor, hC]
        refine c_isSign hC a2 (by omega) ?_
        simp (disch := omega) only [sw_c, sw_n, sx, sf_4, sv_i, sv_j, sv_r, sv_q1, sv_q0, sv_1i, sv_1r, sv_2, sl_i, sl_j, sl_a, sl_v, sp_p, sp_f1, sp_f2, sc_w, sc_c, sc_r, sc_f, sc_a, sc_k, pp_in, pp_al, ↓reduceIte, Nat.reduceEqDiff, Nat.reduceLT, Nat.reduceLeDiff, Nat.reduceAdd, Nat.reduceSub, Nat.reduceMul, List.length_cons, List.length_nil, true_and, and_true, and_self, true_implies, eq_self, not_true_eq_false, not_false_eq_true, false_implies, implies_true, false_and, and_false, Bool.false_eq_true, or_true, true_or, or_false, false_or, Classical.not_not, Nat.le_refl, Nat.lt_irrefl, Bool.true_eq_false, n_lit, n_a, n_c, n_s, n_b, n_m, n_g, n_w, n_n, rk_X5_readFactor, hC]
        refine ⟨fun q3 => ?_, fun q3 => ?_⟩
        · rw [if_pos q3] at hP
          refine pp_go rfl sk_X5_readFactor_54 ?_
          simp (disch := omega) only [sg_X5_readFactor_54, sw_c, sw_n, sx, sf_4, sv_i, sv_j, sv_r, sv_q1, sv_q0, sv_1i, sv_1r, sv_2, sl_i, sl_j, sl_a, sl_v, sp_p, sp_f1, sp_f2, sc_w, sc_c, sc_r, sc_f, sc_a, sc_k, pp_in, pp_al, ↓reduceIte, Nat.reduceEqDiff, Nat.reduceLT, Nat.reduceLeDiff, Nat.reduceAdd, Nat.reduceSub, Nat.reduceMul, List.length_cons, List.length_nil, true_and, and_true, and_self, true_implies, eq_self, not_true_eq_false, not_false_eq_true, false_implies, implies_true, false_and, and_false, Bool.false_eq_true, or_true, true_or, or_false, false_or, Classical.not_not, Nat.le_refl, Nat.lt_irrefl, Bool.true_eq_false, n_lit, n_a, n_c, n_s, n_b, n_m, n_g, n_w, n_n, rk_X5_readFactor]
          exact K170 I2 t2 c2 _ (by simp) f2 a2 a3 hP
        · rw [if_neg q3] at hP
          exact hP I2 f2 ⟨c2.length, a3.2.2, a3.1⟩ a2.2.2.1
theorem c_term_l {F : TK → List Nat → PR} {o m : Nat} (hF : cSC g (h + 6) mi_X5_readFactor b n F o) (gF : pgd b n F m) (eF : eok F) :
    ∀ (f k : Nat) (sh : List (Nat × Nat)) (I : Nat → Nat → Int32) (J : Nat → Nat → Int64) (R : Nat → Nat → Option Nat) (P : pp_R → pp_W → Prop) (t : TK) (c : List Nat) (L : List (Nat × Value)), (∀ q ∈ [(0, Value.ref 66), (1, .int (Int32.ofNat o)), (2, .int (Int32.ofNat 0)), (3, .int (Int32.ofNat k))], q ∈ L) → f + k = 700 → sC sh R → xC I b n → tC I b n t → cC I c → c.length ≤ t.2.1 → pFc sh I J R P b n (lop b n 42 47 6 7 F f t c) → pp_N g (h + 6) mi_X5_readTerm P 8 L [] (sh, I, J, R) := by
  intro f
  induction f with
  | zero =>
    intro k sh I J R P t c L hL hf hC hx ht hc hl hP
    have hk : k = 700 := by omega
    subst hk
    rw [lop] at hP
    refine pp_N.sub ?_ hL
    refine pp_go rfl sk_X5_readTerm_8 ?_
    simp (disch := omega) only [sg_X5_readTerm_8, sw_c, sw_n, sx, sf_4, sv_i, sv_j, sv_r, sv_q1, sv_q0, sv_1i, sv_1r, sv_2, sl_i, sl_j, sl_a, sl_v, sp_p, sp_f1, sp_f2, sc_w, sc_c, sc_r, sc_f, sc_a, sc_k, pp_in, pp_al, ↓reduceIte, Nat.reduceEqDiff, Nat.reduceLT, Nat.reduceLeDiff, Nat.reduceAdd, Nat.reduceSub, Nat.reduceMul, List.length_cons, List.length_nil, true_and, and_true, and_self, true_implies, eq_self, not_true_eq_false, not_false_eq_true, false_implies, implies_true, false_and, and_false, Bool.false_eq_true, or_true, true_or, or_false, false_or, Classical.not_not, Nat.le_refl, Nat.lt_irrefl, Bool.true_eq_false, n_lit, n_a, n_c, n_s, n_b, n_m, n_g, n_w, n_n, rk_X5_readTerm]
    refine pp_go rfl sk_X5_readTerm_95 ?_
    simp (disch := omega) only [sg_X5_readTerm_95, sw_c, sw_n, sx, sf_4, sv_i, sv_j, sv_r, sv_q1, sv_q0, sv_1i, sv_1r, sv_2, sl_i, sl_j, sl_a, sl_v, sp_p, sp_f1, sp_f2, sc_w, sc_c, sc_r, sc_f, sc_a, sc_k, pp_in, pp_al, ↓reduceIte, Nat.reduceEqDiff, Nat.reduceLT, Nat.reduceLeDiff, Nat.reduceAdd, Nat.reduceSub, Nat.reduceMul, List.length_cons, List.length_nil, true_and, and_true, and_self, true_implies, eq_self, not_true_eq_false, not_false_eq_true, false_implies, implies_true, false_and, and_false, Bool.false_eq_true, or_true, true_or, or_false, false_or, Classical.not_not, Nat.le_refl, Nat.lt_irrefl, Bool.true_eq_false, n_lit, n_a, n_c, n_s, n_b, n_m, n_g, n_w, n_n, rk_X5_readTerm]
    exact hP I (fG.refl I) ht hc
  | succ f ih =>
    intro k sh I J R P t c L hL hf hC hx ht hc hl hP
    refine pp_N.sub ?_ hL
    have tb := tk_b ht.1
    have h7 := hx.2.2.1
    have q1 : ¬ 700 ≤ k := by omega
    rw [lop] at hP
    have KE : ¬ (sgP t 42 ∨ sgP t 47) → pp_N g (h + 6) mi_X5_readTerm P 95 [(0, .ref 66), (1, .int (Int32.ofNat o)), (2, .int (Int32.ofNat 0)), (3, .int (Int32.ofNat k))] [] (sh, I, J, R) := by
      intro z
      rw [if_neg z] at hP
      refine pp_go rfl sk_X5_readTerm_95 ?_
      simp (disch := omega) only [sg_X5_readTerm_95, sw_c, sw_n, sx, sf_4, sv_i, sv_j, sv_r, sv_q1, sv_q0, sv_1i, sv_1r, sv_2, sl_i, sl_j, sl_a, sl_v, sp_p, sp_f1, sp_f2, sc_w, sc_c, sc_r, sc_f, sc_a, sc_k, pp_in, pp_al, ↓reduceIte, Nat.reduceEqDiff, Nat.reduceLT, Nat.reduceLeDiff, Nat.reduceAdd, Nat.reduceSub, Nat.reduceMul, List.length_cons, List.length_nil, true_and, and_true, and_self, true_implies, eq_self, not_true_eq_false, not_false_eq_true, false_implies, implies_true, false_and, and_false, Bool.false_eq_true, or_true, true_or, or_false, false_or, Classical.not_not, Nat.le_refl, Nat.lt_irrefl, Bool.true_eq_false, n_lit, n_a, n_c, n_s, n_b, n_m, n_g, n_w, n_n, rk_X5_readTerm]
      exact hP I (fG.refl I) ht hc
    have KL : (sgP t 42 ∨ sgP t 47) → pp_N g (h + 6) mi_X5_readTerm P 43 [(0, .ref 66), (1, .int (Int32.ofNat o)), (2, .int (Int32.ofNat 0)), (3, .int (Int32.ofNat k))] [] (sh, I, J, R) := by
      intro z
      rw [if_pos z] at hP
      have t3 : t.1 = 3 := by rcases z with z | z <;> exact z.1
      have t1 := tb.2.2.1 (by omega)
      have nb := nxt_ok ht.1
      have KS : ∀ (v : Int32) (e : Nat), e = (if t.2.2.2 = 42 then 6 else 7) → v = encC e → pp_N g (h + 6) mi_X5_readTerm P 62 [(0, .ref 66), (1, .int (Int32.ofNat o)), (2, .int (Int32.ofNat 0)), (3, .int (Int32.ofNat k))] [.int v] (sh, I, J, R) := by
        intro v e he hv
        rw [← he] at hP
        refine pp_go rfl sk_X5_readTerm_62 ?_
        simp (disch := omega) only [sg_X5_readTerm_62, sw_c, sw_n, sx, sf_4, sv_i, sv_j, sv_r, sv_q1, sv_q0, sv_1i, sv_1r, sv_2, sl_i, sl_j, sl_a, sl_v, sp_p, sp_f1, sp_f2, sc_w, sc_c, sc_r, sc_f, sc_a, sc_k, pp_in, pp_al, ↓reduceIte, Nat.reduceEqDiff, Nat.reduceLT, Nat.reduceLeDiff, Nat.reduceAdd, Nat.reduceSub, Nat.reduceMul, List.length_cons, List.length_nil, true_and, and_true, and_self, true_implies, eq_self, not_true_eq_false, not_false_eq_true, false_implies, implies_true, false_and, and_false, Bool.false_eq_true, or_true, true_or, or_false, false_or, Classical.not_not, Nat.le_refl, Nat.lt_irrefl, Bool.true_eq_false, n_lit, n_a, n_c, n_s, n_b, n_m, n_g, n_w, n_n, rk_X5_readTerm, hC]
        refine c_next hC hx tb.2.1 ht.2.2.2.1 (fun I1 hf1 ht1 => ?_)
        simp (disch := omega) only [sw_c, sw_n, sx, sf_4, sv_i, sv_j, sv_r, sv_q1, sv_q0, sv_1i, sv_1r, sv_2, sl_i, sl_j, sl_a, sl_v, sp_p, sp_f1, sp_f2, sc_w, sc_c, sc_r, sc_f, sc_a, sc_k, pp_in, pp_al, ↓reduceIte, Nat.reduceEqDiff, Nat.reduceLT, Nat.reduceLeDiff, Nat.reduceAdd, Nat.reduceSub, Nat.reduceMul, List.length_cons, List.length_nil, true_and, and_true, and_self, true_implies, eq_self, not_true_eq_false, not_false_eq_true, false_implies, implies_true, false_and, and_false, Bool.false_eq_true, or_true, true_or, or_false, false_or, Classical.not_not, Nat.le_refl, Nat.lt_irrefl, Bool.true_eq_false, n_lit, n_a, n_c, n_s, n_b, n_m, n_g, n_w, n_n, rk_X5_readTerm, hC]
        refine hF _ _ _ _ _ (nxt b n t) c hC (xC_fr hx hf1.2 (hf1.1 65 (by omega))) ht1 (cC_cg hc (hf1.1 71 (by omega)) (hf1.1 72 (by omega))) (by omega) ?_
        cases hr : F (nxt b n t) c with
        | inl er =>
          rw [hr] at hP
          have e0 := eF _ _ _ hr
          have e1 : ¬ er.1 = 0 := by omega
          intro I2 a1 a2 a3
          obtain ⟨m2, m7, m1⟩ := a2
          simp (disch := omega) only [sw_c, sw_n, sx, sf_4, sv_i, sv_j, sv_r, sv_q1, sv_q0, sv_1i, sv_1r, sv_2, sl_i, sl_j, sl_a, sl_v, sp_p, sp_f1, sp_f2, sc_w, sc_c, sc_r, sc_f, sc_a, sc_k, pp_in, pp_al, ↓reduceIte, Nat.reduceEqDiff, Nat.reduceLT, Nat.reduceLeDiff, Nat.reduceAdd, Nat.reduceSub, Nat.reduceMul, List.length_cons, List.length_nil, true_and, and_true, and_self, true_implies, eq_self, not_true_eq_false, not_false_eq_true, false_implies, implies_true, false_and, and_false, Bool.false_eq_true, or_true, true_or, or_false, false_or, Classical.not_not, Nat.le_refl, Nat.lt_irrefl, Bool.true_eq_false, n_lit, n_a, n_c, n_s, n_b, n_m, n_g, n_w, n_n, rk_X5_readTerm, hC]
          refine c_add (F := 71) (K := 72) hC.2.2.2.1.2.2.2.2.1 hC.2.2.2.1.2.2.2.2.2.1 hC.2.2.2.1.2.2.2.2.2.2.2.2.2.2.2.1 ⟨by simp, by simp⟩ m1 m7 (fun I3 b1 b2 b3 b4 => ?_)
          have K95 : P (.inl (some (.int (Int32.ofNat er.1)))) (sh, I3, J, R) := hP I3 (fG.trans (fG.trans (fG_B hf1) a1) ⟨fun a x y z => b1 a y z, by rw [b1 94 (by omega) (by omega)], b2⟩) b3 (by rw [b1 94 (by omega) (by omega)]; exact a3)
          simp (disch := omega) only [sw_c, sw_n, sx, sf_4, sv_i, sv_j, sv_r, sv_q1, sv_q0, sv_1i, sv_1r, sv_2, sl_i, sl_j, sl_a, sl_v, sp_p, sp_f1, sp_f2, sc_w, sc_c, sc_r, sc_f, sc_a, sc_k, pp_in, pp_al, ↓reduceIte, Nat.reduceEqDiff, Nat.reduceLT, Nat.reduceLeDiff, Nat.reduceAdd, Nat.reduceSub, Nat.reduceMul, List.length_cons, List.length_nil, true_and, and_true, and_self, true_implies, eq_self, not_true_eq_false, not_false_eq_true, false_implies, implies_true, false_and, and_false, Bool.false_eq_true, or_true, true_or, or_false, false_or, Classical.not_not, Nat.le_refl, Nat.lt_irrefl, Bool.true_eq_false, n_lit, n_a, n_c, n_s, n_b, n_m, n_g, n_w, n_n, rk_X5_readTerm]
          by_cases kk : 700 ≤ k + 1
          · refine pp_go rfl sk_X5_readTerm_8 ?_
            simp (disch := omega) only [sg_X5_readTerm_8, sw_c, sw_n, sx, sf_4, sv_i, sv_j, sv_r, sv_q1, sv_q0, sv_1i, sv_1r, sv_2, sl_i, sl_j, sl_a, sl_v, sp_p, sp_f1, sp_f2, sc_w, sc_c, sc_r, sc_f, sc_a, sc_k, pp_in, pp_al, ↓reduceIte, Nat.reduceEqDiff, Nat.reduceLT, Nat.reduceLeDiff, Nat.reduceAdd, Nat.reduceSub, Nat.reduceMul, List.length_cons, List.length_nil, true_and, and_true, and_self, true_implies, eq_self, not_true_eq_false, not_false_eq_true, false_implies, implies_true, false_and, and_false, Bool.false_eq_true, or_true, true_or, or_false, false_or, Classical.not_not, Nat.le_refl, Nat.lt_irrefl, Bool.true_eq_false, n_lit, n_a, n_c, n_s, n_b, n_m, n_g, n_w, n_n, rk_X5_readTerm, kk]
            refine pp_go rfl sk_X5_readTerm_95 ?_
            simp (disch := omega) only [sg_X5_readTerm_95, sw_c, sw_n, sx, sf_4, sv_i, sv_j, sv_r, sv_q1, sv_q0, sv_1i, sv_1r, sv_2, sl_i, sl_j, sl_a, sl_v, sp_p, sp_f1, sp_f2, sc_w, sc_c, sc_r, sc_f, sc_a, sc_k, pp_in, pp_al, ↓reduceIte, Nat.reduceEqDiff, Nat.reduceLT, Nat.reduceLeDiff, Nat.reduceAdd, Nat.reduceSub, Nat.reduceMul, List.length_cons, List.length_nil, true_and, and_true, and_self, true_implies, eq_self, not_true_eq_false, not_false_eq_true, false_implies, implies_true, false_and, and_false, Bool.false_eq_true, or_true, true_or, or_false, false_or, Classical.not_not, Nat.le_refl, Nat.lt_irrefl, Bool.true_eq_false, n_lit, n_a, n_c, n_s, n_b, n_m, n_g, n_w, n_n, rk_X5_readTerm]
            exact K95
          · refine pp_go rfl sk_X5_readTerm_8 ?_
            simp (disch := omega) only [sg_X5_readTerm_8, sw_c, sw_n, sx, sf_4, sv_i, sv_j, sv_r, sv_q1, sv_q0, sv_1i, sv_1r, sv_2, sl_i, sl_j, sl_a, sl_v, sp_p, sp_f1, sp_f2, sc_w, sc_c, sc_r, sc_f, sc_a, sc_k, pp_in, pp_al, ↓reduceIte, Nat.reduceEqDiff, Nat.reduceLT, Nat.reduceLeDiff, Nat.reduceAdd, Nat.reduceSub, Nat.reduceMul, List.length_cons, List.length_nil, true_and, and_true, and_self, true_implies, eq_self, not_true_eq_false, not_false_eq_true, false_implies, implies_true, false_and, and_false, Bool.false_eq_true, or_true, true_or, or_false, false_or, Classical.not_not, Nat.le_refl, Nat.lt_irrefl, Bool.true_eq_false, n_lit, n_a, n_c, n_s, n_b, n_m, n_g, n_w, n_n, rk_X5_readTerm, kk, e1]
            refine pp_go rfl sk_X5_readTerm_95 ?_
            simp (disch := omega) only [sg_X5_readTerm_95, sw_c, sw_n, sx, sf_4, sv_i, sv_j, sv_r, sv_q1, sv_q0, sv_1i, sv_1r, sv_2, sl_i, sl_j, sl_a, sl_v, sp_p, sp_f1, sp_f2, sc_w, sc_c, sc_r, sc_f, sc_a, sc_k, pp_in, pp_al, ↓reduceIte, Nat.reduceEqDiff, Nat.reduceLT, Nat.reduceLeDiff, Nat.reduceAdd, Nat.reduceSub, Nat.reduceMul, List.length_cons, List.length_nil, true_and, and_true, and_self, true_implies, eq_self, not_true_eq_false, not_false_eq_true, false_implies, implies_true, false_and, and_false, Bool.false_eq_true, or_true, true_or, or_false, false_or, Classical.not_not, Nat.le_refl, Nat.lt_irrefl, Bool.true_eq_false, n_lit, n_a, n_c, n_s, n_b, n_m, n_g, n_w, n_n, rk_X5_readTerm]
            exact K95
        | inr r =>
          obtain ⟨t2, c2⟩ := r
          rw [hr] at hP
          have gg := gF _ _ _ _ nb.1 hr
          have g1 := tk_b gg.1
          intro I2 a1 a2 a3
          dsimp only at a2 a3 hP
          have f12 : fG I I2 := fG.trans (fG_B hf1) a1
          simp (disch := omega) only [sw_c, sw_n, sx, sf_4, sv_i, sv_j, sv_r, sv_q1, sv_q0, sv_1i, sv_1r, sv_2, sl_i, sl_j, sl_a, sl_v, sp_p, sp_f1, sp_f2, sc_w, sc_c, sc_r, sc_f, sc_a, sc_k, pp_in, pp_al, ↓reduceIte, Nat.reduceEqDiff, Nat.reduceLT, Nat.reduceLeDiff, Nat.reduceAdd, Nat.reduceSub, Nat.reduceMul, List.length_cons, List.length_nil, true_and, and_true, and_self, true_implies, eq_self, not_true_eq_false, not_false_eq_true, false_implies, implies_true, false_and, and_false, Bool.false_eq_true, or_true, true_or, or_false, false_or, Classical.not_not, Nat.le_refl, Nat.lt_irrefl, Bool.true_eq_false, n_lit, n_a, n_c, n_s, n_b, n_m, n_g, n_w, n_n, rk_X5_readTerm, hC]
          refine c_addP (c := c2) (e := e) hC a3 (by omega) hv (fun I3 b1 b2 b3 => ?_)
          have f13 := fG.trans f12 b1
          simp (disch := omega) only [sw_c, sw_n, sx, sf_4, sv_i, sv_j, sv_r, sv_q1, sv_q0, sv_1i, sv_1r, sv_2, sl_i, sl_j, sl_a, sl_v, sp_p, sp_f1, sp_f2, sc_w, sc_c, sc_r, sc_f, sc_a, sc_k, pp_in, pp_al, ↓reduceIte, Nat.reduceEqDiff, Nat.reduceLT, Nat.reduceLeDiff, Nat.reduceAdd, Nat.reduceSub, Nat.reduceMul, List.length_cons, List.length_nil, true_and, and_true, and_self, true_implies, eq_self, not_true_eq_false, not_false_eq_true, false_implies, implies_true, false_and, and_false, Bool.false_eq_true, or_true, true_or, or_false, false_or, Classical.not_not, Nat.le_refl, Nat.lt_irrefl, Bool.true_eq_false, n_lit, n_a, n_c, n_s, n_b, n_m, n_g, n_w, n_n, rk_X5_readTerm]
          refine ih (k + 1) sh I3 J R P t2 (c2 ++ [e]) _ (by simp) (by omega) hC (xC_fr hx f13.2.1 (f13.1 65 (by omega) (by omega) (by omega))) ?_ b3 ?_ (pFc_fr f13 hP)
          · simpa only [tC, b2] using a2
          · rw [List.length_append, List.length_cons, List.length_nil]; omega
      refine pp_go rfl sk_X5_readTerm_43 ?_
      simp (disch := omega) only [sg_X5_readTerm_43, sw_c, sw_n, sx, sf_4, sv_i, sv_j, sv_r, sv_q1, sv_q0, sv_1i, sv_1r, sv_2, sl_i, sl_j, sl_a, sl_v, sp_p, sp_f1, sp_f2, sc_w, sc_c, sc_r, sc_f, sc_a, sc_k, pp_in, pp_al, ↓reduceIte, Nat.reduceEqDiff, Nat.reduceLT, Nat.reduceLeDiff, Nat.reduceAdd, Nat.reduceSub, Nat.reduceMul, List.length_cons, List.length_nil, true_and, and_true, and_self, true_implies, eq_self, not_true_eq_false, not_false_eq_true, false_implies, implies_true, false_and, and_false, Bool.false_eq_true, or_true, true_or, or_false, false_or, Classical.not_not, Nat.le_refl, Nat.lt_irrefl, Bool.true_eq_false, n_lit, n_a, n_c, n_s, n_b, n_m, n_g, n_w, n_n, rk_X5_readTerm, hC]
      refine c_isSign hC ht (by omega) ?_
      simp (disch := omega) only [sw_c, sw_n, sx, sf_4, sv_i, sv_j, sv_r, sv_q1, sv_q0, sv_1i, sv_1r, sv_2, sl_i, sl_j, sl_a, sl_v, sp_p, sp_f1, sp_f2, sc_w, sc_c, sc_r, sc_f, sc_a, sc_k, pp_in, pp_al, ↓reduceIte, Nat.reduceEqDiff, Nat.reduceLT, Nat.reduceLeDiff, Nat.reduceAdd, Nat.reduceSub, Nat.reduceMul, List.length_cons, List.length_nil, true_and, and_true, and_self, true_implies, eq_self, not_true_eq_false, not_false_eq_true, false_implies, implies_true, false_and, and_false, Bool.false_eq_true, or_true, true_or, or_false, false_or, Classical.not_not, Nat.le_refl, Nat.lt_irrefl, Bool.true_eq_false, n_lit, n_a, n_c, n_s, n_b, n_m, n_g, n_w, n_n, rk_X5_readTerm, hC]
      refine ⟨fun q => ?_, fun q => ?_⟩
      · refine pp_go rfl sk_X5_readTerm_60 ?_
        simp (disch := omega) only [sg_X5_readTerm_60, sw_c, sw_n, sx, sf_4, sv_i, sv_j, sv_r, sv_q1, sv_q0, sv_1i, sv_1r, sv_2, sl_i, sl_j, sl_a, sl_v, sp_p, sp_f1, sp_f2, sc_w, sc_c, sc_r, sc_f, sc_a, sc_k, pp_in, pp_al, ↓reduceIte, Nat.reduceEqDiff, Nat.reduceLT, Nat.reduceLeDiff, Nat.reduceAdd, Nat.reduceSub, Nat.reduceMul, List.length_cons, List.length_nil, true_and, and_true, and_self, true_implies, eq_self, not_true_eq_false, not_false_eq_true, false_implies, implies_true, false_and, and_false, Bool.false_eq_true, or_true, true_or, or_false, false_or, Classical.not_not, Nat.le_refl, Nat.lt_irrefl, Bool.true_eq_false, n_lit, n_a, n_c, n_s, n_b, n_m, n_g, n_w, n_n, rk_X5_readTerm]
        exact KS _ 7 (by rw [if_neg (fun z => q ⟨t3, z⟩)]) (by decide)
      · exact KS _ 6 (by rw [if_pos q.2]) (by decide)
    refine pp_go rfl sk_X5_readTerm_8 ?_
    simp (disch := omega) only [sg_X5_readTerm_8, sw_c, sw_n, sx, sf_4, sv_i, sv_j, sv_r, sv_q1, sv_q0, sv_1i, sv_1r, sv_2, sl_i, sl_j, sl_a, sl_v, sp_p, sp_f1, sp_f2, sc_w, sc_c, sc_r, sc_f, sc_a, sc_k, pp_in, pp_al, ↓reduceIte, Nat.reduceEqDiff, Nat.reduceLT, Nat.reduceLeDiff, Nat.reduceAdd, Nat.reduceSub, Nat.reduceMul, List.length_cons, List.length_nil, true_and, and_true, and_self, true_implies, eq_self, not_true_eq_false, not_false_eq_true, false_implies, implies_true, false_and, and_false, Bool.false_eq_true, or_true, true_or, or_false, false_or, Classical.not_not, Nat.le_refl, Nat.lt_irrefl, Bool.true_eq_false, n_lit, n_a, n_c, n_s, n_b, n_m, n_g, n_w, n_n, rk_X5_readTerm, hC, q1]
    refine c_isSign hC ht (by omega) ?_
    simp (disch := omega) only [sw_c, sw_n, sx, sf_4, sv_i, sv_j, sv_r, sv_q1, sv_q0, sv_1i, sv_1r, sv_2, sl_i, sl_j, sl_a, sl_v, sp_p, sp_f1, sp_f2, sc_w, sc_c, sc_r, sc_f, sc_a, sc_k, pp_in, pp_al, ↓reduceIte, Nat.reduceEqDiff, Nat.reduceLT, Nat.reduceLeDiff, Nat.reduceAdd, Nat.reduceSub, Nat.reduceMul, List.length_cons, List.length_nil, true_and, and_true, and_self, true_implies, eq_self, not_true_eq_false, not_false_eq_true, false_implies, implies_true, false_and, and_false, Bool.false_eq_true, or_true, true_or, or_false, false_or, Classical.not_not, Nat.le_refl, Nat.lt_irrefl, Bool.true_eq_false, n_lit, n_a, n_c, n_s, n_b, n_m, n_g, n_w, n_n, rk_X5_readTerm, hC]
    refine ⟨fun s1 => KL (Or.inl s1), fun s1 => ?_⟩
    refine c_isSign hC ht (by omega) ?_
    simp (disch := omega) only [sw_c, sw_n, sx, sf_4, sv_i, sv_j, sv_r, sv_q1, sv_q0, sv_1i, sv_1r, sv_2, sl_i, sl_j, sl_a, sl_v, sp_p, sp_f1, sp_f2, sc_w, sc_c, sc_r, sc_f, sc_a, sc_k, pp_in, pp_al, ↓reduceIte, Nat.reduceEqDiff, Nat.reduceLT, Nat.reduceLeDiff, Nat.reduceAdd, Nat.reduceSub, Nat.reduceMul, List.length_cons, List.length_nil, true_and, and_true, and_self, true_implies, eq_self, not_true_eq_false, not_false_eq_true, false_implies, implies_true, false_and, and_false, Bool.false_eq_true, or_true, true_or, or_false, false_or, Classical.not_not, Nat.le_refl, Nat.lt_irrefl, Bool.true_eq_false, n_lit, n_a, n_c, n_s, n_b, n_m, n_g, n_w, n_n, rk_X5_readTerm, hC]
    refine ⟨fun s2 => KE (fun z => z.elim s1 s2), fun s2 => KL (Or.inr s2)⟩
theorem c_term {F : TK → List Nat → PR} {o m : Nat} (ho : o ≤ 5) (hF : cSC g (h + 6) mi_X5_readFactor b n F o) (gF : pgd b n F m) (eF : eok F) : cSC g (h + 7) mi_X5_readTerm b n (jnd b n 42 47 6 7 F) o := by
  intro sh I J R P t c hC hx ht hc hl hP
  refine pp_st0 [(0, .ref 66), (1, .int (Int32.ofNat o))] ok_X5_readTerm rfl (Nat.le_of_ble_eq_true rfl) rfl ?_
  have h7 := hx.2.2.1
  unfold jnd at hP
  refine pp_go rfl sk_X5_readTerm_0 ?_
  simp (disch := omega) only [sg_X5_readTerm_0, sw_c, sw_n, sx, sf_4, sv_i, sv_j, sv_r, sv_q1, sv_q0, sv_1i, sv_1r, sv_2, sl_i, sl_j, sl_a, sl_v, sp_p, sp_f1, sp_f2, sc_w, sc_c, sc_r, sc_f, sc_a, sc_k, pp_in, pp_al, ↓reduceIte, Nat.reduceEqDiff, Nat.reduceLT, Nat.reduceLeDiff, Nat.reduceAdd, Nat.reduceSub, Nat.reduceMul, List.length_cons, List.length_nil, true_and, and_true, and_self, true_implies, eq_self, not_true_eq_false, not_false_eq_true, false_implies, implies_true, false_and, and_false, Bool.false_eq_true, or_true, true_or, or_false, false_or, Classical.not_not, Nat.le_refl, Nat.lt_irrefl, Bool.true_eq_false, n_lit, n_a, n_c, n_s, n_b, n_m, n_g, n_w, n_n, rk_X5_readTerm, hC]
  refine hF _ _ _ _ _ t c hC hx ht hc hl ?_
  cases hr : F t c with
  | inl er =>
    rw [hr] at hP
    have e0 := eF _ _ _ hr
    have e1 : ¬ er.1 = 0 := by omega
    intro I2 a1 a2 a3
    simp (disch := omega) only [sw_c, sw_n, sx, sf_4, sv_i, sv_j, sv_r, sv_q1, sv_q0, sv_1i, sv_1r, sv_2, sl_i, sl_j, sl_a, sl_v, sp_p, sp_f1, sp_f2, sc_w, sc_c, sc_r, sc_f, sc_a, sc_k, pp_in, pp_al, ↓reduceIte, Nat.reduceEqDiff, Nat.reduceLT, Nat.reduceLeDiff, Nat.reduceAdd, Nat.reduceSub, Nat.reduceMul, List.length_cons, List.length_nil, true_and, and_true, and_self, true_implies, eq_self, not_true_eq_false, not_false_eq_true, false_implies, implies_true, false_and, and_false, Bool.false_eq_true, or_true, true_or, or_false, false_or, Classical.not_not, Nat.le_refl, Nat.lt_irrefl, Bool.true_eq_false, n_lit, n_a, n_c, n_s, n_b, n_m, n_g, n_w, n_n, rk_X5_readTerm]
    refine pp_go rfl sk_X5_readTerm_8 ?_
    simp (disch := omega) only [sg_X5_readTerm_8, sw_c, sw_n, sx, sf_4, sv_i, sv_j, sv_r, sv_q1, sv_q0, sv_1i, sv_1r, sv_2, sl_i, sl_j, sl_a, sl_v, sp_p, sp_f1, sp_f2, sc_w, sc_c, sc_r, sc_f, sc_a, sc_k, pp_in, pp_al, ↓reduceIte, Nat.reduceEqDiff, Nat.reduceLT, Nat.reduceLeDiff, Nat.reduceAdd, Nat.reduceSub, Nat.reduceMul, List.length_cons, List.length_nil, true_and, and_true, and_self, true_implies, eq_self, not_true_eq_false, not_false_eq_true, false_implies, implies_true, false_and, and_false, Bool.false_eq_true, or_true, true_or, or_false, false_or, Classical.not_not, Nat.le_refl, Nat.lt_irrefl, Bool.true_eq_false, n_lit, n_a, n_c, n_s, n_b, n_m, n_g, n_w, n_n, rk_X5_readTerm, e1]
    refine pp_go rfl sk_X5_readTerm_95 ?_
    simp (disch := omega) only [sg_X5_readTerm_95, sw_c, sw_n, sx, sf_4, sv_i, sv_j, sv_r, sv_q1, sv_q0, sv_1i, sv_1r, sv_2, sl_i, sl_j, sl_a, sl_v, sp_p, sp_f1, sp_f2, sc_w, sc_c, sc_r, sc_f, sc_a, sc_k, pp_in, pp_al, ↓reduceIte, Nat.reduceEqDiff, Nat.reduceLT, Nat.reduceLeDiff, Nat.reduceAdd, Nat.reduceSub, Nat.reduceMul, List.length_cons, List.length_nil, true_and, and_true, and_self, true_implies, eq_self, not_true_eq_false, not_false_eq_true, false_implies, implies_true, false_and, and_false, Bool.false_eq_true, or_true, true_or, or_false, false_or, Classical.not_not, Nat.le_refl, Nat.lt_irrefl, Bool.true_eq_false, n_lit, n_a, n_c, n_s, n_b, n_m, n_g, n_w, n_n, rk_X5_readTerm]
    exact hP I2 a1 a2 a3
  | inr r =>
    obtain ⟨t2, c2⟩ := r
    rw [hr] at hP
    have gg := gF _ _ _ _ ht.1 hr
    intro I2 a1 a2 a3
    dsimp only at a2 a3 hP
    simp (disch := omega) only [sw_c, sw_n, sx, sf_4, sv_i, sv_j, sv_r, sv_q1, sv_q0, sv_1i, sv_1r, sv_2, sl_i, sl_j, sl_a, sl_v, sp_p, sp_f1, sp_f2, sc_w, sc_c, sc_r, sc_f, sc_a, sc_k, pp_in, pp_al, ↓reduceIte, Nat.reduceEqDiff, Nat.reduceLT, Nat.reduceLeDiff, Nat.reduceAdd, Nat.reduceSub, Nat.reduceMul, List.length_cons, List.length_nil, true_and, and_true, and_self, true_implies, eq_self, not_true_eq_false, not_false_eq_true, false_implies, implies_true, false_and, and_false, Bool.false_eq_true, or_true, true_or, or_false, false_or, Classical.not_not, Nat.le_refl, Nat.lt_irrefl, Bool.true_eq_false, n_lit, n_a, n_c, n_s, n_b, n_m, n_g, n_w, n_n, rk_X5_readTerm]
    exact c_term_l hF gF eF 700 0 sh I2 J R P t2 c2 _ (by simp) (by omega) hC (xC_fr hx a1.2.1 (a1.1 65 (by omega) (by omega) (by omega))) a2 a3 (by omega) (pFc_fr a1 hP)
theorem c_sum_l {F : TK → List Nat → PR} {o m : Nat} (hF : cSC g (h + 7) mi_X5_readTerm b n F o) (gF : pgd b n F m) (eF : eok F) :
    ∀ (f k : Nat) (sh : List (Nat × Nat)) (I : Nat → Nat → Int32) (J : Nat → Nat → Int64) (R : Nat → Nat → Option Nat) (P : pp_R → pp_W → Prop) (t : TK) (c : List Nat) (L : List (Nat × Value)), (∀ q ∈ [(0, Value.ref 66), (1, .int (Int32.ofNat o)), (2, .int (Int32.ofNat 0)), (3, .int (Int32.ofNat k))], q ∈ L) → f + k = 700 → sC sh R → xC I b n → tC I b n t → cC I c → c.length ≤ t.2.1 → pFc sh I J R P b n (lop b n 43 45 4 5 F f t c) → pp_N g (h + 7) mi_X5_readSum P 8 L [] (sh, I, J, R) := by
  intro f
  induction f with
  | zero =>
    intro k sh I J R P t c L hL hf hC hx ht hc hl hP
    have hk : k = 700 := by omega
    subst hk
    rw [lop] at hP
    refine pp_N.sub ?_ hL
    refine pp_go rfl sk_X5_readSum_8 ?_
    simp (disch := omega) only [sg_X5_readSum_8, sw_c, sw_n, sx, sf_4, sv_i, sv_j, sv_r, sv_q1, sv_q0, sv_1i, sv_1r, sv_2, sl_i, sl_j, sl_a, sl_v, sp_p, sp_f1, sp_f2, sc_w, sc_c, sc_r, sc_f, sc_a, sc_k, pp_in, pp_al, ↓reduceIte, Nat.reduceEqDiff, Nat.reduceLT, Nat.reduceLeDiff, Nat.reduceAdd, Nat.reduceSub, Nat.reduceMul, List.length_cons, List.length_nil, true_and, and_true, and_self, true_implies, eq_self, not_true_eq_false, not_false_eq_true, false_implies, implies_true, false_and, and_false, Bool.false_eq_true, or_true, true_or, or_false, false_or, Classical.not_not, Nat.le_refl, Nat.lt_irrefl, Bool.true_eq_false, n_lit, n_a, n_c, n_s, n_b, n_m, n_g, n_w, n_n, rk_X5_readSum]
    refine pp_go rfl sk_X5_readSum_95 ?_
    simp (disch := omega) only [sg_X5_readSum_95, sw_c, sw_n, sx, sf_4, sv_i, sv_j, sv_r, sv_q1, sv_q0, sv_1i, sv_1r, sv_2, sl_i, sl_j, sl_a, sl_v, sp_p, sp_f1, sp_f2, sc_w, sc_c, sc_r, sc_f, sc_a, sc_k, pp_in, pp_al, ↓reduceIte, Nat.reduceEqDiff, Nat.reduceLT, Nat.reduceLeDiff, Nat.reduceAdd, Nat.reduceSub, Nat.reduceMul, List.length_cons, List.length_nil, true_and, and_true, and_self, true_implies, eq_self, not_true_eq_false, not_false_eq_true, false_implies, implies_true, false_and, and_false, Bool.false_eq_true, or_true, true_or, or_false, false_or, Classical.not_not, Nat.le_refl, Nat.lt_irrefl, Bool.true_eq_false, n_lit, n_a, n_c, n_s, n_b, n_m, n_g, n_w, n_n, rk_X5_readSum]
    exact hP I (fG.refl I) ht hc
  | succ f ih =>
    intro k sh I J R P t c L hL hf hC hx ht hc hl hP
    refine pp_N.sub ?_ hL
    have tb := tk_b ht.1
    have h7 := hx.2.2.1
    have q1 : ¬ 700 ≤ k := by omega
    rw [lop] at hP
    have KE : ¬ (sgP t 43 ∨ sgP t 45) → pp_N g (h + 7) mi_X5_readSum P 95 [(0, .ref 66), (1, .int (Int32.ofNat o)), (2, .int (Int32.ofNat 0)), (3, .int (Int32.ofNat k))] [] (sh, I, J, R) := by
      intro z
      rw [if_neg z] at hP
      refine pp_go rfl sk_X5_readSum_95 ?_
      simp (disch := omega) only [sg_X5_readSum_95, sw_c, sw_n, sx, sf_4, sv_i, sv_j, sv_r, sv_q1, sv_q0, sv_1i, sv_1r, sv_2, sl_i, sl_j, sl_a, sl_v, sp_p, sp_f1, sp_f2, sc_w, sc_c, sc_r, sc_f, sc_a, sc_k, pp_in, pp_al, ↓reduceIte, Nat.reduceEqDiff, Nat.reduceLT, Nat.reduceLeDiff, Nat.reduceAdd, Nat.reduceSub, Nat.reduceMul, List.length_cons, List.length_nil, true_and, and_true, and_self, true_implies, eq_self, not_true_eq_false, not_false_eq_true, false_implies, implies_true, false_and, and_false, Bool.false_eq_true, or_true, true_or, or_false, false_or, Classical.not_not, Nat.le_refl, Nat.lt_irrefl, Bool.true_eq_false, n_lit, n_a, n_c, n_s, n_b, n_m, n_g, n_w, n_n, rk_X5_readSum]
      exact hP I (fG.refl I) ht hc
    have KL : (sgP t 43 ∨ sgP t 45) → pp_N g (h + 7) mi_X5_readSum P 43 [(0, .ref 66), (1, .int (Int32.ofNat o)), (2, .int (Int32.ofNat 0)), (3, .int (Int32.ofNat k))] [] (sh, I, J, R) := by
      intro z
      rw [if_pos z] at hP
      have t3 : t.1 = 3 := by rcases z with z | z <;> exact z.1
      have t1 := tb.2.2.1 (by omega)
      have nb := nxt_ok ht.1
      have KS : ∀ (v : Int32) (e : Nat), e = (if t.2.2.2 = 43 then 4 else 5) → v = encC e → pp_N g (h + 7) mi_X5_readSum P 62 [(0, .ref 66), (1, .int (Int32.ofNat o)), (2, .int (Int32.ofNat 0)), (3, .int (Int32.ofNat k))] [.int v] (sh, I, J, R) := by
        intro v e he hv
        rw [← he] at hP
        refine pp_go rfl sk_X5_readSum_62 ?_
        simp (disch := omega) only [sg_X5_readSum_62, sw_c, sw_n, sx, sf_4, sv_i, sv_j, sv_r, sv_q1, sv_q0, sv_1i, sv_1r, sv_2, sl_i, sl_j, sl_a, sl_v, sp_p, sp_f1, sp_f2, sc_w, sc_c, sc_r, sc_f, sc_a, sc_k, pp_in, pp_al, ↓reduceIte, Nat.reduceEqDiff, Nat.reduceLT, Nat.reduceLeDiff, Nat.reduceAdd, Nat.reduceSub, Nat.reduceMul, List.length_cons, List.length_nil, true_and, and_true, and_self, true_implies, eq_self, not_true_eq_false, not_false_eq_true, false_implies, implies_true, false_and, and_false, Bool.false_eq_true, or_true, true_or, or_false, false_or, Classical.not_not, Nat.le_refl, Nat.lt_irrefl, Bool.true_eq_false, n_lit, n_a, n_c, n_s, n_b, n_m, n_g, n_w, n_n, rk_X5_readSum, hC]
        refine c_next hC hx tb.2.1 ht.2.2.2.1 (fun I1 hf1 ht1 => ?_)
        simp (disch := omega) only [sw_c, sw_n, sx, sf_4, sv_i, sv_j, sv_r, sv_q1, sv_q0, sv_1i, sv_1r, sv_2, sl_i, sl_j, sl_a, sl_v, sp_p, sp_f1, sp_f2, sc_w, sc_c, sc_r, sc_f, sc_a, sc_k, pp_in, pp_al, ↓reduceIte, Nat.reduceEqDiff, Nat.reduceLT, Nat.reduceLeDiff, Nat.reduceAdd, Nat.reduceSub, Nat.reduceMul, List.length_cons, List.length_nil, true_and, and_true, and_self, true_implies, eq_self, not_true_eq_false, not_false_eq_true, false_implies, implies_true, false_and, and_false, Bool.false_eq_true, or_true, true_or, or_false, false_or, Classical.not_not, Nat.le_refl, Nat.lt_irrefl, Bool.true_eq_false, n_lit, n_a, n_c, n_s, n_b, n_m, n_g, n_w, n_n, rk_X5_readSum, hC]
        refine hF _ _ _ _ _ (nxt b n t) c hC (xC_fr hx hf1.2 (hf1.1 65 (by omega))) ht1 (cC_cg hc (hf1.1 71 (by omega)) (hf1.1 72 (by omega))) (by omega) ?_
        cases hr : F (nxt b n t) c with
        | inl er =>
          rw [hr] at hP
          have e0 := eF _ _ _ hr
          have e1 : ¬ er.1 = 0 := by omega
          intro I2 a1 a2 a3
          obtain ⟨m2, m7, m1⟩ := a2
          simp (disch := omega) only [sw_c, sw_n, sx, sf_4, sv_i, sv_j, sv_r, sv_q1, sv_q0, sv_1i, sv_1r, sv_2, sl_i, sl_j, sl_a, sl_v, sp_p, sp_f1, sp_f2, sc_w, sc_c, sc_r, sc_f, sc_a, sc_k, pp_in, pp_al, ↓reduceIte, Nat.reduceEqDiff, Nat.reduceLT, Nat.reduceLeDiff, Nat.reduceAdd, Nat.reduceSub, Nat.reduceMul, List.length_cons, List.length_nil, true_and, and_true, and_self, true_implies, eq_self, not_true_eq_false, not_false_eq_true, false_implies, implies_true, false_and, and_false, Bool.false_eq_true, or_true, true_or, or_false, false_or, Classical.not_not, Nat.le_refl, Nat.lt_irrefl, Bool.true_eq_false, n_lit, n_a, n_c, n_s, n_b, n_m, n_g, n_w, n_n, rk_X5_readSum, hC]
          refine c_add (F := 71) (K := 72) hC.2.2.2.1.2.2.2.2.1 hC.2.2.2.1.2.2.2.2.2.1 hC.2.2.2.1.2.2.2.2.2.2.2.2.2.2.2.1 ⟨by simp, by simp⟩ m1 m7 (fun I3 b1 b2 b3 b4 => ?_)
          have K95 : P (.inl (some (.int (Int32.ofNat er.1)))) (sh, I3, J, R) := hP I3 (fG.trans (fG.trans (fG_B hf1) a1) ⟨fun a x y z => b1 a y z, by rw [b1 94 (by omega) (by omega)], b2⟩) b3 (by rw [b1 94 (by omega) (by omega)]; exact a3)
          simp (disch := omega) only [sw_c, sw_n, sx, sf_4, sv_i, sv_j, sv_r, sv_q1, sv_q0, sv_1i, sv_1r, sv_2, sl_i, sl_j, sl_a, sl_v, sp_p, sp_f1, sp_f2, sc_w, sc_c, sc_r, sc_f, sc_a, sc_k, pp_in, pp_al, ↓reduceIte, Nat.reduceEqDiff, Nat.reduceLT, Nat.reduceLeDiff, Nat.reduceAdd, Nat.reduceSub, Nat.reduceMul, List.length_cons, List.length_nil, true_and, and_true, and_self, true_implies, eq_self, not_true_eq_false, not_false_eq_true, false_implies, implies_true, false_and, and_false, Bool.false_eq_true, or_true, true_or, or_false, false_or, Classical.not_not, Nat.le_refl, Nat.lt_irrefl, Bool.true_eq_false, n_lit, n_a, n_c, n_s, n_b, n_m, n_g, n_w, n_n, rk_X5_readSum]
          by_cases kk : 700 ≤ k + 1
          · refine pp_go rfl sk_X5_readSum_8 ?_
            simp (disch := omega) only [sg_X5_readSum_8, sw_c, sw_n, sx, sf_4, sv_i, sv_j, sv_r, sv_q1, sv_q0, sv_1i, sv_1r, sv_2, sl_i, sl_j, sl_a, sl_v, sp_p, sp_f1, sp_f2, sc_w, sc_c, sc_r, sc_f, sc_a, sc_k, pp_in, pp_al, ↓reduceIte, Nat.reduceEqDiff, Nat.reduceLT, Nat.reduceLeDiff, Nat.reduceAdd, Nat.reduceSub, Nat.reduceMul, List.length_cons, List.length_nil, true_and, and_true, and_self, true_implies, eq_self, not_true_eq_false, not_false_eq_true, false_implies, implies_true, false_and, and_false, Bool.false_eq_true, or_true, true_or, or_false, false_or, Classical.not_not, Nat.le_refl, Nat.lt_irrefl, Bool.true_eq_false, n_lit, n_a, n_c, n_s, n_b, n_m, n_g, n_w, n_n, rk_X5_readSum, kk]
            refine pp_go rfl sk_X5_readSum_95 ?_
            simp (disch := omega) only [sg_X5_readSum_95, sw_c, sw_n, sx, sf_4, sv_i, sv_j, sv_r, sv_q1, sv_q0, sv_1i, sv_1r, sv_2, sl_i, sl_j, sl_a, sl_v, sp_p, sp_f1, sp_f2, sc_w, sc_c, sc_r, sc_f, sc_a, sc_k, pp_in, pp_al, ↓reduceIte, Nat.reduceEqDiff, Nat.reduceLT, Nat.reduceLeDiff, Nat.reduceAdd, Nat.reduceSub, Nat.reduceMul, List.length_cons, List.length_nil, true_and, and_true, and_self, true_implies, eq_self, not_true_eq_false, not_false_eq_true, false_implies, implies_true, false_and, and_false, Bool.false_eq_true, or_true, true_or, or_false, false_or, Classical.not_not, Nat.le_refl, Nat.lt_irrefl, Bool.true_eq_false, n_lit, n_a, n_c, n_s, n_b, n_m, n_g, n_w, n_n, rk_X5_readSum]
            exact K95
          · refine pp_go rfl sk_X5_readSum_8 ?_
            simp (disch := omega) only [sg_X5_readSum_8, sw_c, sw_n, sx, sf_4, sv_i, sv_j, sv_r, sv_q1, sv_q0, sv_1i, sv_1r, sv_2, sl_i, sl_j, sl_a, sl_v, sp_p, sp_f1, sp_f2, sc_w, sc_c, sc_r, sc_f, sc_a, sc_k, pp_in, pp_al, ↓reduceIte, Nat.reduceEqDiff, Nat.reduceLT, Nat.reduceLeDiff, Nat.reduceAdd, Nat.reduceSub, Nat.reduceMul, List.length_cons, List.length_nil, true_and, and_true, and_self, true_implies, eq_self, not_true_eq_false, not_false_eq_true, false_implies, implies_true, false_and, and_false, Bool.false_eq_true, or_true, true_or, or_false, false_or, Classical.not_not, Nat.le_refl, Nat.lt_irrefl, Bool.true_eq_false, n_lit, n_a, n_c, n_s, n_b, n_m, n_g, n_w, n_n, rk_X5_readSum, kk, e1]
            refine pp_go rfl sk_X5_readSum_95 ?_
            simp (disch := omega) only [sg_X5_readSum_95, sw_c, sw_n, sx, sf_4, sv_i, sv_j, sv_r, sv_q1, sv_q0, sv_1i, sv_1r, sv_2, sl_i, sl_j, sl_a, sl_v, sp_p, sp_f1, sp_f2, sc_w, sc_c, sc_r, sc_f, sc_a, sc_k, pp_in, pp_al, ↓reduceIte, Nat.reduceEqDiff, Nat.reduceLT, Nat.reduceLeDiff, Nat.reduceAdd, Nat.reduceSub, Nat.reduceMul, List.length_cons, List.length_nil, true_and, and_true, and_self, true_implies, eq_self, not_true_eq_false, not_false_eq_true, false_implies, implies_true, false_and, and_false, Bool.false_eq_true, or_true, true_or, or_false, false_or, Classical.not_not, Nat.le_refl, Nat.lt_irrefl, Bool.true_eq_false, n_lit, n_a, n_c, n_s, n_b, n_m, n_g, n_w, n_n, rk_X5_readSum]
            exact K95
        | inr r =>
          obtain ⟨t2, c2⟩ := r
          rw [hr] at hP
          have gg := gF _ _ _ _ nb.1 hr
          have g1 := tk_b gg.1
          intro I2 a1 a2 a3
          dsimp only at a2 a3 hP
          have f12 : fG I I2 := fG.trans (fG_B hf1) a1
          simp (disch := omega) only [sw_c, sw_n, sx, sf_4, sv_i, sv_j, sv_r, sv_q1, sv_q0, sv_1i, sv_1r, sv_2, sl_i, sl_j, sl_a, sl_v, sp_p, sp_f1, sp_f2, sc_w, sc_c, sc_r, sc_f, sc_a, sc_k, pp_in, pp_al, ↓reduceIte, Nat.reduceEqDiff, Nat.reduceLT, Nat.reduceLeDiff, Nat.reduceAdd, Nat.reduceSub, Nat.reduceMul, List.length_cons, List.length_nil, true_and, and_true, and_self, true_implies, eq_self, not_true_eq_false, not_false_eq_true, false_implies, implies_true, false_and, and_false, Bool.false_eq_true, or_true, true_or, or_false, false_or, Classical.not_not, Nat.le_refl, Nat.lt_irrefl, Bool.true_eq_false, n_lit, n_a, n_c, n_s, n_b, n_m, n_g, n_w, n_n, rk_X5_readSum, hC]
          refine c_addP (c := c2) (e := e) hC a3 (by omega) hv (fun I3 b1 b2 b3 => ?_)
          have f13 := fG.trans f12 b1
          simp (disch := omega) only [sw_c, sw_n, sx, sf_4, sv_i, sv_j, sv_r, sv_q1, sv_q0, sv_1i, sv_1r, sv_2, sl_i, sl_j, sl_a, sl_v, sp_p, sp_f1, sp_f2, sc_w, sc_c, sc_r, sc_f, sc_a, sc_k, pp_in, pp_al, ↓reduceIte, Nat.reduceEqDiff, Nat.reduceLT, Nat.reduceLeDiff, Nat.reduceAdd, Nat.reduceSub, Nat.reduceMul, List.length_cons, List.length_nil, true_and, and_true, and_self, true_implies, eq_self, not_true_eq_false, not_false_eq_true, false_implies, implies_true, false_and, and_false, Bool.false_eq_true, or_true, true_or, or_false, false_or, Classical.not_not, Nat.le_refl, Nat.lt_irrefl, Bool.true_eq_false, n_lit, n_a, n_c, n_s, n_b, n_m, n_g, n_w, n_n, rk_X5_readSum]
          refine ih (k + 1) sh I3 J R P t2 (c2 ++ [e]) _ (by simp) (by omega) hC (xC_fr hx f13.2.1 (f13.1 65 (by omega) (by omega) (by omega))) ?_ b3 ?_ (pFc_fr f13 hP)
          · simpa only [tC, b2] using a2
          · rw [List.length_append, List.length_cons, List.length_nil]; omega
      refine pp_go rfl sk_X5_readSum_43 ?_
      simp (disch := omega) only [sg_X5_readSum_43, sw_c, sw_n, sx, sf_4, sv_i, sv_j, sv_r, sv_q1, sv_q0, sv_1i, sv_1r, sv_2, sl_i, sl_j, sl_a, sl_v, sp_p, sp_f1, sp_f2, sc_w, sc_c, sc_r, sc_f, sc_a, sc_k, pp_in, pp_al, ↓reduceIte, Nat.reduceEqDiff, Nat.reduceLT, Nat.reduceLeDiff, Nat.reduceAdd, Nat.reduceSub, Nat.reduceMul, List.length_cons, List.length_nil, true_and, and_true, and_self, true_implies, eq_self, not_true_eq_false, not_false_eq_true, false_implies, implies_true, false_and, and_false, Bool.false_eq_true, or_true, true_or, or_false, false_or, Classical.not_not, Nat.le_refl, Nat.lt_irrefl, Bool.true_eq_false, n_lit, n_a, n_c, n_s, n_b, n_m, n_g, n_w, n_n, rk_X5_readSum, hC]
      refine c_isSign hC ht (by omega) ?_
      simp (disch := omega) only [sw_c, sw_n, sx, sf_4, sv_i, sv_j, sv_r, sv_q1, sv_q0, sv_1i, sv_1r, sv_2, sl_i, sl_j, sl_a, sl_v, sp_p, sp_f1, sp_f2, sc_w, sc_c, sc_r, sc_f, sc_a, sc_k, pp_in, pp_al, ↓reduceIte, Nat.reduceEqDiff, Nat.reduceLT, Nat.reduceLeDiff, Nat.reduceAdd, Nat.reduceSub, Nat.reduceMul, List.length_cons, List.length_nil, true_and, and_true, and_self, true_implies, eq_self, not_true_eq_false, not_false_eq_true, false_implies, implies_true, false_and, and_false, Bool.false_eq_true, or_true, true_or, or_false, false_or, Classical.not_not, Nat.le_refl, Nat.lt_irrefl, Bool.true_eq_false, n_lit, n_a, n_c, n_s, n_b, n_m, n_g, n_w, n_n, rk_X5_readSum, hC]
      refine ⟨fun q => ?_, fun q => ?_⟩
      · refine pp_go rfl sk_X5_readSum_60 ?_
        simp (disch := omega) only [sg_X5_readSum_60, sw_c, sw_n, sx, sf_4, sv_i, sv_j, sv_r, sv_q1, sv_q0, sv_1i, sv_1r, sv_2, sl_i, sl_j, sl_a, sl_v, sp_p, sp_f1, sp_f2, sc_w, sc_c, sc_r, sc_f, sc_a, sc_k, pp_in, pp_al, ↓reduceIte, Nat.reduceEqDiff, Nat.reduceLT, Nat.reduceLeDiff, Nat.reduceAdd, Nat.reduceSub, Nat.reduceMul, List.length_cons, List.length_nil, true_and, and_true, and_self, true_implies, eq_self, not_true_eq_false, not_false_eq_true, false_implies, implies_true, false_and, and_false, Bool.false_eq_true, or_true, true_or, or_false, false_or, Classical.not_not, Nat.le_refl, Nat.lt_irrefl, Bool.true_eq_false, n_lit, n_a, n_c, n_s, n_b, n_m, n_g, n_w, n_n, rk_X5_readSum]
        exact KS _ 5 (by rw [if_neg (fun z => q ⟨t3, z⟩)]) (by decide)
      · exact KS _ 4 (by rw [if_pos q.2]) (by decide)
    refine pp_go rfl sk_X5_readSum_8 ?_
    simp (disch := omega) only [sg_X5_readSum_8, sw_c, sw_n, sx, sf_4, sv_i, sv_j, sv_r, sv_q1, sv_q0, sv_1i, sv_1r, sv_2, sl_i, sl_j, sl_a, sl_v, sp_p, sp_f1, sp_f2, sc_w, sc_c, sc_r, sc_f, sc_a, sc_k, pp_in, pp_al, ↓reduceIte, Nat.reduceEqDiff, Nat.reduceLT, Nat.reduceLeDiff, Nat.reduceAdd, Nat.reduceSub, Nat.reduceMul, List.length_cons, List.length_nil, true_and, and_true, and_self, true_implies, eq_self, not_true_eq_false, not_false_eq_true, false_implies, implies_true, false_and, and_false, Bool.false_eq_true, or_true, true_or, or_false, false_or, Classical.not_not, Nat.le_refl, Nat.lt_irrefl, Bool.true_eq_false, n_lit, n_a, n_c, n_s, n_b, n_m, n_g, n_w, n_n, rk_X5_readSum, hC, q1]
    refine c_isSign hC ht (by omega) ?_
    simp (disch := omega) only [sw_c, sw_n, sx, sf_4, sv_i, sv_j, sv_r, sv_q1, sv_q0, sv_1i, sv_1r, sv_2, sl_i, sl_j, sl_a, sl_v, sp_p, sp_f1, sp_f2, sc_w, sc_c, sc_r, sc_f, sc_a, sc_k, pp_in, pp_al, ↓reduceIte, Nat.reduceEqDiff, Nat.reduceLT, Nat.reduceLeDiff, Nat.reduceAdd, Nat.reduceSub, Nat.reduceMul, List.length_cons, List.length_nil, true_and, and_true, and_self, true_implies, eq_self, not_true_eq_false, not_false_eq_true, false_implies, implies_true, false_and, and_false, Bool.false_eq_true, or_true, true_or, or_false, false_or, Classical.not_not, Nat.le_refl, Nat.lt_irrefl, Bool.true_eq_false, n_lit, n_a, n_c, n_s, n_b, n_m, n_g, n_w, n_n, rk_X5_readSum, hC]
    refine ⟨fun s1 => KL (Or.inl s1), fun s1 => ?_⟩
    refine c_isSign hC ht (by omega) ?_
    simp (disch := omega) only [sw_c, sw_n, sx, sf_4, sv_i, sv_j, sv_r, sv_q1, sv_q0, sv_1i, sv_1r, sv_2, sl_i, sl_j, sl_a, sl_v, sp_p, sp_f1, sp_f2, sc_w, sc_c, sc_r, sc_f, sc_a, sc_k, pp_in, pp_al, ↓reduceIte, Nat.reduceEqDiff, Nat.reduceLT, Nat.reduceLeDiff, Nat.reduceAdd, Nat.reduceSub, Nat.reduceMul, List.length_cons, List.length_nil, true_and, and_true, and_self, true_implies, eq_self, not_true_eq_false, not_false_eq_true, false_implies, implies_true, false_and, and_false, Bool.false_eq_true, or_true, true_or, or_false, false_or, Classical.not_not, Nat.le_refl, Nat.lt_irrefl, Bool.true_eq_false, n_lit, n_a, n_c, n_s, n_b, n_m, n_g, n_w, n_n, rk_X5_readSum, hC]
    refine ⟨fun s2 => KE (fun z => z.elim s1 s2), fun s2 => KL (Or.inr s2)⟩
theorem c_sum {F : TK → List Nat → PR} {o m : Nat} (ho : o ≤ 5) (hF : cSC g (h + 7) mi_X5_readTerm b n F o) (gF : pgd b n F m) (eF : eok F) : cSC g (h + 8) mi_X5_readSum b n (jnd b n 43 45 4 5 F) o := by
  intro sh I J R P t c hC hx ht hc hl hP
  refine pp_st0 [(0, .ref 66), (1, .int (Int32.ofNat o))] ok_X5_readSum rfl (Nat.le_of_ble_eq_true rfl) rfl ?_
  have h7 := hx.2.2.1
  unfold jnd at hP
  refine pp_go rfl sk_X5_readSum_0 ?_
  simp (disch := omega) only [sg_X5_readSum_0, sw_c, sw_n, sx, sf_4, sv_i, sv_j, sv_r, sv_q1, sv_q0, sv_1i, sv_1r, sv_2, sl_i, sl_j, sl_a, sl_v, sp_p, sp_f1, sp_f2, sc_w, sc_c, sc_r, sc_f, sc_a, sc_k, pp_in, pp_al, ↓reduceIte, Nat.reduceEqDiff, Nat.reduceLT, Nat.reduceLeDiff, Nat.reduceAdd, Nat.reduceSub, Nat.reduceMul, List.length_cons, List.length_nil, true_and, and_true, and_self, true_implies, eq_self, not_true_eq_false, not_false_eq_true, false_implies, implies_true, false_and, and_false, Bool.false_eq_true, or_true, true_or, or_false, false_or, Classical.not_not, Nat.le_refl, Nat.lt_irrefl, Bool.true_eq_false, n_lit, n_a, n_c, n_s, n_b, n_m, n_g, n_w, n_n, rk_X5_readSum, hC]
  refine hF _ _ _ _ _ t c hC hx ht hc hl ?_
  cases hr : F t c with
  | inl er =>
    rw [hr] at hP
    have e0 := eF _ _ _ hr
    have e1 : ¬ er.1 = 0 := by omega
    intro I2 a1 a2 a3
    simp (disch := omega) only [sw_c, sw_n, sx, sf_4, sv_i, sv_j, sv_r, sv_q1, sv_q0, sv_1i, sv_1r, sv_2, sl_i, sl_j, sl_a, sl_v, sp_p, sp_f1, sp_f2, sc_w, sc_c, sc_r, sc_f, sc_a, sc_k, pp_in, pp_al, ↓reduceIte, Nat.reduceEqDiff, Nat.reduceLT, Nat.reduceLeDiff, Nat.reduceAdd, Nat.reduceSub, Nat.reduceMul, List.length_cons, List.length_nil, true_and, and_true, and_self, true_implies, eq_self, not_true_eq_false, not_false_eq_true, false_implies, implies_true, false_and, and_false, Bool.false_eq_true, or_true, true_or, or_false, false_or, Classical.not_not, Nat.le_refl, Nat.lt_irrefl, Bool.true_eq_false, n_lit, n_a, n_c, n_s, n_b, n_m, n_g, n_w, n_n, rk_X5_readSum]
    refine pp_go rfl sk_X5_readSum_8 ?_
    simp (disch := omega) only [sg_X5_readSum_8, sw_c, sw_n, sx, sf_4, sv_i, sv_j, sv_r, sv_q1, sv_q0, sv_1i, sv_1r, sv_2, sl_i, sl_j, sl_a, sl_v, sp_p, sp_f1, sp_f2, sc_w, sc_c, sc_r, sc_f, sc_a, sc_k, pp_in, pp_al, ↓reduceIte, Nat.reduceEqDiff, Nat.reduceLT, Nat.reduceLeDiff, Nat.reduceAdd, Nat.reduceSub, Nat.reduceMul, List.length_cons, List.length_nil, true_and, and_true, and_self, true_implies, eq_self, not_true_eq_false, not_false_eq_true, false_implies, implies_true, false_and, and_false, Bool.false_eq_true, or_true, true_or, or_false, false_or, Classical.not_not, Nat.le_refl, Nat.lt_irrefl, Bool.true_eq_false, n_lit, n_a, n_c, n_s, n_b, n_m, n_g, n_w, n_n, rk_X5_readSum, e1]
    refine pp_go rfl sk_X5_readSum_95 ?_
    simp (disch := omega) only [sg_X5_readSum_95, sw_c, sw_n, sx, sf_4, sv_i, sv_j, sv_r, sv_q1, sv_q0, sv_1i, sv_1r, sv_2, sl_i, sl_j, sl_a, sl_v, sp_p, sp_f1, sp_f2, sc_w, sc_c, sc_r, sc_f, sc_a, sc_k, pp_in, pp_al, ↓reduceIte, Nat.reduceEqDiff, Nat.reduceLT, Nat.reduceLeDiff, Nat.reduceAdd, Nat.reduceSub, Nat.reduceMul, List.length_cons, List.length_nil, true_and, and_true, and_self, true_implies, eq_self, not_true_eq_false, not_false_eq_true, false_implies, implies_true, false_and, and_false, Bool.false_eq_true, or_true, true_or, or_false, false_or, Classical.not_not, Nat.le_refl, Nat.lt_irrefl, Bool.true_eq_false, n_lit, n_a, n_c, n_s, n_b, n_m, n_g, n_w, n_n, rk_X5_readSum]
    exact hP I2 a1 a2 a3
  | inr r =>
    obtain ⟨t2, c2⟩ := r
    rw [hr] at hP
    have gg := gF _ _ _ _ ht.1 hr
    intro I2 a1 a2 a3
    dsimp only at a2 a3 hP
    simp (disch := omega) only [sw_c, sw_n, sx, sf_4, sv_i, sv_j, sv_r, sv_q1, sv_q0, sv_1i, sv_1r, sv_2, sl_i, sl_j, sl_a, sl_v, sp_p, sp_f1, sp_f2, sc_w, sc_c, sc_r, sc_f, sc_a, sc_k, pp_in, pp_al, ↓reduceIte, Nat.reduceEqDiff, Nat.reduceLT, Nat.reduceLeDiff, Nat.reduceAdd, Nat.reduceSub, Nat.reduceMul, List.length_cons, List.length_nil, true_and, and_true, and_self, true_implies, eq_self, not_true_eq_false, not_false_eq_true, false_implies, implies_true, false_and, and_false, Bool.false_eq_true, or_true, true_or, or_false, false_or, Classical.not_not, Nat.le_refl, Nat.lt_irrefl, Bool.true_eq_false, n_lit, n_a, n_c, n_s, n_b, n_m, n_g, n_w, n_n, rk_X5_readSum]
    exact c_sum_l hF gF eF 700 0 sh I2 J R P t2 c2 _ (by simp) (by omega) hC (xC_fr hx a1.2.1 (a1.1 65 (by omega) (by omega) (by omega))) a2 a3 (by omega) (pFc_fr a1 hP)
theorem c_sumN : ∀ r, r ≤ 5 → cSC g (h + 3 * r + 8) mi_X5_readSum b n (sumN b n r) (5 - r) := by
  have step : ∀ r k, r ≤ 5 → ((5 - r = 5 ∧ opN b n r = none) ∨ (5 - r < 5 ∧ ∃ s, opN b n r = some s ∧ eok s ∧ cSC g (k + 5) mi_X5_readSum b n s (5 - r + 1))) → cSC g (k + 8) mi_X5_readSum b n (sumN b n r) (5 - r) := fun r k hr hop => by
    have gs := sumN_g (b := b) (n := n) r
    have es := eok_sumN (b := b) (n := n) r
    exact c_sum (by omega) (c_term (by omega) (c_factor hop) gs.2.2 es.2.2) gs.2.1 es.2.1
  intro r
  induction r with
  | zero => intro _; exact step 0 h (by omega) (Or.inl ⟨rfl, rfl⟩)
  | succ r ih =>
    intro hr
    rw [show h + 3 * (r + 1) + 8 = (h + 3 * r + 3) + 8 by omega]
    refine step (r + 1) (h + 3 * r + 3) hr (Or.inr ⟨by omega, _, rfl, (eok_sumN r).1, ?_⟩)
    rw [show 5 - (r + 1) + 1 = 5 - r by omega]
    exact ih (by omega)
end
