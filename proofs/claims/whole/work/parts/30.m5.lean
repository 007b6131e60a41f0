/-! SHARES as numbers; THE MODEL, 5 -/
set_option maxHeartbeats 1000000
set_option maxRecDepth 100000
def bV (b : Bool) : Int32 := if b then Int32.ofNat 1 else Int32.ofNat 0
theorem bV_0 (b : Bool) : (bV b = Int32.ofNat 0) = (b = false) := by cases b <;> simp [bV]
theorem bV_ok (b : Bool) : (bV b = Int32.ofNat 0 ∨ bV b = Int32.ofNat 1) = True := by cases b <;> simp [bV]
def opn (W : Nat → Nat) (O : Nat → Bool) : Nat := sm (fun m => if O m then W m else 0) 8
def quo (W : Nat → Nat) (all : Nat) (r : Int64) (m : Nat) : Int64 := r * Int64.ofNat (W m) / Int64.ofNat all
def rmd (W : Nat → Nat) (all : Nat) (r : Int64) (m : Nat) : Int64 := r * Int64.ofNat (W m) - r * Int64.ofNat (W m) / Int64.ofNat all * Int64.ofNat all
def lss (W : Nat → Nat) (O : Nat → Bool) (all : Nat) (r : Int64) (m o : Nat) : Int64 := if O o then rmd W all r o - rmd W all r m else -1
abbrev ahP (W : Nat → Nat) (O : Nat → Bool) (all : Nat) (r : Int64) (m o : Nat) : Prop := Int64.ofNat 0 < lss W O all r m o ∨ (lss W O all r m o = Int64.ofNat 0 ∧ o < m)
def ahd (W : Nat → Nat) (O : Nat → Bool) (all : Nat) (r : Int64) (m : Nat) : Nat := sm (fun o => if ahP W O all r m o then 1 else 0) 8
def fnd (f : Nat → Bool) : Nat → Nat → Option Nat
  | 0, _ => none
  | k + 1, m => if f m then some m else fnd f k (m + 1)
theorem fnd_some {f : Nat → Bool} : ∀ k m q, fnd f k m = some q → f q = true ∧ m ≤ q ∧ q < m + k := by
  intro k
  induction k with
  | zero => intro m q e; cases e
  | succ k ih =>
    intro m q e
    rw [fnd] at e
    split at e
    · cases e; exact ⟨by assumption, by omega, by omega⟩
    · have := ih (m + 1) q e
      exact ⟨this.1, by omega, by omega⟩
def oat (W : Nat → Nat) (O : Nat → Bool) (all : Nat) (r : Int64) (pl : Nat) : Option Nat := fnd (fun m => O m && decide (ahd W O all r m = pl)) 8 0
/-- what a hit in a round is -/
abbrev hitP (W : Nat → Nat) (lim : Int64) (O : Nat → Bool) (r : Int64) (m : Nat) : Prop := O m = true ∧ lim < quo W (opn W O) r m
def lft (W : Nat → Nat) (lim : Int64) (O : Nat → Bool) (r : Int64) : Nat → Int64
  | 0 => r
  | m + 1 => if hitP W lim O r m then lft W lim O r m - lim else lft W lim O r m
def anyh (W : Nat → Nat) (lim : Int64) (O : Nat → Bool) (r : Int64) : Nat → Bool
  | 0 => false
  | m + 1 => if hitP W lim O r m then true else anyh W lim O r m
abbrev DS : Type := (Nat → Int64) × (Nat → Bool) × Int64
def cls (W : Nat → Nat) (lim : Int64) : Nat → DS → DS
  | 0, s => s
  | f + 1, s => if anyh W lim s.2.1 s.2.2 8 = true then cls W lim f (fun m => if hitP W lim s.2.1 s.2.2 m then lim else s.1 m, fun m => if hitP W lim s.2.1 s.2.2 m then false else s.2.1 m, lft W lim s.2.1 s.2.2 8) else s
def lfq (W : Nat → Nat) (O : Nat → Bool) (all : Nat) (r : Int64) : Nat → Int64
  | 0 => r
  | m + 1 => if O m then lfq W O all r m - quo W all r m else lfq W O all r m
/-- one more, if there is one and the limit allows it -/
def gv1 (lim : Int64) (o : Option Nat) (s : (Nat → Int64) × Int64) : (Nat → Int64) × Int64 := match o with
  | none => s
  | some m => if Int64.ofNat 0 < s.2 ∧ s.1 m < lim then (va_up s.1 m (s.1 m + Int64.ofNat 1), s.2 - Int64.ofNat 1) else s
def gv (W : Nat → Nat) (lim : Int64) (O : Nat → Bool) (all : Nat) (r : Int64) : Nat → Nat → (Nat → Int64) × Int64 → (Nat → Int64) × Int64
  | 0, _, s => s
  | f + 1, p, s => gv W lim O all r f (p + 1) (gv1 lim (oat W O all r p) s)
def fin8 (W : Nat → Nat) (lim : Int64) (s : DS) : (Nat → Int64) × Int64 := gv W lim s.2.1 (opn W s.2.1) s.2.2 8 0 (fun m => if s.2.1 m then quo W (opn W s.2.1) s.2.2 m else s.1 m, lfq W s.2.1 (opn W s.2.1) s.2.2 8)
def dsh (W : Nat → Nat) (amount : Int64) (cap : Nat) : (Nat → Int64) × Int64 := fin8 W (amount * Int64.ofNat cap / Int64.ofNat 100) (cls W (amount * Int64.ofNat cap / Int64.ofNat 100) 8 (fun _ => Int64.ofNat 0, fun m => decide (0 < W m), amount))
theorem opn_le {W : Nat → Nat} (bW : ∀ m, W m ≤ 1000000) (O : Nat → Bool) : opn W O ≤ 8000000 := by
  have := sm_le (f := fun m => if O m then W m else 0) (c := 1000000) (fun i => by have := bW i; split <;> omega) 8
  unfold opn
  omega
theorem sm_pos {f : Nat → Nat} : ∀ n i, i < n → 0 < f i → 0 < sm f n := by
  intro n
  induction n with
  | zero => intro i h; omega
  | succ n ih =>
    intro i h hf
    rw [sm]
    by_cases e : i = n
    · subst e; omega
    · have := ih i (by omega) hf; omega
theorem opn_pos {W : Nat → Nat} {O : Nat → Bool} {m : Nat} (hm : m < 8) (hO : O m = true) (hW : 0 < W m) : 0 < opn W O := sm_pos 8 m hm (by simp only [hO, if_true]; exact hW)
section
variable {g : pp_G} {h : Nat} {sh : List (Nat × Nat)} {I : Nat → Nat → Int32} {J : Nat → Nat → Int64} {R : Nat → Nat → Option Nat} {w : pp_W} {P : pp_R → pp_W → Prop} {G : LG} {T : TM} {n : Nat} {W : Nat → Nat} {O : Nat → Bool} {all : Nat} {r lim : Int64}
theorem m_oO_l (hM : sM sh R) (hW : ∀ m, m < 8 → I 133 m = Int32.ofNat (W m)) (hO : ∀ m, m < 8 → I 136 m = bV (O m)) (bW : ∀ m, W m ≤ 1000000) (hP : P (.inl (some (.long (Int64.ofNat (opn W O))))) (sh, I, J, R)) :
    ∀ f m, f + m = 8 → pp_N g h mi_X9_openOnes P 4 [(0, .ref 121), (1, .long (Int64.ofNat (sm (fun m => if O m then W m else 0) m))), (3, .int (Int32.ofNat m))] [] (sh, I, J, R) := by
  intro f
  induction f with
  | zero =>
    intro m hm
    have hm : m = 8 := by omega
    subst hm
    repeat' (first | ((with_reducible refine pp_go (pc := 4) (seg := sg_X9_openOnes_4) hh_X9_openOnes sk_X9_openOnes_4 ?_); simp (disch := omega) only [sg_X9_openOnes_4, sw_c, sw_n, sx, sf_4, sv_i, sv_j, sv_r, sv_q1, sv_q0, sv_1i, sv_1r, sv_2, sl_i, sl_j, sl_a, sl_v, sp_p, sp_f1, sp_f2, sc_w, sc_c, sc_r, sc_f, sc_a, sc_k, pp_in, pp_al, ↓reduceIte, Nat.reduceEqDiff, Nat.reduceLT, Nat.reduceLeDiff, Nat.reduceAdd, Nat.reduceSub, Nat.reduceMul, List.length_cons, List.length_nil, true_and, and_true, and_self, true_implies, eq_self, not_true_eq_false, not_false_eq_true, false_implies, implies_true, false_and, and_false, Bool.false_eq_true, or_true, true_or, or_false, false_or, Classical.not_not, Nat.le_refl, Nat.lt_irrefl, Bool.true_eq_false, n_lit, n_a, n_c, n_s, n_b, n_m, n_g, n_w, n_n]) | ((with_reducible refine pp_go (pc := 39) (seg := sg_X9_openOnes_39) hh_X9_openOnes sk_X9_openOnes_39 ?_); simp (disch := omega) only [sg_X9_openOnes_39, sw_c, sw_n, sx, sf_4, sv_i, sv_j, sv_r, sv_q1, sv_q0, sv_1i, sv_1r, sv_2, sl_i, sl_j, sl_a, sl_v, sp_p, sp_f1, sp_f2, sc_w, sc_c, sc_r, sc_f, sc_a, sc_k, pp_in, pp_al, ↓reduceIte, Nat.reduceEqDiff, Nat.reduceLT, Nat.reduceLeDiff, Nat.reduceAdd, Nat.reduceSub, Nat.reduceMul, List.length_cons, List.length_nil, true_and, and_true, and_self, true_implies, eq_self, not_true_eq_false, not_false_eq_true, false_implies, implies_true, false_and, and_false, Bool.false_eq_true, or_true, true_or, or_false, false_or, Classical.not_not, Nat.le_refl, Nat.lt_irrefl, Bool.true_eq_false, n_lit, n_a, n_c, n_s, n_b, n_m, n_g, n_w, n_n]) | (refine ⟨fun _ => ?_, fun _ => ?_⟩ <;> try (exfalso; omega)) | fail)
    exact hP
  | succ f ih =>
    intro m hm
    have nx := ih (m + 1) (by omega)
    rw [sm] at nx
    have q1 : ¬ 8 ≤ m := by omega
    have b1 := sm_le (f := fun m => if O m then W m else 0) (c := 1000000) (fun i => by have := bW i; split <;> omega) m
    have b2 := bW m
    cases hb : O m with
    | false =>
      rw [hb] at nx
      refine pp_go rfl sk_X9_openOnes_4 ?_
      simp (disch := omega) only [sg_X9_openOnes_4, sw_c, sw_n, sx, sf_4, sv_i, sv_j, sv_r, sv_q1, sv_q0, sv_1i, sv_1r, sv_2, sl_i, sl_j, sl_a, sl_v, sp_p, sp_f1, sp_f2, sc_w, sc_c, sc_r, sc_f, sc_a, sc_k, pp_in, pp_al, ↓reduceIte, Nat.reduceEqDiff, Nat.reduceLT, Nat.reduceLeDiff, Nat.reduceAdd, Nat.reduceSub, Nat.reduceMul, List.length_cons, List.length_nil, true_and, and_true, and_self, true_implies, eq_self, not_true_eq_false, not_false_eq_true, false_implies, implies_true, false_and, and_false, Bool.false_eq_true, or_true, true_or, or_false, false_or, Classical.not_not, Nat.le_refl, Nat.lt_irrefl, Bool.true_eq_false, n_lit, n_a, n_c, n_s, n_b, n_m, n_g, n_w, n_n, hM, q1, hO, hW, bV_0, hb]
      repeat' (first | ((with_reducible refine pp_go (pc := 30) (seg := sg_X9_openOnes_30) hh_X9_openOnes sk_X9_openOnes_30 ?_); simp (disch := omega) only [sg_X9_openOnes_30, sw_c, sw_n, sx, sf_4, sv_i, sv_j, sv_r, sv_q1, sv_q0, sv_1i, sv_1r, sv_2, sl_i, sl_j, sl_a, sl_v, sp_p, sp_f1, sp_f2, sc_w, sc_c, sc_r, sc_f, sc_a, sc_k, pp_in, pp_al, ↓reduceIte, Nat.reduceEqDiff, Nat.reduceLT, Nat.reduceLeDiff, Nat.reduceAdd, Nat.reduceSub, Nat.reduceMul, List.length_cons, List.length_nil, true_and, and_true, and_self, true_implies, eq_self, not_true_eq_false, not_false_eq_true, false_implies, implies_true, false_and, and_false, Bool.false_eq_true, or_true, true_or, or_false, false_or, Classical.not_not, Nat.le_refl, Nat.lt_irrefl, Bool.true_eq_false, n_lit, n_a, n_c, n_s, n_b, n_m, n_g, n_w, n_n]) | ((with_reducible refine pp_go (pc := 31) (seg := sg_X9_openOnes_31) hh_X9_openOnes sk_X9_openOnes_31 ?_); simp (disch := omega) only [sg_X9_openOnes_31, sw_c, sw_n, sx, sf_4, sv_i, sv_j, sv_r, sv_q1, sv_q0, sv_1i, sv_1r, sv_2, sl_i, sl_j, sl_a, sl_v, sp_p, sp_f1, sp_f2, sc_w, sc_c, sc_r, sc_f, sc_a, sc_k, pp_in, pp_al, ↓reduceIte, Nat.reduceEqDiff, Nat.reduceLT, Nat.reduceLeDiff, Nat.reduceAdd, Nat.reduceSub, Nat.reduceMul, List.length_cons, List.length_nil, true_and, and_true, and_self, true_implies, eq_self, not_true_eq_false, not_false_eq_true, false_implies, implies_true, false_and, and_false, Bool.false_eq_true, or_true, true_or, or_false, false_or, Classical.not_not, Nat.le_refl, Nat.lt_irrefl, Bool.true_eq_false, n_lit, n_a, n_c, n_s, n_b, n_m, n_g, n_w, n_n]) | (refine ⟨fun _ => ?_, fun _ => ?_⟩ <;> try (exfalso; omega)) | fail)
      exact nx
    | true =>
      rw [hb] at nx
      refine pp_go rfl sk_X9_openOnes_4 ?_
      simp (disch := omega) only [sg_X9_openOnes_4, sw_c, sw_n, sx, sf_4, sv_i, sv_j, sv_r, sv_q1, sv_q0, sv_1i, sv_1r, sv_2, sl_i, sl_j, sl_a, sl_v, sp_p, sp_f1, sp_f2, sc_w, sc_c, sc_r, sc_f, sc_a, sc_k, pp_in, pp_al, ↓reduceIte, Nat.reduceEqDiff, Nat.reduceLT, Nat.reduceLeDiff, Nat.reduceAdd, Nat.reduceSub, Nat.reduceMul, List.length_cons, List.length_nil, true_and, and_true, and_self, true_implies, eq_self, not_true_eq_false, not_false_eq_true, false_implies, implies_true, false_and, and_false, Bool.false_eq_true, or_true, true_or, or_false, false_or, Classical.not_not, Nat.le_refl, Nat.lt_irrefl, Bool.true_eq_false, n_lit, n_a, n_c, n_s, n_b, n_m, n_g, n_w, n_n, hM, q1, hO, hW, bV_0, hb]
      repeat' (first | ((with_reducible refine pp_go (pc := 30) (seg := sg_X9_openOnes_30) hh_X9_openOnes sk_X9_openOnes_30 ?_); simp (disch := omega) only [sg_X9_openOnes_30, sw_c, sw_n, sx, sf_4, sv_i, sv_j, sv_r, sv_q1, sv_q0, sv_1i, sv_1r, sv_2, sl_i, sl_j, sl_a, sl_v, sp_p, sp_f1, sp_f2, sc_w, sc_c, sc_r, sc_f, sc_a, sc_k, pp_in, pp_al, ↓reduceIte, Nat.reduceEqDiff, Nat.reduceLT, Nat.reduceLeDiff, Nat.reduceAdd, Nat.reduceSub, Nat.reduceMul, List.length_cons, List.length_nil, true_and, and_true, and_self, true_implies, eq_self, not_true_eq_false, not_false_eq_true, false_implies, implies_true, false_and, and_false, Bool.false_eq_true, or_true, true_or, or_false, false_or, Classical.not_not, Nat.le_refl, Nat.lt_irrefl, Bool.true_eq_false, n_lit, n_a, n_c, n_s, n_b, n_m, n_g, n_w, n_n]) | ((with_reducible refine pp_go (pc := 31) (seg := sg_X9_openOnes_31) hh_X9_openOnes sk_X9_openOnes_31 ?_); simp (disch := omega) only [sg_X9_openOnes_31, sw_c, sw_n, sx, sf_4, sv_i, sv_j, sv_r, sv_q1, sv_q0, sv_1i, sv_1r, sv_2, sl_i, sl_j, sl_a, sl_v, sp_p, sp_f1, sp_f2, sc_w, sc_c, sc_r, sc_f, sc_a, sc_k, pp_in, pp_al, ↓reduceIte, Nat.reduceEqDiff, Nat.reduceLT, Nat.reduceLeDiff, Nat.reduceAdd, Nat.reduceSub, Nat.reduceMul, List.length_cons, List.length_nil, true_and, and_true, and_self, true_implies, eq_self, not_true_eq_false, not_false_eq_true, false_implies, implies_true, false_and, and_false, Bool.false_eq_true, or_true, true_or, or_false, false_or, Classical.not_not, Nat.le_refl, Nat.lt_irrefl, Bool.true_eq_false, n_lit, n_a, n_c, n_s, n_b, n_m, n_g, n_w, n_n]) | (refine ⟨fun _ => ?_, fun _ => ?_⟩ <;> try (exfalso; omega)) | fail)
      exact nx
theorem m_openOnes (hM : sM sh R) (hW : ∀ m, m < 8 → I 133 m = Int32.ofNat (W m)) (hO : ∀ m, m < 8 → I 136 m = bV (O m)) (bW : ∀ m, W m ≤ 1000000) (hP : P (.inl (some (.long (Int64.ofNat (opn W O))))) (sh, I, J, R)) : pp_MW g (h + 1) mi_X9_openOnes [.ref 121] (sh, I, J, R) P := by
  refine pp_st0 [(0, .ref 121)] ok_X9_openOnes rfl (Nat.le_of_ble_eq_true rfl) rfl ?_
  refine pp_go rfl sk_X9_openOnes_0 ?_
  simp (disch := omega) only [sg_X9_openOnes_0, sw_c, sw_n, sx, sf_4, sv_i, sv_j, sv_r, sv_q1, sv_q0, sv_1i, sv_1r, sv_2, sl_i, sl_j, sl_a, sl_v, sp_p, sp_f1, sp_f2, sc_w, sc_c, sc_r, sc_f, sc_a, sc_k, pp_in, pp_al, ↓reduceIte, Nat.reduceEqDiff, Nat.reduceLT, Nat.reduceLeDiff, Nat.reduceAdd, Nat.reduceSub, Nat.reduceMul, List.length_cons, List.length_nil, true_and, and_true, and_self, true_implies, eq_self, not_true_eq_false, not_false_eq_true, false_implies, implies_true, false_and, and_false, Bool.false_eq_true, or_true, true_or, or_false, false_or, Classical.not_not, Nat.le_refl, Nat.lt_irrefl, Bool.true_eq_false, n_lit, n_a, n_c, n_s, n_b, n_m, n_g, n_w, n_n]
  exact m_oO_l hM hW hO bW hP 8 0 rfl
theorem m_oA_i {m pl : Nat} (hM : sM sh R) (hW : ∀ m, m < 8 → I 133 m = Int32.ofNat (W m)) (hO : ∀ m, m < 8 → I 136 m = bV (O m)) (bW : ∀ m, W m ≤ 1000000) (ha : 0 < all ∧ all ≤ 8000000) (hm : m < 8) (om : O m = true)
    (K : pp_N g h mi_X9_openAt P 115 [(0, .ref 121), (1, .int (Int32.ofNat pl)), (2, .long r), (4, .long (Int64.ofNat all)), (6, .int (Int32.ofNat m)), (7, .int (Int32.ofNat (ahd W O all r m)))] [] (sh, I, J, R)) :
    ∀ f o, f + o = 8 → pp_N g h mi_X9_openAt P 16 [(0, .ref 121), (1, .int (Int32.ofNat pl)), (2, .long r), (4, .long (Int64.ofNat all)), (6, .int (Int32.ofNat m)), (7, .int (Int32.ofNat (sm (fun o => if ahP W O all r m o then 1 else 0) o))), (8, .int (Int32.ofNat o))] [] (sh, I, J, R) := by
  intro f
  induction f with
  | zero =>
    intro o ho
    have ho : o = 8 := by omega
    subst ho
    refine pp_go rfl sk_X9_openAt_16 ?_
    simp (disch := omega) only [sg_X9_openAt_16, sw_c, sw_n, sx, sf_4, sv_i, sv_j, sv_r, sv_q1, sv_q0, sv_1i, sv_1r, sv_2, sl_i, sl_j, sl_a, sl_v, sp_p, sp_f1, sp_f2, sc_w, sc_c, sc_r, sc_f, sc_a, sc_k, pp_in, pp_al, ↓reduceIte, Nat.reduceEqDiff, Nat.reduceLT, Nat.reduceLeDiff, Nat.reduceAdd, Nat.reduceSub, Nat.reduceMul, List.length_cons, List.length_nil, true_and, and_true, and_self, true_implies, eq_self, not_true_eq_false, not_false_eq_true, false_implies, implies_true, false_and, and_false, Bool.false_eq_true, or_true, true_or, or_false, false_or, Classical.not_not, Nat.le_refl, Nat.lt_irrefl, Bool.true_eq_false, n_lit, n_a, n_c, n_s, n_b, n_m, n_g, n_w, n_n, rk_X9_openAt]
    exact pp_N.sub K (by simp [ahd])
  | succ f ih =>
    intro o ho
    have nx := ih (o + 1) (by omega)
    rw [sm] at nx
    have q1 : ¬ 8 ≤ o := by omega
    have b1 := sm_le (f := fun o => if ahP W O all r m o then 1 else 0) (c := 1) (fun i => by split <;> omega) o
    have K2 : pp_N g h mi_X9_openAt P 76 [(0, .ref 121), (1, .int (Int32.ofNat pl)), (2, .long r), (4, .long (Int64.ofNat all)), (6, .int (Int32.ofNat m)), (7, .int (Int32.ofNat (sm (fun o => if ahP W O all r m o then 1 else 0) o))), (8, .int (Int32.ofNat o))] [.long (lss W O all r m o)] (sh, I, J, R) := by
      repeat' (first | ((with_reducible refine pp_go (pc := 76) (seg := sg_X9_openAt_76) hh_X9_openAt sk_X9_openAt_76 ?_); simp (disch := omega) only [sg_X9_openAt_76, sw_c, sw_n, sx, sf_4, sv_i, sv_j, sv_r, sv_q1, sv_q0, sv_1i, sv_1r, sv_2, sl_i, sl_j, sl_a, sl_v, sp_p, sp_f1, sp_f2, sc_w, sc_c, sc_r, sc_f, sc_a, sc_k, pp_in, pp_al, ↓reduceIte, Nat.reduceEqDiff, Nat.reduceLT, Nat.reduceLeDiff, Nat.reduceAdd, Nat.reduceSub, Nat.reduceMul, List.length_cons, List.length_nil, true_and, and_true, and_self, true_implies, eq_self, not_true_eq_false, not_false_eq_true, false_implies, implies_true, false_and, and_false, Bool.false_eq_true, or_true, true_or, or_false, false_or, Classical.not_not, Nat.le_refl, Nat.lt_irrefl, Bool.true_eq_false, n_lit, n_a, n_c, n_s, n_b, n_m, n_g, n_w, n_n, rk_X9_openAt]) | ((with_reducible refine pp_go (pc := 101) (seg := sg_X9_openAt_101) hh_X9_openAt sk_X9_openAt_101 ?_); simp (disch := omega) only [sg_X9_openAt_101, sw_c, sw_n, sx, sf_4, sv_i, sv_j, sv_r, sv_q1, sv_q0, sv_1i, sv_1r, sv_2, sl_i, sl_j, sl_a, sl_v, sp_p, sp_f1, sp_f2, sc_w, sc_c, sc_r, sc_f, sc_a, sc_k, pp_in, pp_al, ↓reduceIte, Nat.reduceEqDiff, Nat.reduceLT, Nat.reduceLeDiff, Nat.reduceAdd, Nat.reduceSub, Nat.reduceMul, List.length_cons, List.length_nil, true_and, and_true, and_self, true_implies, eq_self, not_true_eq_false, not_false_eq_true, false_implies, implies_true, false_and, and_false, Bool.false_eq_true, or_true, true_or, or_false, false_or, Classical.not_not, Nat.le_refl, Nat.lt_irrefl, Bool.true_eq_false, n_lit, n_a, n_c, n_s, n_b, n_m, n_g, n_w, n_n, rk_X9_openAt]) | ((with_reducible refine pp_go (pc := 105) (seg := sg_X9_openAt_105) hh_X9_openAt sk_X9_openAt_105 ?_); simp (disch := omega) only [sg_X9_openAt_105, sw_c, sw_n, sx, sf_4, sv_i, sv_j, sv_r, sv_q1, sv_q0, sv_1i, sv_1r, sv_2, sl_i, sl_j, sl_a, sl_v, sp_p, sp_f1, sp_f2, sc_w, sc_c, sc_r, sc_f, sc_a, sc_k, pp_in, pp_al, ↓reduceIte, Nat.reduceEqDiff, Nat.reduceLT, Nat.reduceLeDiff, Nat.reduceAdd, Nat.reduceSub, Nat.reduceMul, List.length_cons, List.length_nil, true_and, and_true, and_self, true_implies, eq_self, not_true_eq_false, not_false_eq_true, false_implies, implies_true, false_and, and_false, Bool.false_eq_true, or_true, true_or, or_false, false_or, Classical.not_not, Nat.le_refl, Nat.lt_irrefl, Bool.true_eq_false, n_lit, n_a, n_c, n_s, n_b, n_m, n_g, n_w, n_n, rk_X9_openAt]) | ((with_reducible refine pp_go (pc := 106) (seg := sg_X9_openAt_106) hh_X9_openAt sk_X9_openAt_106 ?_); simp (disch := omega) only [sg_X9_openAt_106, sw_c, sw_n, sx, sf_4, sv_i, sv_j, sv_r, sv_q1, sv_q0, sv_1i, sv_1r, sv_2, sl_i, sl_j, sl_a, sl_v, sp_p, sp_f1, sp_f2, sc_w, sc_c, sc_r, sc_f, sc_a, sc_k, pp_in, pp_al, ↓reduceIte, Nat.reduceEqDiff, Nat.reduceLT, Nat.reduceLeDiff, Nat.reduceAdd, Nat.reduceSub, Nat.reduceMul, List.length_cons, List.length_nil, true_and, and_true, and_self, true_implies, eq_self, not_true_eq_false, not_false_eq_true, false_implies, implies_true, false_and, and_false, Bool.false_eq_true, or_true, true_or, or_false, false_or, Classical.not_not, Nat.le_refl, Nat.lt_irrefl, Bool.true_eq_false, n_lit, n_a, n_c, n_s, n_b, n_m, n_g, n_w, n_n, rk_X9_openAt]) | (refine ⟨fun _ => ?_, fun _ => ?_⟩ <;> try (exfalso; omega)) | fail)
      · rw [if_pos (Or.inl (by assumption))] at nx
        exact pp_N.sub nx (by simp)
      · rw [if_neg (fun z => z.elim (by assumption) (fun y => absurd y.1 (by assumption)))] at nx
        exact pp_N.sub nx (by simp)
      · rw [if_neg (fun z => z.elim (by assumption) (fun y => absurd y.2 (by omega)))] at nx
        exact pp_N.sub nx (by simp)
      · rw [if_pos (Or.inr ⟨by assumption, by omega⟩)] at nx
        exact pp_N.sub nx (by simp)
    have z0 : ¬ all = 0 := by omega
    have bm := bW m
    have bo := bW o
    cases hb : O o with
    | false =>
      rw [lss, hb] at K2
      refine pp_go rfl sk_X9_openAt_16 ?_
      simp (disch := omega) only [sg_X9_openAt_16, sw_c, sw_n, sx, sf_4, sv_i, sv_j, sv_r, sv_q1, sv_q0, sv_1i, sv_1r, sv_2, sl_i, sl_j, sl_a, sl_v, sp_p, sp_f1, sp_f2, sc_w, sc_c, sc_r, sc_f, sc_a, sc_k, pp_in, pp_al, ↓reduceIte, Nat.reduceEqDiff, Nat.reduceLT, Nat.reduceLeDiff, Nat.reduceAdd, Nat.reduceSub, Nat.reduceMul, List.length_cons, List.length_nil, true_and, and_true, and_self, true_implies, eq_self, not_true_eq_false, not_false_eq_true, false_implies, implies_true, false_and, and_false, Bool.false_eq_true, or_true, true_or, or_false, false_or, Classical.not_not, Nat.le_refl, Nat.lt_irrefl, Bool.true_eq_false, n_lit, n_a, n_c, n_s, n_b, n_m, n_g, n_w, n_n, rk_X9_openAt, hM, q1, hO, hW, bV_0, om, hb]
      repeat' (first | ((with_reducible refine pp_go (pc := 73) (seg := sg_X9_openAt_73) hh_X9_openAt sk_X9_openAt_73 ?_); simp (disch := omega) only [sg_X9_openAt_73, sw_c, sw_n, sx, sf_4, sv_i, sv_j, sv_r, sv_q1, sv_q0, sv_1i, sv_1r, sv_2, sl_i, sl_j, sl_a, sl_v, sp_p, sp_f1, sp_f2, sc_w, sc_c, sc_r, sc_f, sc_a, sc_k, pp_in, pp_al, ↓reduceIte, Nat.reduceEqDiff, Nat.reduceLT, Nat.reduceLeDiff, Nat.reduceAdd, Nat.reduceSub, Nat.reduceMul, List.length_cons, List.length_nil, true_and, and_true, and_self, true_implies, eq_self, not_true_eq_false, not_false_eq_true, false_implies, implies_true, false_and, and_false, Bool.false_eq_true, or_true, true_or, or_false, false_or, Classical.not_not, Nat.le_refl, Nat.lt_irrefl, Bool.true_eq_false, n_lit, n_a, n_c, n_s, n_b, n_m, n_g, n_w, n_n, rk_X9_openAt]) | (refine ⟨fun _ => ?_, fun _ => ?_⟩ <;> try (exfalso; omega)) | fail)
      exact K2
    | true =>
      rw [lss, hb] at K2
      refine pp_go rfl sk_X9_openAt_16 ?_
      simp (disch := omega) only [sg_X9_openAt_16, sw_c, sw_n, sx, sf_4, sv_i, sv_j, sv_r, sv_q1, sv_q0, sv_1i, sv_1r, sv_2, sl_i, sl_j, sl_a, sl_v, sp_p, sp_f1, sp_f2, sc_w, sc_c, sc_r, sc_f, sc_a, sc_k, pp_in, pp_al, ↓reduceIte, Nat.reduceEqDiff, Nat.reduceLT, Nat.reduceLeDiff, Nat.reduceAdd, Nat.reduceSub, Nat.reduceMul, List.length_cons, List.length_nil, true_and, and_true, and_self, true_implies, eq_self, not_true_eq_false, not_false_eq_true, false_implies, implies_true, false_and, and_false, Bool.false_eq_true, or_true, true_or, or_false, false_or, Classical.not_not, Nat.le_refl, Nat.lt_irrefl, Bool.true_eq_false, n_lit, n_a, n_c, n_s, n_b, n_m, n_g, n_w, n_n, rk_X9_openAt, hM, q1, hO, hW, bV_0, om, hb, z0]
      simp only [rmd, if_true] at K2
      exact K2
theorem m_oA_l {pl : Nat} (hM : sM sh R) (hW : ∀ m, m < 8 → I 133 m = Int32.ofNat (W m)) (hO : ∀ m, m < 8 → I 136 m = bV (O m)) (bW : ∀ m, W m ≤ 1000000) (ha : ∀ m, m < 8 → O m = true → 0 < all) (hl : all ≤ 8000000) (hp : pl < 8) :
    ∀ f m, f + m = 8 → P (.inl (some (.int (oi (fnd (fun m => O m && decide (ahd W O all r m = pl)) f m))))) (sh, I, J, R) → pp_N g h mi_X9_openAt P 3 [(0, .ref 121), (1, .int (Int32.ofNat pl)), (2, .long r), (4, .long (Int64.ofNat all)), (6, .int (Int32.ofNat m))] [] (sh, I, J, R) := by
  intro f
  induction f with
  | zero =>
    intro m hm hP
    have hm : m = 8 := by omega
    subst hm
    repeat' (first | ((with_reducible refine pp_go (pc := 3) (seg := sg_X9_openAt_3) hh_X9_openAt sk_X9_openAt_3 ?_); simp (disch := omega) only [sg_X9_openAt_3, sw_c, sw_n, sx, sf_4, sv_i, sv_j, sv_r, sv_q1, sv_q0, sv_1i, sv_1r, sv_2, sl_i, sl_j, sl_a, sl_v, sp_p, sp_f1, sp_f2, sc_w, sc_c, sc_r, sc_f, sc_a, sc_k, pp_in, pp_al, ↓reduceIte, Nat.reduceEqDiff, Nat.reduceLT, Nat.reduceLeDiff, Nat.reduceAdd, Nat.reduceSub, Nat.reduceMul, List.length_cons, List.length_nil, true_and, and_true, and_self, true_implies, eq_self, not_true_eq_false, not_false_eq_true, false_implies, implies_true, false_and, and_false, Bool.false_eq_true, or_true, true_or, or_false, false_or, Classical.not_not, Nat.le_refl, Nat.lt_irrefl, Bool.true_eq_false, n_lit, n_a, n_c, n_s, n_b, n_m, n_g, n_w, n_n, rk_X9_openAt]) | ((with_reducible refine pp_go (pc := 140) (seg := sg_X9_openAt_140) hh_X9_openAt sk_X9_openAt_140 ?_); simp (disch := omega) only [sg_X9_openAt_140, sw_c, sw_n, sx, sf_4, sv_i, sv_j, sv_r, sv_q1, sv_q0, sv_1i, sv_1r, sv_2, sl_i, sl_j, sl_a, sl_v, sp_p, sp_f1, sp_f2, sc_w, sc_c, sc_r, sc_f, sc_a, sc_k, pp_in, pp_al, ↓reduceIte, Nat.reduceEqDiff, Nat.reduceLT, Nat.reduceLeDiff, Nat.reduceAdd, Nat.reduceSub, Nat.reduceMul, List.length_cons, List.length_nil, true_and, and_true, and_self, true_implies, eq_self, not_true_eq_false, not_false_eq_true, false_implies, implies_true, false_and, and_false, Bool.false_eq_true, or_true, true_or, or_false, false_or, Classical.not_not, Nat.le_refl, Nat.lt_irrefl, Bool.true_eq_false, n_lit, n_a, n_c, n_s, n_b, n_m, n_g, n_w, n_n, rk_X9_openAt]) | (refine ⟨fun _ => ?_, fun _ => ?_⟩ <;> try (exfalso; omega)) | fail)
    exact hP
  | succ f ih =>
    intro m hm hP
    rw [fnd] at hP
    have q1 : ¬ 8 ≤ m := by omega
    refine pp_go rfl sk_X9_openAt_3 ?_
    simp (disch := omega) only [sg_X9_openAt_3, sw_c, sw_n, sx, sf_4, sv_i, sv_j, sv_r, sv_q1, sv_q0, sv_1i, sv_1r, sv_2, sl_i, sl_j, sl_a, sl_v, sp_p, sp_f1, sp_f2, sc_w, sc_c, sc_r, sc_f, sc_a, sc_k, pp_in, pp_al, ↓reduceIte, Nat.reduceEqDiff, Nat.reduceLT, Nat.reduceLeDiff, Nat.reduceAdd, Nat.reduceSub, Nat.reduceMul, List.length_cons, List.length_nil, true_and, and_true, and_self, true_implies, eq_self, not_true_eq_false, not_false_eq_true, false_implies, implies_true, false_and, and_false, Bool.false_eq_true, or_true, true_or, or_false, false_or, Classical.not_not, Nat.le_refl, Nat.lt_irrefl, Bool.true_eq_false, n_lit, n_a, n_c, n_s, n_b, n_m, n_g, n_w, n_n, rk_X9_openAt, q1]
    cases hb : O m with
    | false =>
      rw [if_neg (by simp [hb])] at hP
      have nx := ih (m + 1) (by omega) hP
      refine pp_go rfl sk_X9_openAt_16 ?_
      simp (disch := omega) only [sg_X9_openAt_16, sw_c, sw_n, sx, sf_4, sv_i, sv_j, sv_r, sv_q1, sv_q0, sv_1i, sv_1r, sv_2, sl_i, sl_j, sl_a, sl_v, sp_p, sp_f1, sp_f2, sc_w, sc_c, sc_r, sc_f, sc_a, sc_k, pp_in, pp_al, ↓reduceIte, Nat.reduceEqDiff, Nat.reduceLT, Nat.reduceLeDiff, Nat.reduceAdd, Nat.reduceSub, Nat.reduceMul, List.length_cons, List.length_nil, true_and, and_true, and_self, true_implies, eq_self, not_true_eq_false, not_false_eq_true, false_implies, implies_true, false_and, and_false, Bool.false_eq_true, or_true, true_or, or_false, false_or, Classical.not_not, Nat.le_refl, Nat.lt_irrefl, Bool.true_eq_false, n_lit, n_a, n_c, n_s, n_b, n_m, n_g, n_w, n_n, rk_X9_openAt, hM, q1, hO, hb, bV_0]
      repeat' (first | ((with_reducible refine pp_go (pc := 115) (seg := sg_X9_openAt_115) hh_X9_openAt sk_X9_openAt_115 ?_); simp (disch := omega) only [sg_X9_openAt_115, sw_c, sw_n, sx, sf_4, sv_i, sv_j, sv_r, sv_q1, sv_q0, sv_1i, sv_1r, sv_2, sl_i, sl_j, sl_a, sl_v, sp_p, sp_f1, sp_f2, sc_w, sc_c, sc_r, sc_f, sc_a, sc_k, pp_in, pp_al, ↓reduceIte, Nat.reduceEqDiff, Nat.reduceLT, Nat.reduceLeDiff, Nat.reduceAdd, Nat.reduceSub, Nat.reduceMul, List.length_cons, List.length_nil, true_and, and_true, and_self, true_implies, eq_self, not_true_eq_false, not_false_eq_true, false_implies, implies_true, false_and, and_false, Bool.false_eq_true, or_true, true_or, or_false, false_or, Classical.not_not, Nat.le_refl, Nat.lt_irrefl, Bool.true_eq_false, n_lit, n_a, n_c, n_s, n_b, n_m, n_g, n_w, n_n, rk_X9_openAt, hM, hO, hb, bV_0]) | (refine ⟨fun _ => ?_, fun _ => ?_⟩ <;> try (exfalso; omega)) | fail)
      repeat' (first | ((with_reducible refine pp_go (pc := 134) (seg := sg_X9_openAt_134) hh_X9_openAt sk_X9_openAt_134 ?_); simp (disch := omega) only [sg_X9_openAt_134, sw_c, sw_n, sx, sf_4, sv_i, sv_j, sv_r, sv_q1, sv_q0, sv_1i, sv_1r, sv_2, sl_i, sl_j, sl_a, sl_v, sp_p, sp_f1, sp_f2, sc_w, sc_c, sc_r, sc_f, sc_a, sc_k, pp_in, pp_al, ↓reduceIte, Nat.reduceEqDiff, Nat.reduceLT, Nat.reduceLeDiff, Nat.reduceAdd, Nat.reduceSub, Nat.reduceMul, List.length_cons, List.length_nil, true_and, and_true, and_self, true_implies, eq_self, not_true_eq_false, not_false_eq_true, false_implies, implies_true, false_and, and_false, Bool.false_eq_true, or_true, true_or, or_false, false_or, Classical.not_not, Nat.le_refl, Nat.lt_irrefl, Bool.true_eq_false, n_lit, n_a, n_c, n_s, n_b, n_m, n_g, n_w, n_n, rk_X9_openAt]) | (refine ⟨fun _ => ?_, fun _ => ?_⟩ <;> try (exfalso; omega)) | fail)
      exact pp_N.sub nx (by simp)
    | true =>
      have b1 := sm_le (f := fun o => if ahP W O all r m o then 1 else 0) (c := 1) (fun i => by split <;> omega) 8
      have b1 : ahd W O all r m ≤ 1 * 8 := b1
      refine m_oA_i (I := I) hM hW hO bW ⟨ha m (by omega) hb, hl⟩ (by omega) hb ?_ 8 0 rfl
      refine pp_go rfl sk_X9_openAt_115 ?_
      simp (disch := omega) only [sg_X9_openAt_115, sw_c, sw_n, sx, sf_4, sv_i, sv_j, sv_r, sv_q1, sv_q0, sv_1i, sv_1r, sv_2, sl_i, sl_j, sl_a, sl_v, sp_p, sp_f1, sp_f2, sc_w, sc_c, sc_r, sc_f, sc_a, sc_k, pp_in, pp_al, ↓reduceIte, Nat.reduceEqDiff, Nat.reduceLT, Nat.reduceLeDiff, Nat.reduceAdd, Nat.reduceSub, Nat.reduceMul, List.length_cons, List.length_nil, true_and, and_true, and_self, true_implies, eq_self, not_true_eq_false, not_false_eq_true, false_implies, implies_true, false_and, and_false, Bool.false_eq_true, or_true, true_or, or_false, false_or, Classical.not_not, Nat.le_refl, Nat.lt_irrefl, Bool.true_eq_false, n_lit, n_a, n_c, n_s, n_b, n_m, n_g, n_w, n_n, rk_X9_openAt, hM, hO, hb, bV_0]
      refine ⟨fun q => ?_, fun q => ?_⟩
      · rw [if_neg (by simp [hb, q])] at hP
        have nx := ih (m + 1) (by omega) hP
        repeat' (first | ((with_reducible refine pp_go (pc := 134) (seg := sg_X9_openAt_134) hh_X9_openAt sk_X9_openAt_134 ?_); simp (disch := omega) only [sg_X9_openAt_134, sw_c, sw_n, sx, sf_4, sv_i, sv_j, sv_r, sv_q1, sv_q0, sv_1i, sv_1r, sv_2, sl_i, sl_j, sl_a, sl_v, sp_p, sp_f1, sp_f2, sc_w, sc_c, sc_r, sc_f, sc_a, sc_k, pp_in, pp_al, ↓reduceIte, Nat.reduceEqDiff, Nat.reduceLT, Nat.reduceLeDiff, Nat.reduceAdd, Nat.reduceSub, Nat.reduceMul, List.length_cons, List.length_nil, true_and, and_true, and_self, true_implies, eq_self, not_true_eq_false, not_false_eq_true, false_implies, implies_true, false_and, and_false, Bool.false_eq_true, or_true, true_or, or_false, false_or, Classical.not_not, Nat.le_refl, Nat.lt_irrefl, Bool.true_eq_false, n_lit, n_a, n_c, n_s, n_b, n_m, n_g, n_w, n_n, rk_X9_openAt]) | (refine ⟨fun _ => ?_, fun _ => ?_⟩ <;> try (exfalso; omega)) | fail)
        exact pp_N.sub nx (by simp)
      · rw [if_pos (by simp [hb, q])] at hP
        exact hP
theorem m_openAt {pl : Nat} (hM : sM sh R) (hW : ∀ m, m < 8 → I 133 m = Int32.ofNat (W m)) (hO : ∀ m, m < 8 → I 136 m = bV (O m)) (bW : ∀ m, W m ≤ 1000000) (ha : ∀ m, m < 8 → O m = true → 0 < all) (hl : all ≤ 8000000) (hp : pl < 8) (hP : P (.inl (some (.int (oi (oat W O all r pl))))) (sh, I, J, R)) : pp_MW g (h + 1) mi_X9_openAt [.ref 121, .int (Int32.ofNat pl), .long r, .long (Int64.ofNat all)] (sh, I, J, R) P := by
  refine pp_st0 [(0, .ref 121), (1, .int (Int32.ofNat pl)), (2, .long r), (4, .long (Int64.ofNat all))] ok_X9_openAt rfl (Nat.le_of_ble_eq_true rfl) rfl ?_
  refine pp_go rfl sk_X9_openAt_0 ?_
  simp (disch := omega) only [sg_X9_openAt_0, sw_c, sw_n, sx, sf_4, sv_i, sv_j, sv_r, sv_q1, sv_q0, sv_1i, sv_1r, sv_2, sl_i, sl_j, sl_a, sl_v, sp_p, sp_f1, sp_f2, sc_w, sc_c, sc_r, sc_f, sc_a, sc_k, pp_in, pp_al, ↓reduceIte, Nat.reduceEqDiff, Nat.reduceLT, Nat.reduceLeDiff, Nat.reduceAdd, Nat.reduceSub, Nat.reduceMul, List.length_cons, List.length_nil, true_and, and_true, and_self, true_implies, eq_self, not_true_eq_false, not_false_eq_true, false_implies, implies_true, false_and, and_false, Bool.false_eq_true, or_true, true_or, or_false, false_or, Classical.not_not, Nat.le_refl, Nat.lt_irrefl, Bool.true_eq_false, n_lit, n_a, n_c, n_s, n_b, n_m, n_g, n_w, n_n, rk_X9_openAt]
  exact m_oA_l (I := I) hM hW hO bW ha hl hp 8 0 rfl hP
theorem m_rd_2 (hM : sM sh R) (hW : ∀ m, m < 8 → I 133 m = Int32.ofNat (W m)) (hO : ∀ m, m < 8 → I 136 m = bV (O m)) (bW : ∀ m, W m ≤ 1000000) (ha : ∀ m, m < 8 → O m = true → 0 < all) (hl : all ≤ 8000000) :
    ∀ f p S l J', f + p = 8 → (∀ a, a ≠ 134 → J' a = J a) → (∀ m, m < 8 → J' 134 m = S m) → (∀ J2, (∀ a, a ≠ 134 → J2 a = J a) → (∀ m, m < 8 → J2 134 m = (gv W lim O all r f p (S, l)).1 m) → P (.inl (some (.long (gv W lim O all r f p (S, l)).2))) (sh, I, J2, R)) →
      pp_N g (h + 1) mi_X9_rounds P 58 [(0, .ref 121), (1, .long r), (3, .long (Int64.ofNat all)), (5, .long lim), (7, .long l), (9, .int (Int32.ofNat p))] [] (sh, I, J', R) := by
  intro f
  induction f with
  | zero =>
    intro p S l J' hp hf hS hP
    have hp : p = 8 := by omega
    subst hp
    have hP := hP J' hf hS
    repeat' (first | ((with_reducible refine pp_go (pc := 58) (seg := sg_X9_rounds_58) hh_X9_rounds sk_X9_rounds_58 ?_); simp (disch := omega) only [sg_X9_rounds_58, sw_c, sw_n, sx, sf_4, sv_i, sv_j, sv_r, sv_q1, sv_q0, sv_1i, sv_1r, sv_2, sl_i, sl_j, sl_a, sl_v, sp_p, sp_f1, sp_f2, sc_w, sc_c, sc_r, sc_f, sc_a, sc_k, pp_in, pp_al, ↓reduceIte, Nat.reduceEqDiff, Nat.reduceLT, Nat.reduceLeDiff, Nat.reduceAdd, Nat.reduceSub, Nat.reduceMul, List.length_cons, List.length_nil, true_and, and_true, and_self, true_implies, eq_self, not_true_eq_false, not_false_eq_true, false_implies, implies_true, false_and, and_false, Bool.false_eq_true, or_true, true_or, or_false, false_or, Classical.not_not, Nat.le_refl, Nat.lt_irrefl, Bool.true_eq_false, n_lit, n_a, n_c, n_s, n_b, n_m, n_g, n_w, n_n]) | ((with_reducible refine pp_go (pc := 124) (seg := sg_X9_rounds_124) hh_X9_rounds sk_X9_rounds_124 ?_); simp (disch := omega) only [sg_X9_rounds_124, sw_c, sw_n, sx, sf_4, sv_i, sv_j, sv_r, sv_q1, sv_q0, sv_1i, sv_1r, sv_2, sl_i, sl_j, sl_a, sl_v, sp_p, sp_f1, sp_f2, sc_w, sc_c, sc_r, sc_f, sc_a, sc_k, pp_in, pp_al, ↓reduceIte, Nat.reduceEqDiff, Nat.reduceLT, Nat.reduceLeDiff, Nat.reduceAdd, Nat.reduceSub, Nat.reduceMul, List.length_cons, List.length_nil, true_and, and_true, and_self, true_implies, eq_self, not_true_eq_false, not_false_eq_true, false_implies, implies_true, false_and, and_false, Bool.false_eq_true, or_true, true_or, or_false, false_or, Classical.not_not, Nat.le_refl, Nat.lt_irrefl, Bool.true_eq_false, n_lit, n_a, n_c, n_s, n_b, n_m, n_g, n_w, n_n]) | (refine ⟨fun _ => ?_, fun _ => ?_⟩ <;> try (exfalso; omega)) | fail)
    exact hP
  | succ f ih =>
    intro p S l J' hp hf hS hP
    simp only [gv] at hP
    have q1 : ¬ 8 ≤ p := by omega
    refine pp_go rfl sk_X9_rounds_58 ?_
    simp (disch := omega) only [sg_X9_rounds_58, sw_c, sw_n, sx, sf_4, sv_i, sv_j, sv_r, sv_q1, sv_q0, sv_1i, sv_1r, sv_2, sl_i, sl_j, sl_a, sl_v, sp_p, sp_f1, sp_f2, sc_w, sc_c, sc_r, sc_f, sc_a, sc_k, pp_in, pp_al, ↓reduceIte, Nat.reduceEqDiff, Nat.reduceLT, Nat.reduceLeDiff, Nat.reduceAdd, Nat.reduceSub, Nat.reduceMul, List.length_cons, List.length_nil, true_and, and_true, and_self, true_implies, eq_self, not_true_eq_false, not_false_eq_true, false_implies, implies_true, false_and, and_false, Bool.false_eq_true, or_true, true_or, or_false, false_or, Classical.not_not, Nat.le_refl, Nat.lt_irrefl, Bool.true_eq_false, n_lit, n_a, n_c, n_s, n_b, n_m, n_g, n_w, n_n, hM, q1]
    refine m_openAt hM hW hO bW ha hl (by omega) ?_
    have lt := fnd_some (f := fun m => O m && decide (ahd W O all r m = p)) 8 0
    have lt : ∀ q, oat W O all r p = some q → q < 8 := fun q hq => by have := lt q hq; omega
    generalize oat W O all r p = ob at hP lt ⊢
    cases ob with
    | none =>
      have nx := ih (p + 1) S l J' (by omega) hf hS hP
      simp (disch := omega) only [sw_c, sw_n, sx, sf_4, sv_i, sv_j, sv_r, sv_q1, sv_q0, sv_1i, sv_1r, sv_2, sl_i, sl_j, sl_a, sl_v, sp_p, sp_f1, sp_f2, sc_w, sc_c, sc_r, sc_f, sc_a, sc_k, pp_in, pp_al, ↓reduceIte, Nat.reduceEqDiff, Nat.reduceLT, Nat.reduceLeDiff, Nat.reduceAdd, Nat.reduceSub, Nat.reduceMul, List.length_cons, List.length_nil, true_and, and_true, and_self, true_implies, eq_self, not_true_eq_false, not_false_eq_true, false_implies, implies_true, false_and, and_false, Bool.false_eq_true, or_true, true_or, or_false, false_or, Classical.not_not, Nat.le_refl, Nat.lt_irrefl, Bool.true_eq_false, n_lit, n_a, n_c, n_s, n_b, n_m, n_g, n_w, n_n, oi]
      repeat' (first | ((with_reducible refine pp_go (pc := 118) (seg := sg_X9_rounds_118) hh_X9_rounds sk_X9_rounds_118 ?_); simp (disch := omega) only [sg_X9_rounds_118, sw_c, sw_n, sx, sf_4, sv_i, sv_j, sv_r, sv_q1, sv_q0, sv_1i, sv_1r, sv_2, sl_i, sl_j, sl_a, sl_v, sp_p, sp_f1, sp_f2, sc_w, sc_c, sc_r, sc_f, sc_a, sc_k, pp_in, pp_al, ↓reduceIte, Nat.reduceEqDiff, Nat.reduceLT, Nat.reduceLeDiff, Nat.reduceAdd, Nat.reduceSub, Nat.reduceMul, List.length_cons, List.length_nil, true_and, and_true, and_self, true_implies, eq_self, not_true_eq_false, not_false_eq_true, false_implies, implies_true, false_and, and_false, Bool.false_eq_true, or_true, true_or, or_false, false_or, Classical.not_not, Nat.le_refl, Nat.lt_irrefl, Bool.true_eq_false, n_lit, n_a, n_c, n_s, n_b, n_m, n_g, n_w, n_n]) | (refine ⟨fun _ => ?_, fun _ => ?_⟩ <;> try (exfalso; omega)) | fail)
      exact pp_N.sub nx (by simp)
    | some m =>
      have hm := lt m rfl
      by_cases c : Int64.ofNat 0 < l ∧ S m < lim
      · rw [gv1, if_pos c] at hP
        have c1 : ¬ l ≤ Int64.ofNat 0 := Int64.not_le.mpr c.1
        have c2 : ¬ lim ≤ S m := Int64.not_le.mpr c.2
        simp (disch := omega) only [sw_c, sw_n, sx, sf_4, sv_i, sv_j, sv_r, sv_q1, sv_q0, sv_1i, sv_1r, sv_2, sl_i, sl_j, sl_a, sl_v, sp_p, sp_f1, sp_f2, sc_w, sc_c, sc_r, sc_f, sc_a, sc_k, pp_in, pp_al, ↓reduceIte, Nat.reduceEqDiff, Nat.reduceLT, Nat.reduceLeDiff, Nat.reduceAdd, Nat.reduceSub, Nat.reduceMul, List.length_cons, List.length_nil, true_and, and_true, and_self, true_implies, eq_self, not_true_eq_false, not_false_eq_true, false_implies, implies_true, false_and, and_false, Bool.false_eq_true, or_true, true_or, or_false, false_or, Classical.not_not, Nat.le_refl, Nat.lt_irrefl, Bool.true_eq_false, n_lit, n_a, n_c, n_s, n_b, n_m, n_g, n_w, n_n, oi, hM, hS, c1, c2]
        repeat' (first | ((with_reducible refine pp_go (pc := 118) (seg := sg_X9_rounds_118) hh_X9_rounds sk_X9_rounds_118 ?_); simp (disch := omega) only [sg_X9_rounds_118, sw_c, sw_n, sx, sf_4, sv_i, sv_j, sv_r, sv_q1, sv_q0, sv_1i, sv_1r, sv_2, sl_i, sl_j, sl_a, sl_v, sp_p, sp_f1, sp_f2, sc_w, sc_c, sc_r, sc_f, sc_a, sc_k, pp_in, pp_al, ↓reduceIte, Nat.reduceEqDiff, Nat.reduceLT, Nat.reduceLeDiff, Nat.reduceAdd, Nat.reduceSub, Nat.reduceMul, List.length_cons, List.length_nil, true_and, and_true, and_self, true_implies, eq_self, not_true_eq_false, not_false_eq_true, false_implies, implies_true, false_and, and_false, Bool.false_eq_true, or_true, true_or, or_false, false_or, Classical.not_not, Nat.le_refl, Nat.lt_irrefl, Bool.true_eq_false, n_lit, n_a, n_c, n_s, n_b, n_m, n_g, n_w, n_n]) | (refine ⟨fun _ => ?_, fun _ => ?_⟩ <;> try (exfalso; omega)) | fail)
        refine pp_N.sub (ih (p + 1) _ _ _ (by omega) (fun a ha => ?_) (fun i hi => ?_) hP) (by simp)
        · rw [pp_s_ne _ _ ha]; exact hf a ha
        · simp only [n_m, if_true]
          by_cases e : i = m
          · rw [if_pos e, if_pos e]
          · rw [if_neg e, if_neg e]; exact hS i hi
      · rw [gv1, if_neg c] at hP
        have nx := ih (p + 1) S l J' (by omega) hf hS hP
        simp (disch := omega) only [sw_c, sw_n, sx, sf_4, sv_i, sv_j, sv_r, sv_q1, sv_q0, sv_1i, sv_1r, sv_2, sl_i, sl_j, sl_a, sl_v, sp_p, sp_f1, sp_f2, sc_w, sc_c, sc_r, sc_f, sc_a, sc_k, pp_in, pp_al, ↓reduceIte, Nat.reduceEqDiff, Nat.reduceLT, Nat.reduceLeDiff, Nat.reduceAdd, Nat.reduceSub, Nat.reduceMul, List.length_cons, List.length_nil, true_and, and_true, and_self, true_implies, eq_self, not_true_eq_false, not_false_eq_true, false_implies, implies_true, false_and, and_false, Bool.false_eq_true, or_true, true_or, or_false, false_or, Classical.not_not, Nat.le_refl, Nat.lt_irrefl, Bool.true_eq_false, n_lit, n_a, n_c, n_s, n_b, n_m, n_g, n_w, n_n, oi, hM, hS]
        refine ⟨fun q => ?_, fun q => ⟨fun q2 => ?_, fun q2 => ?_⟩⟩
        · repeat' (first | ((with_reducible refine pp_go (pc := 118) (seg := sg_X9_rounds_118) hh_X9_rounds sk_X9_rounds_118 ?_); simp (disch := omega) only [sg_X9_rounds_118, sw_c, sw_n, sx, sf_4, sv_i, sv_j, sv_r, sv_q1, sv_q0, sv_1i, sv_1r, sv_2, sl_i, sl_j, sl_a, sl_v, sp_p, sp_f1, sp_f2, sc_w, sc_c, sc_r, sc_f, sc_a, sc_k, pp_in, pp_al, ↓reduceIte, Nat.reduceEqDiff, Nat.reduceLT, Nat.reduceLeDiff, Nat.reduceAdd, Nat.reduceSub, Nat.reduceMul, List.length_cons, List.length_nil, true_and, and_true, and_self, true_implies, eq_self, not_true_eq_false, not_false_eq_true, false_implies, implies_true, false_and, and_false, Bool.false_eq_true, or_true, true_or, or_false, false_or, Classical.not_not, Nat.le_refl, Nat.lt_irrefl, Bool.true_eq_false, n_lit, n_a, n_c, n_s, n_b, n_m, n_g, n_w, n_n]) | (refine ⟨fun _ => ?_, fun _ => ?_⟩ <;> try (exfalso; omega)) | fail)
          exact pp_N.sub nx (by simp)
        · repeat' (first | ((with_reducible refine pp_go (pc := 118) (seg := sg_X9_rounds_118) hh_X9_rounds sk_X9_rounds_118 ?_); simp (disch := omega) only [sg_X9_rounds_118, sw_c, sw_n, sx, sf_4, sv_i, sv_j, sv_r, sv_q1, sv_q0, sv_1i, sv_1r, sv_2, sl_i, sl_j, sl_a, sl_v, sp_p, sp_f1, sp_f2, sc_w, sc_c, sc_r, sc_f, sc_a, sc_k, pp_in, pp_al, ↓reduceIte, Nat.reduceEqDiff, Nat.reduceLT, Nat.reduceLeDiff, Nat.reduceAdd, Nat.reduceSub, Nat.reduceMul, List.length_cons, List.length_nil, true_and, and_true, and_self, true_implies, eq_self, not_true_eq_false, not_false_eq_true, false_implies, implies_true, false_and, and_false, Bool.false_eq_true, or_true, true_or, or_false, false_or, Classical.not_not, Nat.le_refl, Nat.lt_irrefl, Bool.true_eq_false, n_lit, n_a, n_c, n_s, n_b, n_m, n_g, n_w, n_n]) | (refine ⟨fun _ => ?_, fun _ => ?_⟩ <;> try (exfalso; omega)) | fail)
          exact pp_N.sub nx (by simp)
        · exact absurd ⟨Int64.not_le.mp q, Int64.not_le.mp q2⟩ c
theorem m_rd_1 {S : Nat → Int64} (hM : sM sh R) (hO : ∀ m, m < 8 → I 136 m = bV (O m)) (hQ : ∀ m, m < 8 → O m = true → J 135 m = quo W all r m)
    (K : ∀ J', (∀ a, a ≠ 134 → J' a = J a) → (∀ m, m < 8 → J' 134 m = if O m then quo W all r m else S m) → pp_N g (h + 1) mi_X9_rounds P 55 [(0, .ref 121), (1, .long r), (3, .long (Int64.ofNat all)), (5, .long lim), (7, .long (lfq W O all r 8))] [] (sh, I, J', R)) :
    ∀ f m J', f + m = 8 → (∀ a, a ≠ 134 → J' a = J a) → (∀ i, i < 8 → J' 134 i = if i < m ∧ O i = true then quo W all r i else S i) →
      pp_N g (h + 1) mi_X9_rounds P 6 [(0, .ref 121), (1, .long r), (3, .long (Int64.ofNat all)), (5, .long lim), (7, .long (lfq W O all r m)), (9, .int (Int32.ofNat m))] [] (sh, I, J', R) := by
  intro f
  induction f with
  | zero =>
    intro m J' hm hf hS
    have hm : m = 8 := by omega
    subst hm
    refine pp_go rfl sk_X9_rounds_6 ?_
    simp (disch := omega) only [sg_X9_rounds_6, sw_c, sw_n, sx, sf_4, sv_i, sv_j, sv_r, sv_q1, sv_q0, sv_1i, sv_1r, sv_2, sl_i, sl_j, sl_a, sl_v, sp_p, sp_f1, sp_f2, sc_w, sc_c, sc_r, sc_f, sc_a, sc_k, pp_in, pp_al, ↓reduceIte, Nat.reduceEqDiff, Nat.reduceLT, Nat.reduceLeDiff, Nat.reduceAdd, Nat.reduceSub, Nat.reduceMul, List.length_cons, List.length_nil, true_and, and_true, and_self, true_implies, eq_self, not_true_eq_false, not_false_eq_true, false_implies, implies_true, false_and, and_false, Bool.false_eq_true, or_true, true_or, or_false, false_or, Classical.not_not, Nat.le_refl, Nat.lt_irrefl, Bool.true_eq_false, n_lit, n_a, n_c, n_s, n_b, n_m, n_g, n_w, n_n]
    refine pp_N.sub (K J' hf (fun i hi => ?_)) (by simp)
    rw [hS i hi]
    by_cases c : O i = true
    · rw [if_pos ⟨hi, c⟩, if_pos c]
    · rw [if_neg (fun z => c z.2), if_neg c]
  | succ f ih =>
    intro m J' hm hf hS
    have ih := fun J2 => ih (m + 1) J2 (by omega)
    simp only [lfq] at ih
    have q1 : ¬ 8 ≤ m := by omega
    cases hb : O m with
    | false =>
      simp only [hb] at ih
      refine pp_go rfl sk_X9_rounds_6 ?_
      simp (disch := omega) only [sg_X9_rounds_6, sw_c, sw_n, sx, sf_4, sv_i, sv_j, sv_r, sv_q1, sv_q0, sv_1i, sv_1r, sv_2, sl_i, sl_j, sl_a, sl_v, sp_p, sp_f1, sp_f2, sc_w, sc_c, sc_r, sc_f, sc_a, sc_k, pp_in, pp_al, ↓reduceIte, Nat.reduceEqDiff, Nat.reduceLT, Nat.reduceLeDiff, Nat.reduceAdd, Nat.reduceSub, Nat.reduceMul, List.length_cons, List.length_nil, true_and, and_true, and_self, true_implies, eq_self, not_true_eq_false, not_false_eq_true, false_implies, implies_true, false_and, and_false, Bool.false_eq_true, or_true, true_or, or_false, false_or, Classical.not_not, Nat.le_refl, Nat.lt_irrefl, Bool.true_eq_false, n_lit, n_a, n_c, n_s, n_b, n_m, n_g, n_w, n_n, hM, q1, hO, bV_0, hb]
      repeat' (first | ((with_reducible refine pp_go (pc := 49) (seg := sg_X9_rounds_49) hh_X9_rounds sk_X9_rounds_49 ?_); simp (disch := omega) only [sg_X9_rounds_49, sw_c, sw_n, sx, sf_4, sv_i, sv_j, sv_r, sv_q1, sv_q0, sv_1i, sv_1r, sv_2, sl_i, sl_j, sl_a, sl_v, sp_p, sp_f1, sp_f2, sc_w, sc_c, sc_r, sc_f, sc_a, sc_k, pp_in, pp_al, ↓reduceIte, Nat.reduceEqDiff, Nat.reduceLT, Nat.reduceLeDiff, Nat.reduceAdd, Nat.reduceSub, Nat.reduceMul, List.length_cons, List.length_nil, true_and, and_true, and_self, true_implies, eq_self, not_true_eq_false, not_false_eq_true, false_implies, implies_true, false_and, and_false, Bool.false_eq_true, or_true, true_or, or_false, false_or, Classical.not_not, Nat.le_refl, Nat.lt_irrefl, Bool.true_eq_false, n_lit, n_a, n_c, n_s, n_b, n_m, n_g, n_w, n_n]) | (refine ⟨fun _ => ?_, fun _ => ?_⟩ <;> try (exfalso; omega)) | fail)
      refine ih J' hf (fun i hi => ?_)
      rw [hS i hi]
      by_cases c : i < m ∧ O i = true
      · rw [if_pos c, if_pos ⟨by omega, c.2⟩]
      · rw [if_neg c, if_neg (fun z => ?_)]
        by_cases e : i = m
        · subst e; rw [hb] at z; cases z.2
        · exact c ⟨by omega, z.2⟩
    | true =>
      simp only [hb, if_true] at ih
      have q : J' 135 m = quo W all r m := by rw [hf 135 (by omega)]; exact hQ m (by omega) hb
      refine pp_go rfl sk_X9_rounds_6 ?_
      simp (disch := omega) only [sg_X9_rounds_6, sw_c, sw_n, sx, sf_4, sv_i, sv_j, sv_r, sv_q1, sv_q0, sv_1i, sv_1r, sv_2, sl_i, sl_j, sl_a, sl_v, sp_p, sp_f1, sp_f2, sc_w, sc_c, sc_r, sc_f, sc_a, sc_k, pp_in, pp_al, ↓reduceIte, Nat.reduceEqDiff, Nat.reduceLT, Nat.reduceLeDiff, Nat.reduceAdd, Nat.reduceSub, Nat.reduceMul, List.length_cons, List.length_nil, true_and, and_true, and_self, true_implies, eq_self, not_true_eq_false, not_false_eq_true, false_implies, implies_true, false_and, and_false, Bool.false_eq_true, or_true, true_or, or_false, false_or, Classical.not_not, Nat.le_refl, Nat.lt_irrefl, Bool.true_eq_false, n_lit, n_a, n_c, n_s, n_b, n_m, n_g, n_w, n_n, hM, q1, hO, bV_0, hb, q]
      repeat' (first | ((with_reducible refine pp_go (pc := 49) (seg := sg_X9_rounds_49) hh_X9_rounds sk_X9_rounds_49 ?_); simp (disch := omega) only [sg_X9_rounds_49, sw_c, sw_n, sx, sf_4, sv_i, sv_j, sv_r, sv_q1, sv_q0, sv_1i, sv_1r, sv_2, sl_i, sl_j, sl_a, sl_v, sp_p, sp_f1, sp_f2, sc_w, sc_c, sc_r, sc_f, sc_a, sc_k, pp_in, pp_al, ↓reduceIte, Nat.reduceEqDiff, Nat.reduceLT, Nat.reduceLeDiff, Nat.reduceAdd, Nat.reduceSub, Nat.reduceMul, List.length_cons, List.length_nil, true_and, and_true, and_self, true_implies, eq_self, not_true_eq_false, not_false_eq_true, false_implies, implies_true, false_and, and_false, Bool.false_eq_true, or_true, true_or, or_false, false_or, Classical.not_not, Nat.le_refl, Nat.lt_irrefl, Bool.true_eq_false, n_lit, n_a, n_c, n_s, n_b, n_m, n_g, n_w, n_n]) | (refine ⟨fun _ => ?_, fun _ => ?_⟩ <;> try (exfalso; omega)) | fail)
      refine ih _ (fun a ha => ?_) (fun i hi => ?_)
      · rw [pp_s_ne _ _ ha]; exact hf a ha
      · simp only [n_m, if_true]
        by_cases e : i = m
        · subst e; rw [if_pos rfl, if_pos ⟨by omega, hb⟩]
        · rw [if_neg e, hS i hi]
          by_cases c : i < m ∧ O i = true
          · rw [if_pos c, if_pos ⟨by omega, c.2⟩]
          · rw [if_neg c, if_neg (fun z => c ⟨by omega, z.2⟩)]
theorem m_rounds {S : Nat → Int64} (hM : sM sh R) (hW : ∀ m, m < 8 → I 133 m = Int32.ofNat (W m)) (hO : ∀ m, m < 8 → I 136 m = bV (O m)) (bW : ∀ m, W m ≤ 1000000) (ha : ∀ m, m < 8 → O m = true → 0 < all) (hl : all ≤ 8000000) (hQ : ∀ m, m < 8 → O m = true → J 135 m = quo W all r m) (hS : ∀ m, m < 8 → J 134 m = S m)
    (hP : ∀ J2, (∀ a, a ≠ 134 → J2 a = J a) → (∀ m, m < 8 → J2 134 m = (gv W lim O all r 8 0 (fun m => if O m then quo W all r m else S m, lfq W O all r 8)).1 m) → P (.inl (some (.long (gv W lim O all r 8 0 (fun m => if O m then quo W all r m else S m, lfq W O all r 8)).2))) (sh, I, J2, R)) : pp_MW g (h + 2) mi_X9_rounds [.ref 121, .long r, .long (Int64.ofNat all), .long lim] (sh, I, J, R) P := by
  refine pp_st0 [(0, .ref 121), (1, .long r), (3, .long (Int64.ofNat all)), (5, .long lim)] ok_X9_rounds rfl (Nat.le_of_ble_eq_true rfl) rfl ?_
  refine pp_go rfl sk_X9_rounds_0 ?_
  simp (disch := omega) only [sg_X9_rounds_0, sw_c, sw_n, sx, sf_4, sv_i, sv_j, sv_r, sv_q1, sv_q0, sv_1i, sv_1r, sv_2, sl_i, sl_j, sl_a, sl_v, sp_p, sp_f1, sp_f2, sc_w, sc_c, sc_r, sc_f, sc_a, sc_k, pp_in, pp_al, ↓reduceIte, Nat.reduceEqDiff, Nat.reduceLT, Nat.reduceLeDiff, Nat.reduceAdd, Nat.reduceSub, Nat.reduceMul, List.length_cons, List.length_nil, true_and, and_true, and_self, true_implies, eq_self, not_true_eq_false, not_false_eq_true, false_implies, implies_true, false_and, and_false, Bool.false_eq_true, or_true, true_or, or_false, false_or, Classical.not_not, Nat.le_refl, Nat.lt_irrefl, Bool.true_eq_false, n_lit, n_a, n_c, n_s, n_b, n_m, n_g, n_w, n_n]
  refine m_rd_1 (I := I) (J := J) (S := S) hM hO hQ (fun J' hf hS' => ?_) 8 0 J rfl (fun _ _ => rfl) (fun i hi => ?_)
  · refine pp_go rfl sk_X9_rounds_55 ?_
    simp (disch := omega) only [sg_X9_rounds_55, sw_c, sw_n, sx, sf_4, sv_i, sv_j, sv_r, sv_q1, sv_q0, sv_1i, sv_1r, sv_2, sl_i, sl_j, sl_a, sl_v, sp_p, sp_f1, sp_f2, sc_w, sc_c, sc_r, sc_f, sc_a, sc_k, pp_in, pp_al, ↓reduceIte, Nat.reduceEqDiff, Nat.reduceLT, Nat.reduceLeDiff, Nat.reduceAdd, Nat.reduceSub, Nat.reduceMul, List.length_cons, List.length_nil, true_and, and_true, and_self, true_implies, eq_self, not_true_eq_false, not_false_eq_true, false_implies, implies_true, false_and, and_false, Bool.false_eq_true, or_true, true_or, or_false, false_or, Classical.not_not, Nat.le_refl, Nat.lt_irrefl, Bool.true_eq_false, n_lit, n_a, n_c, n_s, n_b, n_m, n_g, n_w, n_n]
    exact m_rd_2 (I := I) (J := J) hM hW hO bW ha hl 8 0 _ _ J' rfl hf hS' hP
  · rw [hS i hi, if_neg (by omega)]
end
