/-! SHARES as numbers; THE MODEL, 5 -/
set_option maxHeartbeats 1000000
set_option maxRecDepth 100000
def bV (b : Bool) : Int32 := if b then Int32.ofNat 1 else Int32.ofNat 0
theorem bV_0 (b : Bool) : (bV b = Int32.ofNat 0) = (b = false) := by cases b <;> simp [bV]
theorem bV_ok (b : Bool) : (bV b = Int32.ofNat 0 ∨ bV b = Int32.ofNat 1) = True := by cases b <;> simp [bV]
def opn (W : Nat → Nat) (O : Nat → Bool) : Nat := sm (fun m => if O m then W m else 0) 8
def quo (W : Nat → Nat) (all : Nat) (r : Int64) (m : Nat) : Int64 := r * Int64.ofNat (W m) / Int64.ofNat all
def rmd (W : Nat → Nat) (all : Nat) (r : Int64) (m : Nat) : Int64 := r * Int64.ofNat (W m) - r * Int64.ofNat (W m) / Int64.ofNat all * Int64.ofNat all
def lss (W : Nat → Nat) (O : Nat → Bool) (all : Nat) (r : Int64) (m o : Nat) : Int64 := if O o then rmd W all r o - rmd W all r m else -1
abbrev ahP (W : Nat → Nat) (O : Nat → Bool) (all : Nat) (r : Int64) (m o : Nat) : Prop := Int64.ofNat 0 < lss W O all r m o ∨ (lss W O all r m o = Int64.ofNat 0 ∧ o < m)
def ahd (W : Nat → Nat) (O : Nat → Bool) (all : Nat) (r : Int64) (m : Nat) : Nat := sm (fun o => if ahP W O all r m o then 1 else 0) 8
def fnd (f : Nat → Bool) : Nat → Nat → Option Nat
  | 0, _ => none
  | k + 1, m => if f m then some m else fnd f k (m + 1)
theorem fnd_some {f : Nat → Bool} : ∀ k m q, fnd f k m = some q → f q = true ∧ m ≤ q ∧ q < m + k := by
  intro k
  induction k with
  | zero => intro m q e; cases e
  | succ k ih =>
    intro m q e
    rw [fnd] at e
    split at e
    · cases e; exact ⟨by assumption, by omega, by omega⟩
    · have := ih (m + 1) q e
      exact ⟨this.1, by omega, by omega⟩
def oat (W : Nat → Nat) (O : Nat → Bool) (all : Nat) (r : Int64) (pl : Nat) : Option Nat := fnd (fun m => O m && decide (ahd W O all r m = pl)) 8 0
/-- what a hit in a round is -/
abbrev hitP (W : Nat → Nat) (lim : Int64) (O : Nat → Bool) (r : Int64) (m : Nat) : Prop := O m = true ∧ lim < quo W (opn W O) r m
def lft (W : Nat → Nat) (lim : Int64) (O : Nat → Bool) (r : Int64) : Nat → Int64
  | 0 => r
  | m + 1 => if hitP W lim O r m then lft W lim O r m - lim else lft W lim O r m
def anyh (W : Nat → Nat) (lim : Int64) (O : Nat → Bool) (r : Int64) : Nat → Bool
  | 0 => false
  | m + 1 => if hitP W lim O r m then true else anyh W lim O r m
abbrev DS : Type := (Nat → Int64) × (Nat → Bool) × Int64
def cls (W : Nat → Nat) (lim : Int64) : Nat → DS → DS
  | 0, s => s
  | f + 1, s => if anyh W lim s.2.1 s.2.2 8 = true then cls W lim f (fun m => if hitP W lim s.2.1 s.2.2 m then lim else s.1 m, fun m => if hitP W lim s.2.1 s.2.2 m then false else s.2.1 m, lft W lim s.2.1 s.2.2 8) else s
def lfq (W : Nat → Nat) (O : Nat → Bool) (all : Nat) (r : Int64) : Nat → Int64
  | 0 => r
  | m + 1 => if O m then lfq W O all r m - quo W all r m else lfq W O all r m
/-- one more, if there is one and the limit allows it -/
def gv1 (lim : Int64) (o : Option Nat) (s : (Nat → Int64) × Int64) : (Nat → Int64) × Int64 := match o with
  | none => s
  | some m => if Int64.ofNat 0 < s.2 ∧ s.1 m < lim then (va_up s.1 m (s.1 m + Int64.ofNat 1), s.2 - Int64.ofNat 1) else s
def gv (W : Nat → Nat) (lim : Int64) (O : Nat → Bool) (all : Nat) (r : Int64) : Nat → Nat → (Nat → Int64) × Int64 → (Nat → Int64) × Int64
  | 0, _, s => s
  | f + 1, p, s => gv W lim O all r f (p + 1) (gv1 lim (oat W O all r p) s)
def fin8 (W : Nat → Nat) (lim : Int64) (s : DS) : (Nat → Int64) × Int64 := gv W lim s.2.1 (opn W s.2.1) s.2.2 8 0 (fun m => if s.2.1 m then quo W (opn W s.2.1) s.2.2 m else s.1 m, lfq W s.2.1 (opn W s.2.1) s.2.2 8)
def dsh (W : Nat → Nat) (amount : Int64) (cap : Nat) : (Nat → Int64) × Int64 := fin8 W (amount * Int64.ofNat cap / Int64.ofNat 100) (cls W (amount * Int64.ofNat cap / Int64.ofNat 100) 8 (fun _ => Int64.ofNat 0, fun m => decide (0 < W m), amount))
theorem opn_le {W : Nat → Nat} (bW : ∀ m, W m ≤ 1000000) (O : Nat → Bool) : opn W O ≤ 8000000 := by
  have := sm_le (f := fun m => if O m then W m else 0) (c := 1000000) (fun i => by have := bW i; split <;> omega) 8
  unfold opn
  omega
theorem sm_pos {f : Nat → Nat} : ∀ n i, i < n → 0 < f i → 0 < sm f n := by
  intro n
  induction n with
  | zero => intro i h; omega
  | succ n ih =>
    intro i h hf
    rw [sm]
    by_cases e : i = n
    · subst e; omega
    · have := ih i (by omega) hf; omega
theorem opn_pos {W : Nat → Nat} {O : Nat → Bool} {m : Nat} (hm : m < 8) (hO : O m = true) (hW : 0 < W m) : 0 < opn W O := sm_pos 8 m hm (by simp only [hO, if_true]; exact hW)
section
variable {g : pp_G} {h : Nat} {sh : List (Nat × Nat)} {I : Nat → Nat → Int32} {J : Nat → Nat → Int64} {R : Nat → Nat → Option Nat} {w : pp_W} {P : pp_R → pp_W → Prop} {G : LG} {T : TM} {n : Nat} {W : Nat → Nat} {O : Nat → Bool} {all : Nat} {r lim : Int64}
theorem m_oO_l (hM : sM sh R) (hW : ∀ m, m < 8 → I 133 m = Int32.ofNat (W m)) (hO : ∀ m, m < 8 → I 136 m = bV (O m)) (bW : ∀ m, W m ≤ 1000000) (hP : P (.inl (some (.long (Int64.ofNat (opn W O))))) (sh, I, J, R)) :
    ∀ f m, f + m = 8 → pp_N g h mi_X9_openOnes P 4 [(0, .ref 121), (1, .long (Int64.ofNat (sm (fun m => if O m then W m else 0) m))), (3, .int (Int32.ofNat m))] [] (sh, I, J, R) := by
  intro f
  induction f with
  | zero =>
    intro m hm
    have hm : m = 8 := by omega
    subst hm
    repeat' (first | ((with_reducible refine pp_go (pc := 4) (seg := sg_X9_openOnes_4) hh_X9_openOnes sk_X9_openOnes_4 ?_); simp (disch := omega) only [sg_X9_openOnes_4, sw_c, sw_n, sx, sf_4, sv_i, sv_j, sv_r, sv_q1, sv_q0, sv_1i, sv_1r, sv_2, sl_i, sl_j, sl_a, sl_v, sp_p, sp_f1, sp_f2, sc_w, sc_c, sc_r, sc_f, sc_a, sc_k, pp_in, pp_al, ↓reduceIte, Nat.reduceEqDiff, Nat.reduceLT, Nat.reduceLeDiff, Nat.reduceAdd, Nat.reduceSub, Nat.reduceMul, List.length_cons, List.length_nil, true_and, and_true, and_self, true_implies, eq_self, not_true_eq_false, not_false_eq_true, false_implies, implies_true, false_and, and_false, Bool.false_eq_true, or_true, true_or, or_false, false_or, Classical.not_not, Nat.le_refl, Nat.lt_irrefl, Bool.true_eq_false, n_lit, n_a, n_c, n_s, n_b, n_m, n_g, n_w, n_n]) | ((with_reducible refine pp_go (pc := 39) (seg := sg_X9_openOnes_39) hh_X9_openOnes sk_X9_openOnes_39 ?_); simp (disch := omega) only [sg_X9_openOnes_39, sw_c, sw_n, sx, sf_4, sv_i, sv_j, sv_r, sv_q1, sv_q0, sv_1i, sv_1r, sv_2, sl_i, sl_j, sl_a, sl_v, sp_p, sp_f1, sp_f2, sc_w, sc_c, sc_r, sc_f, sc_a, sc_k, pp_in, pp_al, ↓reduceIte, Nat.reduceEqDiff, Nat.reduceLT, Nat.reduceLeDiff, Nat.reduceAdd, Nat.reduceSub, Nat.reduceMul, List.length_cons, List.length_nil, true_and, and_true, and_self, true_implies, eq_self, not_true_eq_false, not_false_eq_true, false_implies, implies_true, false_and, and_false, Bool.false_eq_true, or_true, true_or, or_false, false_or, Classical.not_not, Nat.le_refl, Nat.lt_irrefl, Bool.true_eq_false, n_lit, n_a, n_c, n_s, n_b, n_m, n_g, n_w, n_n]) | (refine ⟨fun _ => ?_, fun _ => ?_⟩ <;> try (exfalso; omega)) | fail)
    exact hP
  | succ f ih =>
    intro m hm
    have nx := ih (m + 1) (by omega)
    rw [sm] at nx
    have q1 : ¬ 8 ≤ m := by omega
    have b1 := sm_le (f := fun m => if O m then W m else 0) (c := 1000000) (fun i => by have := bW i; split <;> omega) m
    have b2 := bW m
    cases hb : O m with
    | false =>
      rw [hb] at nx
      refine pp_go rfl sk_X9_openOnes_4 ?_
      simp (disch := omega) only [sg_X9_openOnes_4, sw_c, sw_n, sx, sf_4, sv_i, sv_j, sv_r, sv_q1, sv_q0, sv_1i, sv_1r, sv_2, sl_i, sl_j, sl_a, sl_v, sp_p, sp_f1, sp_f2, sc_w, sc_c, sc_r, sc_f, sc_a, sc_k, pp_in, pp_al, ↓reduceIte, Nat.reduceEqDiff, Nat.reduceLT, Nat.reduceLeDiff, Nat.reduceAdd, Nat.reduceSub, Nat.reduceMul, List.length_cons, List.length_nil, true_and, and_true, and_self, true_implies, eq_self, not_true_eq_false, not_false_eq_true, false_implies, implies_true, false_and, and_false, Bool.false_eq_true, or_true, true_or, or_false, false_or, Classical.not_not, Nat.le_refl, Nat.lt_irrefl, Bool.true_eq_false, n_lit, n_a, n_c, n_s, n_b, n_m, n_g, n_w, n_n, hM, q1, hO, hW, bV_0, hb]
      repeat' (first | ((with_reducible refine pp_go (pc := 30) (seg := sg_X9_openOnes_30) hh_X9_openOnes sk_X9_openOnes_30 ?_); simp (disch := omega) only [sg_X9_openOnes_30, sw_c, sw_n, sx, sf_4, sv_i, sv_j, sv_r, sv_q1, sv_q0, sv_1i, sv_1r, sv_2, sl_i, sl_j, sl_a, sl_v, sp_p, sp_f1, sp_f2, sc_w, sc_c, sc_r, sc_f, sc_a, sc_k, pp_in, pp_al, ↓reduceIte, Nat.reduceEqDiff, Nat.reduceLT, Nat.reduceLeDiff, Nat.reduceAdd, Nat.reduceSub, Nat.reduceMul, List.length_cons, List.length_nil, true_and, and_true, and_self, true_implies, eq_self, not_true_eq_false, not_false_eq_true, false_implies, implies_true, false_and, and_false, Bool.false_eq_true, or_true, true_or, or_false, false_or, Classical.not_not, Nat.le_refl, Nat.lt_irrefl, Bool.true_eq_false, n_lit, n_a, n_c, n_s, n_b, n_m, n_g, n_w, n_n]) | ((with_reducible refine pp_go (pc := 31) (seg := sg_X9_openOnes_31) hh_X9_openOnes sk_X9_openOnes_31 ?_); simp (disch := omega) only [sg_X9_openOnes_31, sw_c, sw_n, sx, sf_4, sv_i, sv_j, sv_r, sv_q1, sv_q0, sv_1i, sv_1r, sv_2, sl_i, sl_j, sl_a, sl_v, sp_p, sp_f1, sp_f2, sc_w, sc_c, sc_r, sc_f, sc_a, sc_k, pp_in, pp_al, ↓reduceIte, Nat.reduceEqDiff, Nat.reduceLT, Nat.reduceLeDiff, Nat.reduceAdd, Nat.reduceSub, Nat.reduceMul, List.length_cons, List.length_nil, true_and, and_true, and_self, true_implies, eq_self, not_true_eq_false, not_false_eq_true, false_implies, implies_true, false_and, and_false, Bool.false_eq_true, or_true, true_or, or_false, false_or, Classical.not_not, Nat.le_refl, Nat.lt_irrefl, Bool.true_eq_false, n_lit, n_a, n_c, n_s, n_b, n_m, n_g, n_w, n_n]) | (refine ⟨fun _ => ?_, fun _ => ?_⟩ <;> try (exfalso; omega)) | fail)
      exact nx
    | true =>
      rw [hb] at nx
      refine pp_go rfl sk_X9_openOnes_4 ?_
      simp (disch := omega) only [sg_X9_openOnes_4, sw_c, sw_n, sx, sf_4, sv_i, sv_j, sv_r, sv_q1, sv_q0, sv_1i, sv_1r, sv_2, sl_i, sl_j, sl_a, sl_v, sp_p, sp_f1, sp_f2, sc_w, sc_c, sc_r, sc_f, sc_a, sc_k, pp_in, pp_al, ↓reduceIte, Nat.reduceEqDiff, Nat.reduceLT, Nat.reduceLeDiff, Nat.reduceAdd, Nat.reduceSub, Nat.reduceMul, List.length_cons, List.length_nil, true_and, and_true, and_self, true_implies, eq_self, not_true_eq_false, not_false_eq_true, false_implies, implies_true, false_and, and_false, Bool.false_eq_true, or_true, true_or, or_false, false_or, Classical.not_not, Nat.le_refl, Nat.lt_irrefl, Bool.true_eq_false, n_lit, n_a, n_c, n_s, n_b, n_m, n_g, n_w, n_n, hM, q1, hO, hW, bV_0, hb]
      repeat' (first | ((with_reducible refine pp_go (pc := 30) (seg := sg_X9_openOnes_30) hh_X9_openOnes sk_X9_openOnes_30 ?_); simp (disch := omega) only [sg_X9_openOnes_30, sw_c, sw_n, sx, sf_4, sv_i, sv_j, sv_r, sv_q1, sv_q0, sv_1i, sv_1r, sv_2, sl_i, sl_j, sl_a, sl_v, sp_p, sp_f1, sp_f2, sc_w, sc_c, sc_r, sc_f, sc_a, sc_k, pp_in, pp_al, ↓reduceIte, Nat.reduceEqDiff, Nat.reduceLT, Nat.reduceLeDiff, Nat.reduceAdd, Nat.reduceSub, Nat.reduceMul, List.length_cons, List.length_nil, true_and, and_true, and_self, true_implies, eq_self, not_true_eq_false, not_false_eq_true, false_implies, implies_true, false_and, and_false, Bool.false_eq_true, or_true, true_or, or_false, false_or, Classical.not_not, Nat.le_refl, Nat.lt_irrefl, Bool.true_eq_false, n_lit, n_a, n_c, n_s, n_b, n_m, n_g, n_w, n_n]) | ((with_reducible refine pp_go (pc := 31) (seg := sg_X9_openOnes_31) hh_X9_openOnes sk_X9_openOnes_31 ?_); simp (disch := omega) only [sg_X9_openOnes_31, sw_c, sw_n, sx, sf_4, sv_i, sv_j, sv_r, sv_q1, sv_q0, sv_1i, sv_1r, sv_2, sl_i, sl_j, sl_a, sl_v, sp_p, sp_f1, sp_f2, sc_w, sc_c, sc_r, sc_f, sc_a, sc_k, pp_in, pp_al, ↓reduceIte, Nat.reduceEqDiff, Nat.reduceLT, Nat.reduceLeDiff, Nat.reduceAdd, Nat.reduceSub, Nat.reduceMul, List.length_cons, List.length_nil, true_and, and_true, and_self, true_implies, eq_self, not_true_eq_false, not_false_eq_true, false_implies, implies_true, false_and, and_false, Bool.false_eq_true, or_true, true_or, or_false, false_or, Classical.not_not, Nat.le_refl, Nat.lt_irrefl, Bool.true_eq_false, n_lit, n_a, n_c, n_s, n_b, n_m, n_g, n_w, n_n]) | (refine ⟨fun _ => ?_, fun _ => ?_⟩ <;> try (exfalso; omega)) | fail)
      exact nx
theorem m_openOnes (hM : sM sh R) (hW : ∀ m, m < 8 → I 133 m = Int32.ofNat (W m)) (hO : ∀ m, m < 8 → I 136 m = bV (O m)) (bW : ∀ m, W m ≤ 1000000) (hP : P (.inl (some (.long (Int64.ofNat (opn W O))))) (sh, I, J, R)) : pp_MW g (h + 1) mi_X9_openOnes [.ref 121] (sh, I, J, R) P := by
  refine pp_st0 [(0, .ref 121)] ok_X9_openOnes rfl (Nat.le_of_ble_eq_true rfl) rfl ?_
  refine pp_go rfl sk_X9_openOnes_0 ?_
  simp (disch := omega) only [sg_X9_openOnes_0, sw_c, sw_n, sx, sf_4, sv_i, sv_j, sv_r, sv_q1, sv_q0, sv_1i, sv_1r, sv_2, sl_i, sl_j, sl_a, sl_v, sp_p, sp_f1, sp_f2, sc_w, sc_c, sc_r, sc_f, sc_a, sc_k, pp_in, pp_al, ↓reduceIte, Nat.reduceEqDiff, Nat.reduceLT, Nat.reduceLeDiff, Nat.reduceAdd, Nat.reduceSub, Nat.reduceMul, List.length_cons, List.length_nil, true_and, and_true, and_self, true_implies, eq_self, not_true_eq_false, not_false_eq_true, false_implies, implies_true, false_and, and_false, Bool.false_eq_true, or_true, true_or, or_false, false_or, Classical.not_not, Nat.le_refl, Nat.lt_irrefl, Bool.true_eq_false, n_lit, n_a, n_c, n_s, n_b, n_m, n_g, n_w, n_n]
  exact m_oO_l hM hW hO bW hP 8 0 rfl
theorem m_oA_i {m pl : Nat} (hM : sM sh R) (hW : ∀ m, m < 8 → I 133 m = Int32.ofNat (W m)) (hO : ∀ m, m < 8 → I 136 m = bV (O m)) (bW : ∀ m, W m ≤ 1000000) (ha : 0 < all ∧ all ≤ 8000000) (hm : m < 8) (om : O m = true)
    (K : pp_N g h mi_X9_openAt P 115 [(0, .ref 121), (1, .int (Int32.ofNat pl)), (2, .long r), (4, .long (Int64.ofNat all)), (6, .int (Int32.ofNat m)), (7, .int (Int32.ofNat (ahd W O all r m)))] [] (sh, I, J, R)) :
    ∀ f o, f + o = 8 → pp_N g h mi_X9_openAt P 16 [(0, .ref 121), (1, .int (Int32.ofNat pl)), (2, .long r), (4, .long (Int64.ofNat all)), (6, .int (Int32.ofNat m)), (7, .int (Int32.ofNat (sm (fun o => if ahP W O all r m o then 1 else 0) o))), (8, .int (Int32.ofNat o))] [] (sh, I, J, R) := by
  intro f
  induction f with
  | zero =>
    intro o ho
    have ho : o = 8 := by omega
    subst ho
    refine pp_go rfl sk_X9_openAt_16 ?_
    simp (disch := omega) only [sg_X9_openAt_16, sw_c, sw_n, sx, sf_4, sv_i, sv_j, sv_r, sv_q1, sv_q0, sv_1i, sv_1r, sv_2, sl_i, sl_j, sl_a, sl_v, sp_p, sp_f1, sp_f2, sc_w, sc_c, sc_r, sc_f, sc_a, sc_k, pp_in, pp_al, ↓reduceIte, Nat.reduceEqDiff, Nat.reduceLT, Nat.reduceLeDiff, Nat.reduceAdd, Nat.reduceSub, Nat.reduceMul, List.length_cons, List.length_nil, true_and, and_true, and_self, true_implies, eq_self, not_true_eq_false, not_false_eq_true, false_implies, implies_true, false_and, and_false, Bool.false_eq_true, or_true, true_or, or_false, false_or, Classical.not_not, Nat.le_refl, Nat.lt_irrefl, Bool.true_eq_false, n_lit, n_a, n_c, n_s, n_b, n_m, n_g, n_w, n_n, rk_X9_openAt]
    exact pp_N.sub K (by simp [ahd])
  | succ f ih =>
    intro o ho
    have nx := ih (o + 1) (by omega)
    rw [sm] at nx
    have q1 : ¬ 8 ≤ o := by omega
    have b1 := sm_le (f := fun o => if ahP W O all r m o then 1 else 0) (c := 1) (fun i => by split <;> omega) o
    have K2 : pp_N g h mi_X9_openAt P 76 [(0, .ref 121), (1, .int (Int32.ofNat pl)), (2, .long r), (4, .long (Int64.ofNat all)), (6, .int (Int32.ofNat m)), (7, .int (Int32.ofNat (sm (fun o => if ahP W O all r m o then 1 else 0) o))), (8, .int (Int32.ofNat o))] [.long (lss W O all r m o)] (sh, I, J, R) := by
      repeat' (first | ((with_reducible refine pp_go (pc := 76) (seg := sg_X9_openAt_76) hh_X9_openAt sk_X9_openAt_76 ?_); simp (disch := omega) only [sg_X9_openAt_76, sw_c, sw_n, sx, sf_4, sv_i, sv_j, sv_r, sv_q1, sv_q0, sv_1i, sv_1r, sv_2, sl_i, sl_j, sl_a, sl_v, sp_p, sp_f1, sp_f2, sc_w, sc_c, sc_r, sc_f, sc_a, sc_k, pp_in, pp_al, ↓reduceIte, Nat.reduceEqDiff, Nat.reduceLT, Nat.reduceLeDiff, Nat.reduceAdd, Nat.reduceSub, Nat.reduceMul, List.length_cons, List.length_nil, true_and, and_true, and_self, true_implies, eq_self, not_true_eq_false, not_false_eq_true, false_implies, implies_true, false_and, and_false, Bool.false_eq_true, or_true, true_or, or_false, false_or, Classical.not_not, Nat.le_refl, Nat.lt_irrefl, Bool.true_eq_false, n_lit, n_a, n_c, n_s, n_b, n_m, n_g, n_w, n_n, rk_X9_openAt]) | ((with_reducible refine pp_go (pc := 101) (seg := sg_X9_openAt_101) hh_X9_openAt sk_X9_openAt_101 ?_); simp (disch := omega) only [sg_X9_openAt_101, sw_c, sw_n, sx, sf_4, sv_i, sv_j, sv_r, sv_q1, sv_q0, sv_1i, sv_1r, sv_2, sl_i, sl_j, sl_a, sl_v, sp_p, sp_f1, sp_f2, sc_w, sc_c, sc_r, sc_f, sc_a, sc_k, pp_in, pp_al, ↓reduceIte, Nat.reduceEqDiff, Nat.reduceLT, Nat.reduceLeDiff, Nat.reduceAdd, Nat.reduceSub, Nat.reduceMul, List.length_cons, List.length_nil, true_and, and_true, and_self, true_implies, eq_self, not_true_eq_false, not_false_eq_true, false_implies, implies_true, false_and, and_false, Bool.false_eq_true, or_true, true_or, or_false, false_or, Classical.not_not, Nat.le_refl, Nat.lt_irrefl, Bool.true_eq_false, n_lit, n_a, n_c, n_s, n_b, n_m, n_g, n_w, n_n, rk_X9_openAt]) | ((with_reducible refine pp_go (pc := 105) (seg := sg_X9_openAt_105) hh_X9_openAt sk_X9_openAt_105 ?_); simp (disch := omega) only [sg_X9_openAt_105, sw_c, sw_n, sx, sf_4, sv_i, sv_j, sv_r, sv_q1, sv_q0, sv_1i, sv_1r, sv_2, sl_i, sl_j, sl_a, sl_v, sp_p, sp_f1, sp_f2, sc_w, sc_c, sc_r, sc_f, sc_a, sc_k, pp_in, pp_al, ↓reduceIte, Nat.reduceEqDiff, Nat.reduceLT, Nat.reduceLeDiff, Nat.reduceAdd, Nat.reduceSub, Nat.reduceMul, List.length_cons, List.length_nil, true_and, and_true, and_self, true_implies, eq_self, not_true_eq_false, not_false_eq_true, false_implies, implies_true, false_and, and_false, Bool.false_eq_true, or_true, true_or, or_false, false_or, Classical.not_not, Nat.le_refl, Nat.lt_irrefl, Bool.true_eq_false, n_lit, n_a, n_c, n_s, n_b, n_m, n_g, n_w, n_n, rk_X9_openAt]) | ((with_reducible refine pp_go (pc := 106) (seg := sg_X9_openAt_106) hh_X9_openAt sk_X9_openAt_106 ?_); simp (disch := omega) only [sg_X9_openAt_106, sw_c, sw_n, sx, sf_4, sv_i, sv_j, sv_r, sv_q1, sv_q0, sv_1i, sv_1r, sv_2, sl_i, sl_j, sl_a, sl_v, sp_p, sp_f1, sp_f2, sc_w, sc_c, sc_r, sc_f, sc_a, sc_k, pp_in, pp_al, ↓reduceIte, Nat.reduceEqDiff, Nat.reduceLT, Nat.reduceLeDiff, Nat.reduceAdd, Nat.reduceSub, Nat.reduceMul, List.length_cons, List.length_nil, true_and, and_true, and_self, true_implies, eq_self, not_true_eq_false, not_false_eq_true, false_implies, implies_true, false_and, and_false, Bool.false_eq_true, or_true, true_or, or_false, false_or, Classical.not_not, Nat.le_refl, Nat.lt_irrefl, Bool.true_eq_false, n_lit, n_a, n_c, n_s, n_b, n_m, n_g, n_w, n_n, rk_X9_openAt]) | (refine ⟨fun _ => ?_, fun _ => ?_⟩ <;> try (exfalso; omega)) | fail)
      · rw [if_pos (Or.inl (by assumption))] at nx
        exact pp_N.sub nx (by simp)
      · rw [if_neg (fun z => z.elim (by assumption) (fun y => absurd y.1 (by assumption)))] at nx
        exact pp_N.sub nx (by simp)
      · rw [if_neg (fun z => z.elim (by assumption) (fun y => absurd y.2 (by omega)))] at nx
        exact pp_N.sub nx (by simp)
      · rw [if_pos (Or.inr ⟨by assumption, by omega⟩)] at nx
        exact pp_N.sub nx (by simp)
    have z0 : ¬ all = 0 := by omega
    have bm := bW m
    have bo := bW o
    cases hb : O o with
    | false =>
      rw [lss, hb] at K2
      refine pp_go rfl sk_X9_openAt_16 ?_
      simp (disch := omega) only [sg_X9_openAt_16, sw_c, sw_n, sx, sf_4, sv_i, sv_j, sv_r, sv_q1, sv_q0, sv_1i, sv_1r, sv_2, sl_i, sl_j, sl_a, sl_v, sp_p, sp_f1, sp_f2, sc_w, sc_c, sc_r, sc_f, sc_a, sc_k, pp_in, pp_al, ↓reduceIte, Nat.reduceEqDiff, Nat.reduceLT, Nat.reduceLeDiff, Nat.reduceAdd, Nat.reduceSub, Nat.reduceMul, List.length_cons, List.length_nil, true_and, and_true, and_self, true_implies, eq_self, not_true_eq_false, not_false_eq_true, false_implies, implies_true, false_and, and_false, Bool.false_eq_true, or_true, true_or, or_false, false_or, Classical.not_not, Nat.le_refl, Nat.lt_irrefl, Bool.true_eq_false, n_lit, n_a, n_c, n_s, n_b, n_m, n_g, n_w, n_n, rk_X9_openAt, hM, q1, hO, hW, bV_0, om, hb]
      repeat' (first | ((with_reducible refine pp_go (pc := 73) (seg := sg_X9_openAt_73) hh_X9_openAt sk_X9_openAt_73 ?_); simp (disch := omega) only [sg_X9_openAt_73, sw_c, sw_n, sx, sf_4, sv_i, sv_j, sv_r, sv_q1, sv_q0, sv_1i, sv_1r, sv_2, sl_i, sl_j, sl_a, sl_v, sp_p, sp_f1, sp_f2, sc_w, sc_c, sc_r, sc_f, sc_a, sc_k, pp_in, pp_al, ↓reduceIte, Nat.reduceEqDiff, Nat.reduceLT, Nat.reduceLeDiff, Nat.reduceAdd, Nat.reduceSub, Nat.reduceMul, List.length_cons, List.length_nil, true_and, and_true, and_self, true_implies, eq_self, not_true_eq_false, not_false_eq_true, false_implies, implies_true, false_and, and_false, Bool.false_eq_true, or_true, true_or, or_false, false_or, Classical.not_not, Nat.le_refl, Nat.lt_irrefl, Bool.true_eq_false, n_lit, n_a, n_c, n_s, n_b, n_m, n_g, n_w, n_n, rk_X9_openAt]) | (refine ⟨fun _ => ?_, fun _ => ?_⟩ <;> try (exfalso; omega)) | fail)
      exact K2
    | true =>
      rw [lss, hb] at K2
      refine pp_go rfl sk_X9_openAt_16 ?_
      simp (disch := omega) only [sg_X9_openAt_16, sw_c, sw_n, sx, sf_4, sv_i, sv_j, sv_r, sv_q1, sv_q0, sv_1i, sv_1r, sv_2, sl_i, sl_j, sl_a, sl_v, sp_p, sp_f1, sp_f2, sc_w, sc_c, sc_r, sc_f, sc_a, sc_k, pp_in, pp_al, ↓reduceIte, Nat.reduceEqDiff, Nat.reduceLT, Nat.reduceLeDiff, Nat.reduceAdd, Nat.reduceSub, Nat.reduceMul, List.length_cons, List.length_nil, true_and, and_true, and_self, true_implies, eq_self, not_true_eq_false, not_false_eq_true, false_implies, implies_true, false_and, and_false, Bool.false_eq_true, or_true, true_or, or_false, false_or, Classical.not_not, Nat.le_refl, Nat.lt_irrefl, Bool.true_eq_false, n_lit, n_a, n_c, n_s, n_b, n_m, n_g, n_w, n_n, rk_X9_openAt, hM, q1, hO, hW, bV_0, om, hb, z0]
      simp only [rmd, if_true] at K2
      exact K2
theorem m_oA_l {pl : Nat} (hM : sM sh R) (hW : ∀ m, m < 8 → I 133 m = Int32.ofNat (W m)) (hO : ∀ m, m < 8 → I 136 m = bV (O m)) (bW : ∀ m, W m ≤ 1000000) (ha : ∀ m, m < 8 → O m = true → 0 < all) (hl : all ≤ 8000000) (hp : pl < 8) :
    ∀ f m, f + m = 8 → P (.inl (some (.int (oi (fnd (fun m => O m && decide (ahd W O all r m = pl)) f m))))) (sh, I, J, R) → pp_N g h mi_X9_openAt P 3 [(0, .ref 121), (1, .int (Int32.ofNat pl)), (2, .long r), (4, .long (Int64.ofNat all)), (6, .int (Int32.ofNat m))] [] (sh, I, J, R) := by
  intro f
  induction f with
  | zero =>
    intro m hm hP
    have hm : m = 8 := by omega
    subst hm
    repeat' (first | ((with_reducible refine pp_go (pc := 3) (seg := sg_X9_openAt_3) hh_X9_openAt sk_X9_openAt_3 ?_); simp (disch := omega) only [sg_X9_openAt_3, sw_c, sw_n, sx, sf_4, sv_i, sv_j, sv_r, sv_q1, sv_q0, sv_1i, sv_1r, sv_2, sl_i, sl_j, sl_a, sl_v, sp_p, sp_f1, sp_f2, sc_w, sc_c, sc_r, sc_f, sc_a, sc_k, pp_in, pp_al, ↓reduceIte, Nat.reduceEqDiff, Nat.reduceLT, Nat.reduceLeDiff, Nat.reduceAdd, Nat.reduceSub, Nat.reduceMul, List.length_cons, List.length_nil, true_and, and_true, and_self, true_implies, eq_self, not_true_eq_false, not_false_eq_true, false_implies, implies_true, false_and, and_false, Bool.false_eq_true, or_true, true_or, or_false, false_or, Classical.not_not, Nat.le_refl, Nat.lt_irrefl, Bool.true_eq_false, n_lit, n_a, n_c, n_s, n_b, n_m, n_g, n_w, n_n, rk_X9_openAt]) | ((with_reducible refine pp_go (pc := 140) (seg := sg_X9_openAt_140) hh_X9_openAt sk_X9_openAt_140 ?_); simp (disch := omega) only [sg_X9_openAt_140, sw_c, sw_n, sx, sf_4, sv_i, sv_j, sv_r, sv_q1, sv_q0, sv_1i, sv_1r, sv_2, sl_i, sl_j, sl_a, sl_v, sp_p, sp_f1, sp_f2, sc_w, sc_c, sc_r, sc_f, sc_a, sc_k, pp_in, pp_al, ↓reduceIte, Nat.reduceEqDiff, Nat.reduceLT, Nat.reduceLeDiff, Nat.reduceAdd, Nat.reduceSub, Nat.reduceMul, List.length_cons, List.length_nil, true_and, and_true, and_self, true_implies, eq_self, not_true_eq_false, not_false_eq_true, false_implies, implies_true, false_and, and_false, Bool.false_eq_true, or_true, true_or, or_false, false_or, Classical.not_not, Nat.le_refl, Nat.lt_irrefl, Bool.true_eq_false, n_lit, n_a, n_c, n_s, n_b, n_m, n_g, n_w, n_n, rk_X9_openAt]) | (refine ⟨fun _ => ?_, fun _ => ?_⟩ <;> try (exfalso; omega)) | fail)
    exact hP
  | succ f ih =>
    intro m hm hP
    rw [fnd] at hP
    have q1 : ¬ 8 ≤ m := by omega
    refine pp_go rfl sk_X9_openAt_3 ?_
    simp (disch := omega) only [sg_X9_openAt_3, sw_c, sw_n, sx, sf_4, sv_i, sv_j, sv_r, sv_q1, sv_q0, sv_1i, sv_1r, sv_2, sl_i, sl_j, sl_a, sl_v, sp_p, sp_f1, sp_f2, sc_w, sc_c, sc_r, sc_f, sc_a, sc_k, pp_in, pp_al, ↓reduceIte, Nat.reduceEqDiff, Nat.reduceLT, Nat.reduceLeDiff, Nat.reduceAdd, Nat.reduceSub, Nat.reduceMul, List.length_cons, List.length_nil, true_and, and_true, and_self, true_implies, eq_self, not_true_eq_false, not_false_eq_true, false_implies, implies_true, false_and, and_false, Bool.false_eq_true, or_true, true_or, or_false, false_or, Classical.not_not, Nat.le_refl, Nat.lt_irrefl, Bool.true_eq_false, n_lit, n_a, n_c, n_s, n_b, n_m, n_g, n_w, n_n, rk_X9_openAt, q1]
    cases hb : O m with
    | false =>
      rw [if_neg (by simp [hb])] at hP
      have nx := ih (m + 1) (by omega) hP
      refine pp_go rfl sk_X9_openAt_16 ?_
      simp (disch := omega) only [sg_X9_openAt_16, sw_c, sw_n, sx, sf_4, sv_i, sv_j, sv_r, sv_q1, sv_q0, sv_1i, sv_1r, sv_2, sl_i, sl_j, sl_a, sl_v, sp_p, sp_f1, sp_f2, sc_w, sc_c, sc_r, sc_f, sc_a, sc_k, pp_in, pp_al, ↓reduceIte, Nat.reduceEqDiff, Nat.reduceLT, Nat.reduceLeDiff, Nat.reduceAdd, Nat.reduceSub, Nat.reduceMul, List.length_cons, List.length_nil, true_and, and_true, and_self, true_implies, eq_self, not_true_eq_false, not_false_eq_true, false_implies, implies_true, false_and, and_false, Bool.false_eq_true, or_true, true_or, or_false, false_or, Classical.not_not, Nat.le_refl, Nat.lt_irrefl, Bool.true_eq_false, n_lit, n_a, n_c, n_s, n_b, n_m, n_g, n_w, n_n, rk_X9_openAt, hM, q1, hO, hb, bV_0]
      repeat' (first | ((with_reducible refine pp_go (pc := 115) (seg := sg_X9_openAt_115) hh_X9_openAt sk_X9_openAt_115 ?_); simp (disch := omega) only [sg_X9_openAt_115, sw_c, sw_n, sx, sf_4, sv_i, sv_j, sv_r, sv_q1, sv_q0, sv_1i, sv_1r, sv_2, sl_i, sl_j, sl_a, sl_v, sp_p, sp_f1, sp_f2, sc_w, sc_c, sc_r, sc_f, sc_a, sc_k, pp_in, pp_al, ↓reduceIte, Nat.reduceEqDiff, Nat.reduceLT, Nat.reduceLeDiff, Nat.reduceAdd, Nat.reduceSub, Nat.reduceMul, List.length_cons, List.length_nil, true_and, and_true, and_self, true_implies, eq_self, not_true_eq_false, not_false_eq_true, false_implies, implies_true, false_and, and_false, Bool.false_eq_true, or_true, true_or, or_false, false_or, Classical.not_not, Nat.le_refl, Nat.lt_irrefl, Bool.true_eq_false, n_lit, n_a, n_c, n_s, n_b, n_m, n_g, n_w, n_n, rk_X9_openAt, hM, hO, hb, bV_0]) | (refine ⟨fun _ => ?_, fun _ => ?_⟩ <;> try (exfalso; omega)) | fail)
      repeat' (first | ((with_reducible refine pp_go (pc := 134) (seg := sg_X9_openAt_134) hh_X9_openAt sk_X9_openAt_134 ?_); simp (disch := omega) only [sg_X9_openAt_134, sw_c, sw_n, sx, sf_4, sv_i, sv_j, sv_r, sv_q1, sv_q0, sv_1i, sv_1r, sv_2, sl_i, sl_j, sl_a, sl_v, sp_p, sp_f1, sp_f2, sc_w, sc_c, sc_r, sc_f, sc_a, sc_k, pp_in, pp_al, ↓reduceIte, Nat.reduceEqDiff, Nat.reduceLT, Nat.reduceLeDiff, Nat.reduceAdd, Nat.reduceSub, Nat.reduceMul, List.length_cons, List.length_nil, true_and, and_true, and_self, true_implies, eq_self, not_true_eq_false, not_false_eq_true, false_implies, implies_true, false_and, and_false, Bool.false_eq_true, or_true, true_or, or_false, false_or, Classical.not_not, Nat.le_refl, Nat.lt_irrefl, Bool.true_eq_false, n_lit, n_a, n_c, n_s, n_b, n_m, n_g, n_w, n_n, rk_X9_openAt]) | (refine ⟨fun _ => ?_, fun _ => ?_⟩ <;> try (exfalso; omega)) | fail)
      exact pp_N.sub nx (by simp)
    | true =>
      have b1 := sm_le (f := fun o => if ahP W O all r m o then 1 else 0) (c := 1) (fun i => by split <;> omega) 8
      have b1 : ahd W O all r m ≤ 1 * 8 := b1
      refine m_oA_i (I := I) hM hW hO bW ⟨ha m (by omega) hb, hl⟩ (by omega) hb ?_ 8 0 rfl
      refine pp_go rfl sk_X9_openAt_115 ?_
      simp (disch := omega) only [sg_X9_openAt_115, sw_c, sw_n, sx, sf_4, sv_i, sv_j, sv_r, sv_q1, sv_q0, sv_1i, sv_1r, sv_2, sl_i, sl_j, sl_a, sl_v, sp_p, sp_f1, sp_f2, sc_w, sc_c, sc_r, sc_f, sc_a, sc_k, pp_in, pp_al, ↓reduceIte, Nat.reduceEqDiff, Nat.reduceLT, Nat.reduceLeDiff, Nat.reduceAdd, Nat.reduceSub, Nat.reduceMul, List.length_cons, List.length_nil, true_and, and_true, and_self, true_implies, eq_self, not_true_eq_false, not_false_eq_true, false_implies, implies_true, false_and, and_false, Bool.false_eq_true, or_true, true_or, or_false, false_or, Classical.not_not, Nat.le_refl, Nat.lt_irrefl, Bool.true_eq_false, n_lit, n_a, n_c, n_s, n_b, n_m, n_g, n_w, n_n, rk_X9_openAt, hM, hO, hb, bV_0]
      refine ⟨fun q => ?_, fun q => ?_⟩
      · rw [if_neg (by simp [hb, q])] at hP
        have nx := ih (m + 1) (by omega) hP
        repeat' (first | ((with_reducible refine pp_go (pc := 134) (seg := sg_X9_openAt_134) hh_X9_openAt sk_X9_openAt_134 ?_); simp (disch := omega) only [sg_X9_openAt_134, sw_c, sw_n, sx, sf_4, sv_i, sv_j, sv_r, sv_q1, sv_q0, sv_1i, sv_1r, sv_2, sl_i, sl_j, sl_a, sl_v, sp_p, sp_f1, sp_f2, sc_w, sc_c, sc_r, sc_f, sc_a, sc_k, pp_in, pp_al, ↓reduceIte, Nat.reduceEqDiff, Nat.reduceLT, Nat.reduceLeDiff, Nat.reduceAdd, Nat.reduceSub, Nat.reduceMul, List.length_cons, List.length_nil, true_and, and_true, and_self, true_implies, eq_self, not_true_eq_false, not_false_eq_true, false_implies, implies_true, false_and, and_false, Bool.false_eq_true, or_true, true_or, or_false, false_or, Classical.not_not, Nat.le_refl, Nat.lt_irrefl, Bool.true_eq_false, n_lit, n_a, n_c, n_s, n_b, n_m, n_g, n_w, n_n, rk_X9_openAt]) | (refine ⟨fun _ => ?_, fun _ => ?_⟩ <;> try (exfalso; omega)) | fail)
        exact pp_N.sub nx (by simp)
      · rw [if_pos (by simp [hb, q])] at hP
        exact hP
theorem m_openAt {pl : Nat} (hM : sM sh R) (hW : ∀ m, m < 8 → I 133 m = Int32.ofNat (W m)) (hO : ∀ m, m < 8 → I 136 m = bV (O m)) (bW : ∀ m, W m ≤ 1000000) (ha : ∀ m, m < 8 → O m = true → 0 < all) (hl : all ≤ 8000000) (hp : pl < 8) (hP : P (.inl (some (.int (oi (oat W O all r pl))))) (sh, I, J, R)) : pp_MW g (h + 1) mi_X9_openAt [.ref 121, .int (Int32.ofNat pl), .long r, .long (Int64.ofNat all)] (sh, I, J, R) P := by
  refine pp_st0 [(0, .ref 121), (1, .int (Int32.ofNat pl)), (2, .long r), (4, .long (Int64.ofNat all))] ok_X9_openAt rfl (Nat.le_of_ble_eq_true rfl) rfl ?_
  refine pp_go rfl sk_X9_openAt_0 ?_
  simp (disch := omega) only [sg_X9_openAt_0, sw_c, sw_n, sx, sf_4, sv_i, sv_j, sv_r, sv_q1, sv_q0, sv_1i, sv_1r, sv_2, sl_i, sl_j, sl_a, sl_v, sp_p, sp_f1, sp_f2, sc_w, sc_c, sc_r, sc_f, sc_a, sc_k, pp_in, pp_al, ↓reduceIte, Nat.reduceEqDiff, Nat.reduceLT, Nat.reduceLeDiff, Nat.reduceAdd, Nat.reduceSub, Nat.reduceMul, List.length_cons, List.length_nil, true_and, and_true, and_self, true_implies, eq_self, not_true_eq_false, not_false_eq_true, false_implies, implies_true, false_and, and_false, Bool.false_eq_true, or_true, true_or, or_false, false_or, Classical.not_not, Nat.le_refl, Nat.lt_irrefl, Bool.true_eq_false, n_lit, n_a, n_c, n_s, n_b, n_m, n_g, n_w, n_n, rk_X9_openAt]
  exact m_oA_l (I := I) hM hW hO bW ha hl hp 8 0 rfl hP
end
