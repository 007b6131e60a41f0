/-! THE CLASS, 5: dividing, majorities -/
set_option maxHeartbeats 1000000
set_option maxRecDepth 100000
section
variable {g : pp_G} {h : Nat} {sh : List (Nat × Nat)} {I : Nat → Nat → Int32} {J : Nat → Nat → Int64} {R : Nat → Nat → Option Nat} {w : pp_W} {P : pp_R → pp_W → Prop} {G : LG} {T : TM} {n : Nat} {A : AS} {W : Nat → Nat} {O : Nat → Bool} {S : Nat → Int64} {r lim amount : Int64}
/-- what an open one above 7 is doesn't matter -/
def cut8 (O : Nat → Bool) : Nat → Bool := fun m => if m < 8 then O m else false
theorem opn_cut : opn W (cut8 O) = opn W O := sm_congr 8 (fun i hi => by rw [cut8, if_pos hi])
theorem ahd_cut (all : Nat) (m : Nat) : ahd W (cut8 O) all r m = ahd W O all r m := by
  unfold ahd
  refine sm_congr 8 (fun o ho => ?_)
  have e : lss W (cut8 O) all r m o = lss W O all r m o := by rw [lss, lss, cut8, if_pos ho]
  unfold ahP
  rw [e]
theorem fnd_cg {f f' : Nat → Bool} : ∀ k m, (∀ q, m ≤ q → q < m + k → f q = f' q) → fnd f k m = fnd f' k m := by
  intro k
  induction k with
  | zero => intro m _; rfl
  | succ k ih =>
    intro m h
    rw [fnd, fnd, h m (by omega) (by omega), ih (m + 1) (fun q a b => h q (by omega) (by omega))]
theorem oat_cut (all p : Nat) : oat W (cut8 O) all r p = oat W O all r p := by
  unfold oat
  refine fnd_cg 8 0 (fun q a b => ?_)
  rw [ahd_cut, cut8, if_pos (by omega)]
theorem gv_cut (all : Nat) : ∀ f p s, gv W lim (cut8 O) all r f p s = gv W lim O all r f p s := by
  intro f
  induction f with
  | zero => intro p s; rfl
  | succ f ih => intro p s; rw [gv, gv, oat_cut, ih]
theorem gv_1 (all : Nat) {S' : Nat → Int64} : ∀ f p (S S' : Nat → Int64) (x : Int64), (∀ i, i < 8 → S i = S' i) → (gv W lim O all r f p (S, x)).2 = (gv W lim O all r f p (S', x)).2 ∧ ∀ i, i < 8 → (gv W lim O all r f p (S, x)).1 i = (gv W lim O all r f p (S', x)).1 i := by
  intro f
  induction f with
  | zero => intro p S S' x h; exact ⟨rfl, h⟩
  | succ f ih =>
    intro p S S' x h
    rw [gv, gv]
    cases ho : oat W O all r p with
    | none => exact ih _ _ _ _ h
    | some m =>
      have m8 := (fnd_some 8 0 m ho).2.2
      simp only [gv1]
      rw [h m (by omega)]
      by_cases c : Int64.ofNat 0 < x ∧ S' m < lim
      · rw [if_pos c, if_pos c]
        refine ih _ _ _ _ (fun i hi => ?_)
        rw [va_up, va_up]
        by_cases e : i = m
        · rw [if_pos e, if_pos e]
        · rw [if_neg e, if_neg e]; exact h i hi
      · rw [if_neg c, if_neg c]
        exact ih _ _ _ _ h
theorem c_giveRemainders {all : Nat} (hC : sC sh R) (ha : (∀ m, m < 8 → O m = false) ∨ (0 < all ∧ all ≤ 8000000)) (hO : ∀ m, m < 8 → I 116 m = bV (O m)) (hR : ∀ m, m < 8 → O m = true → J 117 m = rmd W all r m) (hS : ∀ i, i < 8 → J 115 i = S i)
    (hP : ∀ I2 J2, (∀ a, a ≠ 116 → I2 a = I a) → (∀ a, a ≠ 113 → a ≠ 115 → J2 a = J a) → J2 113 2 = (gv W lim O all r 8 0 (S, J 113 2)).2 → (∀ i, i < 8 → J2 115 i = (gv W lim O all r 8 0 (S, J 113 2)).1 i) → P (.inl none) (sh, I2, J2, R)) : pp_MW g (h + 2) mi_X1_giveRemainders [.ref 113, .long lim] (sh, I, J, R) P := by
  refine pp_st0 [(0, .ref 113), (1, .long lim)] ok_X1_giveRemainders rfl (Nat.le_of_ble_eq_true rfl) rfl ?_
  refine pp_go rfl sk_X1_giveRemainders_0 ?_
  simp (disch := omega) only [sg_X1_giveRemainders_0, sw_c, sw_n, sx, sf_4, sv_i, sv_j, sv_r, sv_q1, sv_q0, sv_1i, sv_1r, sv_2, sl_i, sl_j, sl_a, sl_v, sp_p, sp_f1, sp_f2, sc_w, sc_c, sc_r, sc_f, sc_a, sc_k, pp_in, pp_al, ↓reduceIte, Nat.reduceEqDiff, Nat.reduceLT, Nat.reduceLeDiff, Nat.reduceAdd, Nat.reduceSub, Nat.reduceMul, List.length_cons, List.length_nil, true_and, and_true, and_self, true_implies, eq_self, not_true_eq_false, not_false_eq_true, false_implies, implies_true, false_and, and_false, Bool.false_eq_true, or_true, true_or, or_false, false_or, Classical.not_not, Nat.le_refl, Nat.lt_irrefl, Bool.true_eq_false, n_lit, n_a, n_c, n_s, n_b, n_m, n_g, n_w, n_n]
  have c1 : ∀ m, m < 8 → cut8 O m = O m := fun m hm => by rw [cut8, if_pos hm]
  have c2 : ∀ m, 8 ≤ m → cut8 O m = false := fun m hm => by rw [cut8, if_neg (by omega)]
  have ha' : (∀ m, cut8 O m = false) ∨ (0 < all ∧ all ≤ 8000000) := ha.imp (fun z m => by
    by_cases c : m < 8
    · rw [c1 m c]; exact z m c
    · exact c2 m (by omega)) id
  rw [← gv_cut] at hP
  refine c_gR_l (W := W) (O := cut8 O) (I := I) (J := J) (r := r) (all := all) hC c2 ha' 8 0 (cut8 O) S I J _ (by simp) rfl ⟨fun _ z => z, fun o x o8 a b _ => (by rw [a] at b; cases b), ?_⟩ (fun _ _ => rfl) (fun _ _ _ => rfl) (fun m hm => by rw [c1 m hm]; exact hO m hm) (fun m hm z => hR m hm (by rw [← c1 m hm]; exact z)) hS hP
  unfold lfo
  have : ∀ k, sm (fun o => if cut8 O o = true ∧ cut8 O o = false then 1 else 0) k = 0 := by
    intro k
    induction k with
    | zero => rfl
    | succ k ih => rw [sm, ih, if_neg (fun z => by rw [z.1] at z; cases z.2)]
  exact this 8
theorem c_dv_0 (hC : sC sh R) (hW0 : ∀ m, m < 8 → I 114 m = Int32.ofNat (W m)) (bW : ∀ m, W m ≤ 1000000) {c3 : Int32}
    (K : ∀ I' J', (∀ a, a ≠ 116 → I' a = I a) → (∀ a, a ≠ 115 → J' a = J a) → (∀ i, i < 8 → J' 115 i = Int64.ofNat 0) → (∀ i, i < 8 → I' 116 i = bV (decide (0 < W i))) → pp_N g (h + 2) mi_X1_divide P 61 [(0, .ref 113), (1, .long amount), (3, .int c3), (4, .long lim)] [] (sh, I', J', R)) :
    ∀ f m I' J', f + m = 8 → (∀ a, a ≠ 116 → I' a = I a) → (∀ a, a ≠ 115 → J' a = J a) → (∀ i, i < m → J' 115 i = Int64.ofNat 0) → (∀ i, i < m → I' 116 i = bV (decide (0 < W i))) → pp_N g (h + 2) mi_X1_divide P 18 [(0, .ref 113), (1, .long amount), (3, .int c3), (4, .long lim), (6, .int (Int32.ofNat m))] [] (sh, I', J', R) := by
  intro f
  induction f with
  | zero =>
    intro m I' J' hm hI hJ hS hO
    have hm : m = 8 := by omega
    subst hm
    refine pp_go rfl sk_X1_divide_18 ?_
    simp (disch := omega) only [sg_X1_divide_18, sw_c, sw_n, sx, sf_4, sv_i, sv_j, sv_r, sv_q1, sv_q0, sv_1i, sv_1r, sv_2, sl_i, sl_j, sl_a, sl_v, sp_p, sp_f1, sp_f2, sc_w, sc_c, sc_r, sc_f, sc_a, sc_k, pp_in, pp_al, ↓reduceIte, Nat.reduceEqDiff, Nat.reduceLT, Nat.reduceLeDiff, Nat.reduceAdd, Nat.reduceSub, Nat.reduceMul, List.length_cons, List.length_nil, true_and, and_true, and_self, true_implies, eq_self, not_true_eq_false, not_false_eq_true, false_implies, implies_true, false_and, and_false, Bool.false_eq_true, or_true, true_or, or_false, false_or, Classical.not_not, Nat.le_refl, Nat.lt_irrefl, Bool.true_eq_false, n_lit, n_a, n_c, n_s, n_b, n_m, n_g, n_w, n_n]
    exact pp_N.sub (K I' J' hI hJ hS hO) (by simp)
  | succ f ih =>
    intro m I' J' hm hI hJ hS hO
    have q1 : ¬ 8 ≤ m := by omega
    have bm := bW m
    have hWm : I' 114 m = Int32.ofNat (W m) := by rw [hI 114 (by omega)]; exact hW0 m (by omega)
    refine pp_go rfl sk_X1_divide_18 ?_
    simp (disch := omega) only [sg_X1_divide_18, sw_c, sw_n, sx, sf_4, sv_i, sv_j, sv_r, sv_q1, sv_q0, sv_1i, sv_1r, sv_2, sl_i, sl_j, sl_a, sl_v, sp_p, sp_f1, sp_f2, sc_w, sc_c, sc_r, sc_f, sc_a, sc_k, pp_in, pp_al, ↓reduceIte, Nat.reduceEqDiff, Nat.reduceLT, Nat.reduceLeDiff, Nat.reduceAdd, Nat.reduceSub, Nat.reduceMul, List.length_cons, List.length_nil, true_and, and_true, and_self, true_implies, eq_self, not_true_eq_false, not_false_eq_true, false_implies, implies_true, false_and, and_false, Bool.false_eq_true, or_true, true_or, or_false, false_or, Classical.not_not, Nat.le_refl, Nat.lt_irrefl, Bool.true_eq_false, n_lit, n_a, n_c, n_s, n_b, n_m, n_g, n_w, n_n, hC, q1, hWm]
    refine ⟨fun q => ?_, fun q => ?_⟩
    · refine pp_go rfl sk_X1_divide_53 ?_
      simp (disch := omega) only [sg_X1_divide_53, sw_c, sw_n, sx, sf_4, sv_i, sv_j, sv_r, sv_q1, sv_q0, sv_1i, sv_1r, sv_2, sl_i, sl_j, sl_a, sl_v, sp_p, sp_f1, sp_f2, sc_w, sc_c, sc_r, sc_f, sc_a, sc_k, pp_in, pp_al, ↓reduceIte, Nat.reduceEqDiff, Nat.reduceLT, Nat.reduceLeDiff, Nat.reduceAdd, Nat.reduceSub, Nat.reduceMul, List.length_cons, List.length_nil, true_and, and_true, and_self, true_implies, eq_self, not_true_eq_false, not_false_eq_true, false_implies, implies_true, false_and, and_false, Bool.false_eq_true, or_true, true_or, or_false, false_or, Classical.not_not, Nat.le_refl, Nat.lt_irrefl, Bool.true_eq_false, n_lit, n_a, n_c, n_s, n_b, n_m, n_g, n_w, n_n]
      refine pp_go rfl sk_X1_divide_54 ?_
      simp (disch := omega) only [sg_X1_divide_54, sw_c, sw_n, sx, sf_4, sv_i, sv_j, sv_r, sv_q1, sv_q0, sv_1i, sv_1r, sv_2, sl_i, sl_j, sl_a, sl_v, sp_p, sp_f1, sp_f2, sc_w, sc_c, sc_r, sc_f, sc_a, sc_k, pp_in, pp_al, ↓reduceIte, Nat.reduceEqDiff, Nat.reduceLT, Nat.reduceLeDiff, Nat.reduceAdd, Nat.reduceSub, Nat.reduceMul, List.length_cons, List.length_nil, true_and, and_true, and_self, true_implies, eq_self, not_true_eq_false, not_false_eq_true, false_implies, implies_true, false_and, and_false, Bool.false_eq_true, or_true, true_or, or_false, false_or, Classical.not_not, Nat.le_refl, Nat.lt_irrefl, Bool.true_eq_false, n_lit, n_a, n_c, n_s, n_b, n_m, n_g, n_w, n_n, hC]
      refine ih (m + 1) _ _ (by omega) (fun a ha => ?_) (fun a a1 => ?_) (fun i hi => ?_) (fun i hi => ?_)
      · rw [pp_s_ne _ _ ha]; exact hI a ha
      · rw [pp_s_ne _ _ a1]; exact hJ a a1
      · simp only [n_m, ↓reduceIte]
        by_cases e : i = m
        · rw [if_pos e]
        · rw [if_neg e]; exact hS i (by omega)
      · simp only [n_m, ↓reduceIte]
        by_cases e : i = m
        · rw [if_pos e, e, decide_eq_false (by omega)]; rfl
        · rw [if_neg e]; exact hO i (by omega)
    · refine pp_go rfl sk_X1_divide_54 ?_
      simp (disch := omega) only [sg_X1_divide_54, sw_c, sw_n, sx, sf_4, sv_i, sv_j, sv_r, sv_q1, sv_q0, sv_1i, sv_1r, sv_2, sl_i, sl_j, sl_a, sl_v, sp_p, sp_f1, sp_f2, sc_w, sc_c, sc_r, sc_f, sc_a, sc_k, pp_in, pp_al, ↓reduceIte, Nat.reduceEqDiff, Nat.reduceLT, Nat.reduceLeDiff, Nat.reduceAdd, Nat.reduceSub, Nat.reduceMul, List.length_cons, List.length_nil, true_and, and_true, and_self, true_implies, eq_self, not_true_eq_false, not_false_eq_true, false_implies, implies_true, false_and, and_false, Bool.false_eq_true, or_true, true_or, or_false, false_or, Classical.not_not, Nat.le_refl, Nat.lt_irrefl, Bool.true_eq_false, n_lit, n_a, n_c, n_s, n_b, n_m, n_g, n_w, n_n, hC]
      refine ih (m + 1) _ _ (by omega) (fun a ha => ?_) (fun a a1 => ?_) (fun i hi => ?_) (fun i hi => ?_)
      · rw [pp_s_ne _ _ ha]; exact hI a ha
      · rw [pp_s_ne _ _ a1]; exact hJ a a1
      · simp only [n_m, ↓reduceIte]
        by_cases e : i = m
        · rw [if_pos e]
        · rw [if_neg e]; exact hS i (by omega)
      · simp only [n_m, ↓reduceIte]
        by_cases e : i = m
        · rw [if_pos e, e, decide_eq_true (by omega)]; rfl
        · rw [if_neg e]; exact hO i (by omega)
/-- the rounds of closing -/
theorem c_dv_1 (hC : sC sh R) (hW0 : ∀ m, m < 8 → I 114 m = Int32.ofNat (W m)) (bW : ∀ m, W m ≤ 1000000) {c3 : Int32} :
    ∀ f k S O r I' J' (b6 : Bool), f + k = 8 → (∀ m, m < 8 → O m = true → 0 < W m) → (∀ a, a ≠ 116 → I' a = I a) → (∀ a, a ≠ 113 → a ≠ 115 → J' a = J a) → J' 113 2 = r → (∀ i, i < 8 → J' 115 i = S i) → (∀ i, i < 8 → I' 116 i = bV (O i)) →
      (∀ S2 O2 r2 I2 J2, ((if b6 then cls W lim f (S, O, r) else (S, O, r)) : DS) = (S2, O2, r2) → (∀ m, m < 8 → O2 m = true → 0 < W m) → (∀ a, a ≠ 116 → I2 a = I a) → (∀ a, a ≠ 113 → a ≠ 115 → J2 a = J a) → J2 113 2 = r2 → (∀ i, i < 8 → J2 115 i = S2 i) → (∀ i, i < 8 → I2 116 i = bV (O2 i)) → pp_N g (h + 2) mi_X1_divide P 93 [(0, .ref 113), (1, .long amount), (3, .int c3), (4, .long lim)] [] (sh, I2, J2, R)) →
      pp_N g (h + 2) mi_X1_divide P 67 [(0, .ref 113), (1, .long amount), (3, .int c3), (4, .long lim), (6, .int (bV b6)), (7, .int (Int32.ofNat k))] [] (sh, I', J', R) := by
  intro f
  induction f with
  | zero =>
    intro k S O r I' J' b6 hk pW hI hJ h2 hS hO K
    have hk : k = 8 := by omega
    subst hk
    refine pp_go rfl sk_X1_divide_67 ?_
    simp (disch := omega) only [sg_X1_divide_67, sw_c, sw_n, sx, sf_4, sv_i, sv_j, sv_r, sv_q1, sv_q0, sv_1i, sv_1r, sv_2, sl_i, sl_j, sl_a, sl_v, sp_p, sp_f1, sp_f2, sc_w, sc_c, sc_r, sc_f, sc_a, sc_k, pp_in, pp_al, ↓reduceIte, Nat.reduceEqDiff, Nat.reduceLT, Nat.reduceLeDiff, Nat.reduceAdd, Nat.reduceSub, Nat.reduceMul, List.length_cons, List.length_nil, true_and, and_true, and_self, true_implies, eq_self, not_true_eq_false, not_false_eq_true, false_implies, implies_true, false_and, and_false, Bool.false_eq_true, or_true, true_or, or_false, false_or, Classical.not_not, Nat.le_refl, Nat.lt_irrefl, Bool.true_eq_false, n_lit, n_a, n_c, n_s, n_b, n_m, n_g, n_w, n_n]
    refine pp_N.sub (K S O r I' J' ?_ pW hI hJ h2 hS hO) (by simp)
    cases b6 <;> rfl
  | succ f ih =>
    intro k S O r I' J' b6 hk pW hI hJ h2 hS hO K
    have q1 : ¬ 8 ≤ k := by omega
    cases b6 with
    | false =>
      refine pp_go rfl sk_X1_divide_67 ?_
      simp (disch := omega) only [sg_X1_divide_67, sw_c, sw_n, sx, sf_4, sv_i, sv_j, sv_r, sv_q1, sv_q0, sv_1i, sv_1r, sv_2, sl_i, sl_j, sl_a, sl_v, sp_p, sp_f1, sp_f2, sc_w, sc_c, sc_r, sc_f, sc_a, sc_k, pp_in, pp_al, ↓reduceIte, Nat.reduceEqDiff, Nat.reduceLT, Nat.reduceLeDiff, Nat.reduceAdd, Nat.reduceSub, Nat.reduceMul, List.length_cons, List.length_nil, true_and, and_true, and_self, true_implies, eq_self, not_true_eq_false, not_false_eq_true, false_implies, implies_true, false_and, and_false, Bool.false_eq_true, or_true, true_or, or_false, false_or, Classical.not_not, Nat.le_refl, Nat.lt_irrefl, Bool.true_eq_false, n_lit, n_a, n_c, n_s, n_b, n_m, n_g, n_w, n_n, q1, bV_0]
      exact pp_N.sub (K S O r I' J' rfl pW hI hJ h2 hS hO) (by simp)
    | true =>
      have hW : ∀ m, m < 8 → I' 114 m = Int32.ofNat (W m) := fun m hm => by rw [hI 114 (by omega)]; exact hW0 m hm
      refine pp_go rfl sk_X1_divide_67 ?_
      simp (disch := omega) only [sg_X1_divide_67, sw_c, sw_n, sx, sf_4, sv_i, sv_j, sv_r, sv_q1, sv_q0, sv_1i, sv_1r, sv_2, sl_i, sl_j, sl_a, sl_v, sp_p, sp_f1, sp_f2, sc_w, sc_c, sc_r, sc_f, sc_a, sc_k, pp_in, pp_al, ↓reduceIte, Nat.reduceEqDiff, Nat.reduceLT, Nat.reduceLeDiff, Nat.reduceAdd, Nat.reduceSub, Nat.reduceMul, List.length_cons, List.length_nil, true_and, and_true, and_self, true_implies, eq_self, not_true_eq_false, not_false_eq_true, false_implies, implies_true, false_and, and_false, Bool.false_eq_true, or_true, true_or, or_false, false_or, Classical.not_not, Nat.le_refl, Nat.lt_irrefl, Bool.true_eq_false, n_lit, n_a, n_c, n_s, n_b, n_m, n_g, n_w, n_n, q1, bV_0, hC]
      refine c_closeAbove hC hW bW pW hO hS h2 (fun I2 J2 a1 a2 a3 a4 a5 => ?_)
      simp (disch := omega) only [sw_c, sw_n, sx, sf_4, sv_i, sv_j, sv_r, sv_q1, sv_q0, sv_1i, sv_1r, sv_2, sl_i, sl_j, sl_a, sl_v, sp_p, sp_f1, sp_f2, sc_w, sc_c, sc_r, sc_f, sc_a, sc_k, pp_in, pp_al, ↓reduceIte, Nat.reduceEqDiff, Nat.reduceLT, Nat.reduceLeDiff, Nat.reduceAdd, Nat.reduceSub, Nat.reduceMul, List.length_cons, List.length_nil, true_and, and_true, and_self, true_implies, eq_self, not_true_eq_false, not_false_eq_true, false_implies, implies_true, false_and, and_false, Bool.false_eq_true, or_true, true_or, or_false, false_or, Classical.not_not, Nat.le_refl, Nat.lt_irrefl, Bool.true_eq_false, n_lit, n_a, n_c, n_s, n_b, n_m, n_g, n_w, n_n]
      cases c : anyh W lim O r 8 with
      | true =>
        refine ih (k + 1) _ _ _ I2 J2 true (by omega) (fun m hm z => pW m hm ?_) (fun a ha => (a1 a ha).trans (hI a ha)) (fun a x y => (a2 a x y).trans (hJ a x y)) a3 a4 a5 (fun S2 O2 r2 I3 J3 e => K S2 O2 r2 I3 J3 ?_)
        · split at z
          · cases z
          · exact z
        · rw [← e]
          simp only [if_true, cls]
          rw [if_pos c]
      | false =>
        have noh : ∀ n, anyh W lim O r n = false → lft W lim O r n = r ∧ ∀ i, i < n → ¬ hitP W lim O r i := by
          intro n
          induction n with
          | zero => intro _; exact ⟨rfl, fun i hi => absurd hi (Nat.not_lt_zero _)⟩
          | succ n ih =>
            intro e
            rw [anyh] at e
            split at e
            · cases e
            · rename_i nh
              have i0 := ih e
              refine ⟨by rw [lft, if_neg nh]; exact i0.1, fun i hi => ?_⟩
              by_cases z : i = n
              · subst z; exact nh
              · exact i0.2 i (by omega)
        have n8 := noh 8 c
        refine ih (k + 1) S O r I2 J2 false (by omega) pW (fun a ha => (a1 a ha).trans (hI a ha)) (fun a x y => (a2 a x y).trans (hJ a x y)) (a3.trans n8.1) (fun i hi => by rw [a4 i hi, if_neg (n8.2 i hi)]) (fun i hi => by rw [a5 i hi, if_neg (n8.2 i hi)]) (fun S2 O2 r2 I3 J3 e => K S2 O2 r2 I3 J3 ?_)
        rw [← e]
        simp only [if_true, cls]
        rw [if_neg (by rw [c]; exact Bool.false_ne_true)]
        rfl
theorem c_divide {cap : Nat} (hC : sC sh R) (hW : ∀ m, m < 8 → I 114 m = Int32.ofNat (W m)) (bW : ∀ m, W m ≤ 1000000) (hc : cap ≤ 100)
    (hP : ∀ I' J', (∀ a, a ≠ 116 → I' a = I a) → (∀ a, a ≠ 113 → a ≠ 115 → a ≠ 117 → J' a = J a) → J' 113 2 = (dsh W amount cap).2 → (∀ i, i < 8 → J' 115 i = (dsh W amount cap).1 i) → P (.inl none) (sh, I', J', R)) : pp_MW g (h + 3) mi_X1_divide [.ref 113, .long amount, .int (Int32.ofNat cap)] (sh, I, J, R) P := by
  refine pp_st0 [(0, .ref 113), (1, .long amount), (3, .int (Int32.ofNat cap))] ok_X1_divide rfl (Nat.le_of_ble_eq_true rfl) rfl ?_
  refine pp_go rfl sk_X1_divide_0 ?_
  simp (disch := omega) only [sg_X1_divide_0, sw_c, sw_n, sx, sf_4, sv_i, sv_j, sv_r, sv_q1, sv_q0, sv_1i, sv_1r, sv_2, sl_i, sl_j, sl_a, sl_v, sp_p, sp_f1, sp_f2, sc_w, sc_c, sc_r, sc_f, sc_a, sc_k, pp_in, pp_al, ↓reduceIte, Nat.reduceEqDiff, Nat.reduceLT, Nat.reduceLeDiff, Nat.reduceAdd, Nat.reduceSub, Nat.reduceMul, List.length_cons, List.length_nil, true_and, and_true, and_self, true_implies, eq_self, not_true_eq_false, not_false_eq_true, false_implies, implies_true, false_and, and_false, Bool.false_eq_true, or_true, true_or, or_false, false_or, Classical.not_not, Nat.le_refl, Nat.lt_irrefl, Bool.true_eq_false, n_lit, n_a, n_c, n_s, n_b, n_m, n_g, n_w, n_n, hC]
  refine c_dv_0 (I := I) (J := pp_s J 113 (va_up (J 113) 2 amount)) (W := W) hC hW bW (fun I1 J1 a1 a2 a3 a4 => ?_) 8 0 I _ rfl (fun _ _ => rfl) (fun _ _ => rfl) (fun i hi => absurd hi (Nat.not_lt_zero _)) (fun i hi => absurd hi (Nat.not_lt_zero _))
  have r1 : J1 113 2 = amount := by rw [a2 113 (by omega)]; simp only [n_m, ↓reduceIte]
  have o1 : ∀ a, a ≠ 113 → a ≠ 115 → J1 a = J a := fun a x y => by rw [a2 a y, pp_s_ne _ _ x]
  have hW1 : ∀ m, m < 8 → I1 114 m = Int32.ofNat (W m) := fun m hm => by rw [a1 114 (by omega)]; exact hW m hm
  refine pp_go rfl sk_X1_divide_61 ?_
  simp (disch := omega) only [sg_X1_divide_61, sw_c, sw_n, sx, sf_4, sv_i, sv_j, sv_r, sv_q1, sv_q0, sv_1i, sv_1r, sv_2, sl_i, sl_j, sl_a, sl_v, sp_p, sp_f1, sp_f2, sc_w, sc_c, sc_r, sc_f, sc_a, sc_k, pp_in, pp_al, ↓reduceIte, Nat.reduceEqDiff, Nat.reduceLT, Nat.reduceLeDiff, Nat.reduceAdd, Nat.reduceSub, Nat.reduceMul, List.length_cons, List.length_nil, true_and, and_true, and_self, true_implies, eq_self, not_true_eq_false, not_false_eq_true, false_implies, implies_true, false_and, and_false, Bool.false_eq_true, or_true, true_or, or_false, false_or, Classical.not_not, Nat.le_refl, Nat.lt_irrefl, Bool.true_eq_false, n_lit, n_a, n_c, n_s, n_b, n_m, n_g, n_w, n_n]
  refine c_dv_1 (I := I1) (J := J1) hC hW1 bW 8 0 (fun _ => Int64.ofNat 0) (fun m => decide (0 < W m)) amount I1 J1 true rfl (fun m hm z => by simpa using z) (fun _ _ => rfl) (fun _ _ _ => rfl) r1 a3 a4 (fun S2 O2 r2 I2 J2 e pW b1 b2 b3 b4 b5 => ?_)
  rw [if_pos rfl] at e
  have hd : dsh W amount cap = gv W (amount * Int64.ofNat cap / Int64.ofNat 100) O2 (opn W O2) r2 8 0 (fun m => if O2 m then quo W (opn W O2) r2 m else S2 m, lfq W O2 (opn W O2) r2 8) := by
    rw [dsh, e, fin8]
  have hW2 : ∀ m, m < 8 → I2 114 m = Int32.ofNat (W m) := fun m hm => by rw [b1 114 (by omega)]; exact hW1 m hm
  refine pp_go rfl sk_X1_divide_93 ?_
  simp (disch := omega) only [sg_X1_divide_93, sw_c, sw_n, sx, sf_4, sv_i, sv_j, sv_r, sv_q1, sv_q0, sv_1i, sv_1r, sv_2, sl_i, sl_j, sl_a, sl_v, sp_p, sp_f1, sp_f2, sc_w, sc_c, sc_r, sc_f, sc_a, sc_k, pp_in, pp_al, ↓reduceIte, Nat.reduceEqDiff, Nat.reduceLT, Nat.reduceLeDiff, Nat.reduceAdd, Nat.reduceSub, Nat.reduceMul, List.length_cons, List.length_nil, true_and, and_true, and_self, true_implies, eq_self, not_true_eq_false, not_false_eq_true, false_implies, implies_true, false_and, and_false, Bool.false_eq_true, or_true, true_or, or_false, false_or, Classical.not_not, Nat.le_refl, Nat.lt_irrefl, Bool.true_eq_false, n_lit, n_a, n_c, n_s, n_b, n_m, n_g, n_w, n_n, hC]
  refine c_giveQuotas hC hW2 bW pW b5 b4 b3 (fun J3 d1 d2 d3 d4 => ?_)
  simp (disch := omega) only [sw_c, sw_n, sx, sf_4, sv_i, sv_j, sv_r, sv_q1, sv_q0, sv_1i, sv_1r, sv_2, sl_i, sl_j, sl_a, sl_v, sp_p, sp_f1, sp_f2, sc_w, sc_c, sc_r, sc_f, sc_a, sc_k, pp_in, pp_al, ↓reduceIte, Nat.reduceEqDiff, Nat.reduceLT, Nat.reduceLeDiff, Nat.reduceAdd, Nat.reduceSub, Nat.reduceMul, List.length_cons, List.length_nil, true_and, and_true, and_self, true_implies, eq_self, not_true_eq_false, not_false_eq_true, false_implies, implies_true, false_and, and_false, Bool.false_eq_true, or_true, true_or, or_false, false_or, Classical.not_not, Nat.le_refl, Nat.lt_irrefl, Bool.true_eq_false, n_lit, n_a, n_c, n_s, n_b, n_m, n_g, n_w, n_n, hC]
  have hl := opn_le bW O2
  have ha : (∀ m, m < 8 → O2 m = false) ∨ (0 < opn W O2 ∧ opn W O2 ≤ 8000000) := by
    by_cases z : 0 < opn W O2
    · exact Or.inr ⟨z, hl⟩
    · refine Or.inl (fun m hm => ?_)
      cases ho : O2 m with
      | false => rfl
      | true => exact absurd (opn_pos hm ho (pW m hm ho)) z
  refine c_giveRemainders (W := W) (r := r2) (all := opn W O2) hC ha b5 d4 d3 (fun I4 J4 f1 f2 f3 f4 => ?_)
  rw [d2, ← hd] at f3 f4
  simp (disch := omega) only [sw_c, sw_n, sx, sf_4, sv_i, sv_j, sv_r, sv_q1, sv_q0, sv_1i, sv_1r, sv_2, sl_i, sl_j, sl_a, sl_v, sp_p, sp_f1, sp_f2, sc_w, sc_c, sc_r, sc_f, sc_a, sc_k, pp_in, pp_al, ↓reduceIte, Nat.reduceEqDiff, Nat.reduceLT, Nat.reduceLeDiff, Nat.reduceAdd, Nat.reduceSub, Nat.reduceMul, List.length_cons, List.length_nil, true_and, and_true, and_self, true_implies, eq_self, not_true_eq_false, not_false_eq_true, false_implies, implies_true, false_and, and_false, Bool.false_eq_true, or_true, true_or, or_false, false_or, Classical.not_not, Nat.le_refl, Nat.lt_irrefl, Bool.true_eq_false, n_lit, n_a, n_c, n_s, n_b, n_m, n_g, n_w, n_n]
  refine hP I4 J4 (fun a x => by rw [f1 a x, b1 a x, a1 a x]) (fun a x y z => by rw [f2 a x y, d1 a x y z, b2 a x y, o1 a x y]) f3 f4
theorem c_shareOf {m a : Int32} (hC : sC sh R) (hG : cG I J G) (hT : cT I T) (wG : wfL n G) (wT : wfT T) (hE : (o_shareOf T G m a).1 = 1 → xB sh I J R P eB) (hE2 : (o_shareOf T G m a).1 = 2 → xB sh I J R P eA) (hP : (o_shareOf T G m a).1 = 0 → ∀ I' J', fX I I' → fY J J' → P (.inl (some (.int (o_shareOf T G m a).2))) (sh, I', J', R)) : pp_MW g (h + 7) mi_X8_shareOf [.ref 64, .int m, .int a] (sh, I, J, R) P := by
  refine pp_st0 [(0, .ref 64), (1, .int m), (2, .int a)] ok_X8_shareOf rfl (Nat.le_of_ble_eq_true rfl) rfl ?_
  refine pp_go rfl sk_X8_shareOf_0 ?_
  simp (disch := omega) only [sg_X8_shareOf_0, sw_c, sw_n, sx, sf_4, sv_i, sv_j, sv_r, sv_q1, sv_q0, sv_1i, sv_1r, sv_2, sl_i, sl_j, sl_a, sl_v, sp_p, sp_f1, sp_f2, sc_w, sc_c, sc_r, sc_f, sc_a, sc_k, pp_in, pp_al, ↓reduceIte, Nat.reduceEqDiff, Nat.reduceLT, Nat.reduceLeDiff, Nat.reduceAdd, Nat.reduceSub, Nat.reduceMul, List.length_cons, List.length_nil, true_and, and_true, and_self, true_implies, eq_self, not_true_eq_false, not_false_eq_true, false_implies, implies_true, false_and, and_false, Bool.false_eq_true, or_true, true_or, or_false, false_or, Classical.not_not, Nat.le_refl, Nat.lt_irrefl, Bool.true_eq_false, n_lit, n_a, n_c, n_s, n_b, n_m, n_g, n_w, n_n, rk_X8_shareOf, hC]
  rcases idx_cases m (G.1 7) (by omega) with ⟨k, k1, rfl, e1⟩ | ⟨ho, e1⟩
  · rcases idx_cases a 1000000001 (by omega) with ⟨j, j1, rfl, e2⟩ | ⟨ho, e2⟩
    · simp only [o_shareOf, wM, e1, e2] at hP
      have q1 : ¬ j < 0 := by omega
      have q2 : j ≤ 1000000000 := by omega
      refine c_ckM0 hC hG wG k1 ?_
      simp (disch := omega) only [sw_c, sw_n, sx, sf_4, sv_i, sv_j, sv_r, sv_q1, sv_q0, sv_1i, sv_1r, sv_2, sl_i, sl_j, sl_a, sl_v, sp_p, sp_f1, sp_f2, sc_w, sc_c, sc_r, sc_f, sc_a, sc_k, pp_in, pp_al, ↓reduceIte, Nat.reduceEqDiff, Nat.reduceLT, Nat.reduceLeDiff, Nat.reduceAdd, Nat.reduceSub, Nat.reduceMul, List.length_cons, List.length_nil, true_and, and_true, and_self, true_implies, eq_self, not_true_eq_false, not_false_eq_true, false_implies, implies_true, false_and, and_false, Bool.false_eq_true, or_true, true_or, or_false, false_or, Classical.not_not, Nat.le_refl, Nat.lt_irrefl, Bool.true_eq_false, n_lit, n_a, n_c, n_s, n_b, n_m, n_g, n_w, n_n, rk_X8_shareOf, hC, hG, q1, q2]
      refine pp_go rfl sk_X8_shareOf_25 ?_
      simp (disch := omega) only [sg_X8_shareOf_25, sw_c, sw_n, sx, sf_4, sv_i, sv_j, sv_r, sv_q1, sv_q0, sv_1i, sv_1r, sv_2, sl_i, sl_j, sl_a, sl_v, sp_p, sp_f1, sp_f2, sc_w, sc_c, sc_r, sc_f, sc_a, sc_k, pp_in, pp_al, ↓reduceIte, Nat.reduceEqDiff, Nat.reduceLT, Nat.reduceLeDiff, Nat.reduceAdd, Nat.reduceSub, Nat.reduceMul, List.length_cons, List.length_nil, true_and, and_true, and_self, true_implies, eq_self, not_true_eq_false, not_false_eq_true, false_implies, implies_true, false_and, and_false, Bool.false_eq_true, or_true, true_or, or_false, false_or, Classical.not_not, Nat.le_refl, Nat.lt_irrefl, Bool.true_eq_false, n_lit, n_a, n_c, n_s, n_b, n_m, n_g, n_w, n_n, rk_X8_shareOf, hC]
      refine c_weighMembers hC hG hT wG wT (fun I1 f1 w1 => ?_)
      have hT1 : cT I1 T := cT_cg hT (fun a x y => f1 a (by omega) (by omega))
      have bW := fun m => wts_le T G m wT
      simp (disch := omega) only [sw_c, sw_n, sx, sf_4, sv_i, sv_j, sv_r, sv_q1, sv_q0, sv_1i, sv_1r, sv_2, sl_i, sl_j, sl_a, sl_v, sp_p, sp_f1, sp_f2, sc_w, sc_c, sc_r, sc_f, sc_a, sc_k, pp_in, pp_al, ↓reduceIte, Nat.reduceEqDiff, Nat.reduceLT, Nat.reduceLeDiff, Nat.reduceAdd, Nat.reduceSub, Nat.reduceMul, List.length_cons, List.length_nil, true_and, and_true, and_self, true_implies, eq_self, not_true_eq_false, not_false_eq_true, false_implies, implies_true, false_and, and_false, Bool.false_eq_true, or_true, true_or, or_false, false_or, Classical.not_not, Nat.le_refl, Nat.lt_irrefl, Bool.true_eq_false, n_lit, n_a, n_c, n_s, n_b, n_m, n_g, n_w, n_n, rk_X8_shareOf, hC, hT1]
      refine c_divide (W := wts T G) hC w1 bW (by omega) (fun I2 J2 f2 g2 r2 s2 => ?_)
      simp (disch := omega) only [sw_c, sw_n, sx, sf_4, sv_i, sv_j, sv_r, sv_q1, sv_q0, sv_1i, sv_1r, sv_2, sl_i, sl_j, sl_a, sl_v, sp_p, sp_f1, sp_f2, sc_w, sc_c, sc_r, sc_f, sc_a, sc_k, pp_in, pp_al, ↓reduceIte, Nat.reduceEqDiff, Nat.reduceLT, Nat.reduceLeDiff, Nat.reduceAdd, Nat.reduceSub, Nat.reduceMul, List.length_cons, List.length_nil, true_and, and_true, and_self, true_implies, eq_self, not_true_eq_false, not_false_eq_true, false_implies, implies_true, false_and, and_false, Bool.false_eq_true, or_true, true_or, or_false, false_or, Classical.not_not, Nat.le_refl, Nat.lt_irrefl, Bool.true_eq_false, n_lit, n_a, n_c, n_s, n_b, n_m, n_g, n_w, n_n, rk_X8_shareOf, hC, s2]
      exact hP trivial I2 J2 (fun a x y z => by rw [f2 a z, f1 a x y]) g2
    · simp only [o_shareOf, wM, e1, e2] at hE2
      have K : pp_N g (h + 6) mi_X8_shareOf P 15 [(0, .ref 64), (1, .int (Int32.ofNat k)), (2, .int a)] [] (sh, I, J, R) := by
        refine pp_go rfl sk_X8_shareOf_15 ?_
        simp (disch := omega) only [sg_X8_shareOf_15, sw_c, sw_n, sx, sf_4, sv_i, sv_j, sv_r, sv_q1, sv_q0, sv_1i, sv_1r, sv_2, sl_i, sl_j, sl_a, sl_v, sp_p, sp_f1, sp_f2, sc_w, sc_c, sc_r, sc_f, sc_a, sc_k, pp_in, pp_al, ↓reduceIte, Nat.reduceEqDiff, Nat.reduceLT, Nat.reduceLeDiff, Nat.reduceAdd, Nat.reduceSub, Nat.reduceMul, List.length_cons, List.length_nil, true_and, and_true, and_self, true_implies, eq_self, not_true_eq_false, not_false_eq_true, false_implies, implies_true, false_and, and_false, Bool.false_eq_true, or_true, true_or, or_false, false_or, Classical.not_not, Nat.le_refl, Nat.lt_irrefl, Bool.true_eq_false, n_lit, n_a, n_c, n_s, n_b, n_m, n_g, n_w, n_n, rk_X8_shareOf, ex_0]
        exact hE2 trivial
      by_cases c : a.toInt < 0
      · have q1 := n_ng c
        refine c_ckM0 hC hG wG k1 ?_
        simp (disch := omega) only [sw_c, sw_n, sx, sf_4, sv_i, sv_j, sv_r, sv_q1, sv_q0, sv_1i, sv_1r, sv_2, sl_i, sl_j, sl_a, sl_v, sp_p, sp_f1, sp_f2, sc_w, sc_c, sc_r, sc_f, sc_a, sc_k, pp_in, pp_al, ↓reduceIte, Nat.reduceEqDiff, Nat.reduceLT, Nat.reduceLeDiff, Nat.reduceAdd, Nat.reduceSub, Nat.reduceMul, List.length_cons, List.length_nil, true_and, and_true, and_self, true_implies, eq_self, not_true_eq_false, not_false_eq_true, false_implies, implies_true, false_and, and_false, Bool.false_eq_true, or_true, true_or, or_false, false_or, Classical.not_not, Nat.le_refl, Nat.lt_irrefl, Bool.true_eq_false, n_lit, n_a, n_c, n_s, n_b, n_m, n_g, n_w, n_n, rk_X8_shareOf, q1]
        exact K
      · have q1 := n_nn (p := a) (by omega)
        have q2 : (a ≤ Int32.ofNat 1000000000) = False := eq_false (by rw [Int32.le_iff_toInt_le, Int32.toInt_ofNat_of_lt (by omega)]; omega)
        refine c_ckM0 hC hG wG k1 ?_
        simp (disch := omega) only [sw_c, sw_n, sx, sf_4, sv_i, sv_j, sv_r, sv_q1, sv_q0, sv_1i, sv_1r, sv_2, sl_i, sl_j, sl_a, sl_v, sp_p, sp_f1, sp_f2, sc_w, sc_c, sc_r, sc_f, sc_a, sc_k, pp_in, pp_al, ↓reduceIte, Nat.reduceEqDiff, Nat.reduceLT, Nat.reduceLeDiff, Nat.reduceAdd, Nat.reduceSub, Nat.reduceMul, List.length_cons, List.length_nil, true_and, and_true, and_self, true_implies, eq_self, not_true_eq_false, not_false_eq_true, false_implies, implies_true, false_and, and_false, Bool.false_eq_true, or_true, true_or, or_false, false_or, Classical.not_not, Nat.le_refl, Nat.lt_irrefl, Bool.true_eq_false, n_lit, n_a, n_c, n_s, n_b, n_m, n_g, n_w, n_n, rk_X8_shareOf, q1, q2]
        exact K
  · simp only [o_shareOf, wM, e1] at hE
    exact c_ckM1 hC hG wG ho (hE trivial)
theorem maj_0 (W : Nat → Nat) : maj W 0 = false := by
  have : hvy W 0 = 0 := by
    have z : ∀ k, sm (fun m => if bit 0 m then W m else 0) k = 0 := by
      intro k
      induction k with
      | zero => rfl
      | succ k ih => rw [sm, ih, if_neg (by simp [bit])]
    exact z 8
  simp [maj, this]
theorem smj_1 (W : Nat → Nat) : smj W 1 = none := by
  rw [smj, maj_0]; rfl
theorem c_smj_l (hC : sC sh R) (wG : wfL n G) (hW : ∀ m, m < 8 → I 114 m = Int32.ofNat (W m)) (bW : ∀ m, W m ≤ 1000000) (hP : P (.inl (some (.int (oi (smj W (2 ^ G.1 7)))))) (sh, I, J, R)) :
    ∀ f s, f + s = 2 ^ G.1 7 → pp_N g (h + 1) mi_X8_smallestMajority P 18 [(0, .ref 64), (1, .int (Int32.ofNat (2 ^ G.1 7))), (2, .int (oi (smj W s))), (3, .int (Int32.ofNat s))] [] (sh, I, J, R) := by
  have p2 := p2_le (n := G.1 7) (by omega)
  intro f
  induction f with
  | zero =>
    intro s hs
    have hs : s = 2 ^ G.1 7 := by omega
    subst hs
    refine pp_go rfl sk_X8_smallestMajority_18 ?_
    simp (disch := omega) only [sg_X8_smallestMajority_18, sw_c, sw_n, sx, sf_4, sv_i, sv_j, sv_r, sv_q1, sv_q0, sv_1i, sv_1r, sv_2, sl_i, sl_j, sl_a, sl_v, sp_p, sp_f1, sp_f2, sc_w, sc_c, sc_r, sc_f, sc_a, sc_k, pp_in, pp_al, ↓reduceIte, Nat.reduceEqDiff, Nat.reduceLT, Nat.reduceLeDiff, Nat.reduceAdd, Nat.reduceSub, Nat.reduceMul, List.length_cons, List.length_nil, true_and, and_true, and_self, true_implies, eq_self, not_true_eq_false, not_false_eq_true, false_implies, implies_true, false_and, and_false, Bool.false_eq_true, or_true, true_or, or_false, false_or, Classical.not_not, Nat.le_refl, Nat.lt_irrefl, Bool.true_eq_false, n_lit, n_a, n_c, n_s, n_b, n_m, n_g, n_w, n_n, rk_X8_smallestMajority]
    refine pp_go rfl sk_X8_smallestMajority_58 ?_
    simp (disch := omega) only [sg_X8_smallestMajority_58, sw_c, sw_n, sx, sf_4, sv_i, sv_j, sv_r, sv_q1, sv_q0, sv_1i, sv_1r, sv_2, sl_i, sl_j, sl_a, sl_v, sp_p, sp_f1, sp_f2, sc_w, sc_c, sc_r, sc_f, sc_a, sc_k, pp_in, pp_al, ↓reduceIte, Nat.reduceEqDiff, Nat.reduceLT, Nat.reduceLeDiff, Nat.reduceAdd, Nat.reduceSub, Nat.reduceMul, List.length_cons, List.length_nil, true_and, and_true, and_self, true_implies, eq_self, not_true_eq_false, not_false_eq_true, false_implies, implies_true, false_and, and_false, Bool.false_eq_true, or_true, true_or, or_false, false_or, Classical.not_not, Nat.le_refl, Nat.lt_irrefl, Bool.true_eq_false, n_lit, n_a, n_c, n_s, n_b, n_m, n_g, n_w, n_n, rk_X8_smallestMajority]
    exact hP
  | succ f ih =>
    intro s hs
    have nx := ih (s + 1) (by omega)
    rw [smj] at nx
    have q1 : ¬ 2 ^ G.1 7 ≤ s := by omega
    have hlt := smj_lt (W := W) s
    generalize smj W s = ob at nx hlt ⊢
    refine pp_go rfl sk_X8_smallestMajority_18 ?_
    simp (disch := omega) only [sg_X8_smallestMajority_18, sw_c, sw_n, sx, sf_4, sv_i, sv_j, sv_r, sv_q1, sv_q0, sv_1i, sv_1r, sv_2, sl_i, sl_j, sl_a, sl_v, sp_p, sp_f1, sp_f2, sc_w, sc_c, sc_r, sc_f, sc_a, sc_k, pp_in, pp_al, ↓reduceIte, Nat.reduceEqDiff, Nat.reduceLT, Nat.reduceLeDiff, Nat.reduceAdd, Nat.reduceSub, Nat.reduceMul, List.length_cons, List.length_nil, true_and, and_true, and_self, true_implies, eq_self, not_true_eq_false, not_false_eq_true, false_implies, implies_true, false_and, and_false, Bool.false_eq_true, or_true, true_or, or_false, false_or, Classical.not_not, Nat.le_refl, Nat.lt_irrefl, Bool.true_eq_false, n_lit, n_a, n_c, n_s, n_b, n_m, n_g, n_w, n_n, rk_X8_smallestMajority, hC, q1]
    refine c_isMajority (W := W) hC hW bW (by omega) ?_
    simp (disch := omega) only [sw_c, sw_n, sx, sf_4, sv_i, sv_j, sv_r, sv_q1, sv_q0, sv_1i, sv_1r, sv_2, sl_i, sl_j, sl_a, sl_v, sp_p, sp_f1, sp_f2, sc_w, sc_c, sc_r, sc_f, sc_a, sc_k, pp_in, pp_al, ↓reduceIte, Nat.reduceEqDiff, Nat.reduceLT, Nat.reduceLeDiff, Nat.reduceAdd, Nat.reduceSub, Nat.reduceMul, List.length_cons, List.length_nil, true_and, and_true, and_self, true_implies, eq_self, not_true_eq_false, not_false_eq_true, false_implies, implies_true, false_and, and_false, Bool.false_eq_true, or_true, true_or, or_false, false_or, Classical.not_not, Nat.le_refl, Nat.lt_irrefl, Bool.true_eq_false, n_lit, n_a, n_c, n_s, n_b, n_m, n_g, n_w, n_n, rk_X8_smallestMajority, hC]
    refine ⟨fun q => ?_, fun q => ?_⟩
    · rw [if_neg q] at nx
      refine pp_go rfl sk_X8_smallestMajority_52 ?_
      simp (disch := omega) only [sg_X8_smallestMajority_52, sw_c, sw_n, sx, sf_4, sv_i, sv_j, sv_r, sv_q1, sv_q0, sv_1i, sv_1r, sv_2, sl_i, sl_j, sl_a, sl_v, sp_p, sp_f1, sp_f2, sc_w, sc_c, sc_r, sc_f, sc_a, sc_k, pp_in, pp_al, ↓reduceIte, Nat.reduceEqDiff, Nat.reduceLT, Nat.reduceLeDiff, Nat.reduceAdd, Nat.reduceSub, Nat.reduceMul, List.length_cons, List.length_nil, true_and, and_true, and_self, true_implies, eq_self, not_true_eq_false, not_false_eq_true, false_implies, implies_true, false_and, and_false, Bool.false_eq_true, or_true, true_or, or_false, false_or, Classical.not_not, Nat.le_refl, Nat.lt_irrefl, Bool.true_eq_false, n_lit, n_a, n_c, n_s, n_b, n_m, n_g, n_w, n_n, rk_X8_smallestMajority]
      exact nx
    · rw [if_pos q] at nx
      cases ob with
      | none =>
        simp (disch := omega) only [sw_c, sw_n, sx, sf_4, sv_i, sv_j, sv_r, sv_q1, sv_q0, sv_1i, sv_1r, sv_2, sl_i, sl_j, sl_a, sl_v, sp_p, sp_f1, sp_f2, sc_w, sc_c, sc_r, sc_f, sc_a, sc_k, pp_in, pp_al, ↓reduceIte, Nat.reduceEqDiff, Nat.reduceLT, Nat.reduceLeDiff, Nat.reduceAdd, Nat.reduceSub, Nat.reduceMul, List.length_cons, List.length_nil, true_and, and_true, and_self, true_implies, eq_self, not_true_eq_false, not_false_eq_true, false_implies, implies_true, false_and, and_false, Bool.false_eq_true, or_true, true_or, or_false, false_or, Classical.not_not, Nat.le_refl, Nat.lt_irrefl, Bool.true_eq_false, n_lit, n_a, n_c, n_s, n_b, n_m, n_g, n_w, n_n, rk_X8_smallestMajority, oi]
        refine pp_go rfl sk_X8_smallestMajority_50 ?_
        simp (disch := omega) only [sg_X8_smallestMajority_50, sw_c, sw_n, sx, sf_4, sv_i, sv_j, sv_r, sv_q1, sv_q0, sv_1i, sv_1r, sv_2, sl_i, sl_j, sl_a, sl_v, sp_p, sp_f1, sp_f2, sc_w, sc_c, sc_r, sc_f, sc_a, sc_k, pp_in, pp_al, ↓reduceIte, Nat.reduceEqDiff, Nat.reduceLT, Nat.reduceLeDiff, Nat.reduceAdd, Nat.reduceSub, Nat.reduceMul, List.length_cons, List.length_nil, true_and, and_true, and_self, true_implies, eq_self, not_true_eq_false, not_false_eq_true, false_implies, implies_true, false_and, and_false, Bool.false_eq_true, or_true, true_or, or_false, false_or, Classical.not_not, Nat.le_refl, Nat.lt_irrefl, Bool.true_eq_false, n_lit, n_a, n_c, n_s, n_b, n_m, n_g, n_w, n_n, rk_X8_smallestMajority]
        refine pp_go rfl sk_X8_smallestMajority_52 ?_
        simp (disch := omega) only [sg_X8_smallestMajority_52, sw_c, sw_n, sx, sf_4, sv_i, sv_j, sv_r, sv_q1, sv_q0, sv_1i, sv_1r, sv_2, sl_i, sl_j, sl_a, sl_v, sp_p, sp_f1, sp_f2, sc_w, sc_c, sc_r, sc_f, sc_a, sc_k, pp_in, pp_al, ↓reduceIte, Nat.reduceEqDiff, Nat.reduceLT, Nat.reduceLeDiff, Nat.reduceAdd, Nat.reduceSub, Nat.reduceMul, List.length_cons, List.length_nil, true_and, and_true, and_self, true_implies, eq_self, not_true_eq_false, not_false_eq_true, false_implies, implies_true, false_and, and_false, Bool.false_eq_true, or_true, true_or, or_false, false_or, Classical.not_not, Nat.le_refl, Nat.lt_irrefl, Bool.true_eq_false, n_lit, n_a, n_c, n_s, n_b, n_m, n_g, n_w, n_n, rk_X8_smallestMajority]
        exact nx
      | some b =>
        have b8 := hlt b rfl
        have pb := pop_le b
        have ps := pop_le s
        have x1 : ¬ Int32.ofNat b = -Int32.ofNat 1 := by
          intro e
          have := congrArg Int32.toInt e
          rw [n_i.2.2.2 _ (by omega)] at this
          have z : (-Int32.ofNat 1).toInt = -1 := by decide
          omega
        simp only [] at nx
        simp (disch := omega) only [sw_c, sw_n, sx, sf_4, sv_i, sv_j, sv_r, sv_q1, sv_q0, sv_1i, sv_1r, sv_2, sl_i, sl_j, sl_a, sl_v, sp_p, sp_f1, sp_f2, sc_w, sc_c, sc_r, sc_f, sc_a, sc_k, pp_in, pp_al, ↓reduceIte, Nat.reduceEqDiff, Nat.reduceLT, Nat.reduceLeDiff, Nat.reduceAdd, Nat.reduceSub, Nat.reduceMul, List.length_cons, List.length_nil, true_and, and_true, and_self, true_implies, eq_self, not_true_eq_false, not_false_eq_true, false_implies, implies_true, false_and, and_false, Bool.false_eq_true, or_true, true_or, or_false, false_or, Classical.not_not, Nat.le_refl, Nat.lt_irrefl, Bool.true_eq_false, n_lit, n_a, n_c, n_s, n_b, n_m, n_g, n_w, n_n, rk_X8_smallestMajority, oi, x1]
        refine j_bitCount (by omega) ?_
        simp (disch := omega) only [sw_c, sw_n, sx, sf_4, sv_i, sv_j, sv_r, sv_q1, sv_q0, sv_1i, sv_1r, sv_2, sl_i, sl_j, sl_a, sl_v, sp_p, sp_f1, sp_f2, sc_w, sc_c, sc_r, sc_f, sc_a, sc_k, pp_in, pp_al, ↓reduceIte, Nat.reduceEqDiff, Nat.reduceLT, Nat.reduceLeDiff, Nat.reduceAdd, Nat.reduceSub, Nat.reduceMul, List.length_cons, List.length_nil, true_and, and_true, and_self, true_implies, eq_self, not_true_eq_false, not_false_eq_true, false_implies, implies_true, false_and, and_false, Bool.false_eq_true, or_true, true_or, or_false, false_or, Classical.not_not, Nat.le_refl, Nat.lt_irrefl, Bool.true_eq_false, n_lit, n_a, n_c, n_s, n_b, n_m, n_g, n_w, n_n, rk_X8_smallestMajority]
        refine j_bitCount (by omega) ?_
        simp (disch := omega) only [sw_c, sw_n, sx, sf_4, sv_i, sv_j, sv_r, sv_q1, sv_q0, sv_1i, sv_1r, sv_2, sl_i, sl_j, sl_a, sl_v, sp_p, sp_f1, sp_f2, sc_w, sc_c, sc_r, sc_f, sc_a, sc_k, pp_in, pp_al, ↓reduceIte, Nat.reduceEqDiff, Nat.reduceLT, Nat.reduceLeDiff, Nat.reduceAdd, Nat.reduceSub, Nat.reduceMul, List.length_cons, List.length_nil, true_and, and_true, and_self, true_implies, eq_self, not_true_eq_false, not_false_eq_true, false_implies, implies_true, false_and, and_false, Bool.false_eq_true, or_true, true_or, or_false, false_or, Classical.not_not, Nat.le_refl, Nat.lt_irrefl, Bool.true_eq_false, n_lit, n_a, n_c, n_s, n_b, n_m, n_g, n_w, n_n, rk_X8_smallestMajority]
        refine ⟨fun q2 => ?_, fun q2 => ?_⟩
        · rw [if_neg (by omega)] at nx
          refine pp_go rfl sk_X8_smallestMajority_52 ?_
          simp (disch := omega) only [sg_X8_smallestMajority_52, sw_c, sw_n, sx, sf_4, sv_i, sv_j, sv_r, sv_q1, sv_q0, sv_1i, sv_1r, sv_2, sl_i, sl_j, sl_a, sl_v, sp_p, sp_f1, sp_f2, sc_w, sc_c, sc_r, sc_f, sc_a, sc_k, pp_in, pp_al, ↓reduceIte, Nat.reduceEqDiff, Nat.reduceLT, Nat.reduceLeDiff, Nat.reduceAdd, Nat.reduceSub, Nat.reduceMul, List.length_cons, List.length_nil, true_and, and_true, and_self, true_implies, eq_self, not_true_eq_false, not_false_eq_true, false_implies, implies_true, false_and, and_false, Bool.false_eq_true, or_true, true_or, or_false, false_or, Classical.not_not, Nat.le_refl, Nat.lt_irrefl, Bool.true_eq_false, n_lit, n_a, n_c, n_s, n_b, n_m, n_g, n_w, n_n, rk_X8_smallestMajority]
          exact nx
        · rw [if_pos (by omega)] at nx
          refine pp_go rfl sk_X8_smallestMajority_50 ?_
          simp (disch := omega) only [sg_X8_smallestMajority_50, sw_c, sw_n, sx, sf_4, sv_i, sv_j, sv_r, sv_q1, sv_q0, sv_1i, sv_1r, sv_2, sl_i, sl_j, sl_a, sl_v, sp_p, sp_f1, sp_f2, sc_w, sc_c, sc_r, sc_f, sc_a, sc_k, pp_in, pp_al, ↓reduceIte, Nat.reduceEqDiff, Nat.reduceLT, Nat.reduceLeDiff, Nat.reduceAdd, Nat.reduceSub, Nat.reduceMul, List.length_cons, List.length_nil, true_and, and_true, and_self, true_implies, eq_self, not_true_eq_false, not_false_eq_true, false_implies, implies_true, false_and, and_false, Bool.false_eq_true, or_true, true_or, or_false, false_or, Classical.not_not, Nat.le_refl, Nat.lt_irrefl, Bool.true_eq_false, n_lit, n_a, n_c, n_s, n_b, n_m, n_g, n_w, n_n, rk_X8_smallestMajority]
          refine pp_go rfl sk_X8_smallestMajority_52 ?_
          simp (disch := omega) only [sg_X8_smallestMajority_52, sw_c, sw_n, sx, sf_4, sv_i, sv_j, sv_r, sv_q1, sv_q0, sv_1i, sv_1r, sv_2, sl_i, sl_j, sl_a, sl_v, sp_p, sp_f1, sp_f2, sc_w, sc_c, sc_r, sc_f, sc_a, sc_k, pp_in, pp_al, ↓reduceIte, Nat.reduceEqDiff, Nat.reduceLT, Nat.reduceLeDiff, Nat.reduceAdd, Nat.reduceSub, Nat.reduceMul, List.length_cons, List.length_nil, true_and, and_true, and_self, true_implies, eq_self, not_true_eq_false, not_false_eq_true, false_implies, implies_true, false_and, and_false, Bool.false_eq_true, or_true, true_or, or_false, false_or, Classical.not_not, Nat.le_refl, Nat.lt_irrefl, Bool.true_eq_false, n_lit, n_a, n_c, n_s, n_b, n_m, n_g, n_w, n_n, rk_X8_smallestMajority]
          exact nx
theorem c_smallestMajority (hC : sC sh R) (hG : cG I J G) (hT : cT I T) (wG : wfL n G) (wT : wfT T) (hP : ∀ I', fX I I' → P (.inl (some (.int (oi (smj (wts T G) (2 ^ G.1 7)))))) (sh, I', J, R)) : pp_MW g (h + 7) mi_X8_smallestMajority [.ref 64] (sh, I, J, R) P := by
  refine pp_st0 [(0, .ref 64)] ok_X8_smallestMajority rfl (Nat.le_of_ble_eq_true rfl) rfl ?_
  refine pp_go rfl sk_X8_smallestMajority_0 ?_
  simp (disch := omega) only [sg_X8_smallestMajority_0, sw_c, sw_n, sx, sf_4, sv_i, sv_j, sv_r, sv_q1, sv_q0, sv_1i, sv_1r, sv_2, sl_i, sl_j, sl_a, sl_v, sp_p, sp_f1, sp_f2, sc_w, sc_c, sc_r, sc_f, sc_a, sc_k, pp_in, pp_al, ↓reduceIte, Nat.reduceEqDiff, Nat.reduceLT, Nat.reduceLeDiff, Nat.reduceAdd, Nat.reduceSub, Nat.reduceMul, List.length_cons, List.length_nil, true_and, and_true, and_self, true_implies, eq_self, not_true_eq_false, not_false_eq_true, false_implies, implies_true, false_and, and_false, Bool.false_eq_true, or_true, true_or, or_false, false_or, Classical.not_not, Nat.le_refl, Nat.lt_irrefl, Bool.true_eq_false, n_lit, n_a, n_c, n_s, n_b, n_m, n_g, n_w, n_n, rk_X8_smallestMajority, hC]
  refine c_weighMembers hC hG hT wG wT (fun I1 f1 w1 => ?_)
  have hG1 : cG I1 J G := cL_cg (L := 102) hG (fun a x y => f1 a (by omega) (by omega)) (fun _ _ _ => rfl)
  have bW := fun m => wts_le T G m wT
  have p2 := p2_le (n := G.1 7) (by omega)
  have p1 : 1 ≤ 2 ^ G.1 7 := Nat.one_le_two_pow
  simp (disch := omega) only [sw_c, sw_n, sx, sf_4, sv_i, sv_j, sv_r, sv_q1, sv_q0, sv_1i, sv_1r, sv_2, sl_i, sl_j, sl_a, sl_v, sp_p, sp_f1, sp_f2, sc_w, sc_c, sc_r, sc_f, sc_a, sc_k, pp_in, pp_al, ↓reduceIte, Nat.reduceEqDiff, Nat.reduceLT, Nat.reduceLeDiff, Nat.reduceAdd, Nat.reduceSub, Nat.reduceMul, List.length_cons, List.length_nil, true_and, and_true, and_self, true_implies, eq_self, not_true_eq_false, not_false_eq_true, false_implies, implies_true, false_and, and_false, Bool.false_eq_true, or_true, true_or, or_false, false_or, Classical.not_not, Nat.le_refl, Nat.lt_irrefl, Bool.true_eq_false, n_lit, n_a, n_c, n_s, n_b, n_m, n_g, n_w, n_n, rk_X8_smallestMajority, hC, hG1, Nat.one_shiftLeft]
  have nx := c_smj_l (g := g) (h := h + 5) (P := P) (J := J) (W := wts T G) hC wG w1 bW (hP I1 (fun a x y _ => f1 a x y)) (2 ^ G.1 7 - 1) 1 (by omega)
  rw [smj_1] at nx
  exact nx
theorem c_pwr_l {m : Nat} (hC : sC sh R) (wG : wfL n G) (hm : m < 8) (hW : ∀ m, m < 8 → I 114 m = Int32.ofNat (W m)) (bW : ∀ m, W m ≤ 1000000) (hP : P (.inl (some (.int (Int32.ofNat (pwr W m (2 ^ G.1 7)))))) (sh, I, J, R)) :
    ∀ f s, f + s = 2 ^ G.1 7 → pp_N g (h + 1) mi_X8_power P 29 [(0, .ref 64), (1, .int (Int32.ofNat m)), (2, .int (Int32.ofNat (2 ^ G.1 7))), (3, .int (Int32.ofNat (2 ^ m))), (4, .int (Int32.ofNat (pwr W m s))), (5, .int (Int32.ofNat s))] [] (sh, I, J, R) := by
  have p2 := p2_le (n := G.1 7) (by omega)
  have pm : 2 ^ m ≤ 256 := p2_le (by omega)
  intro f
  induction f with
  | zero =>
    intro s hs
    have hs : s = 2 ^ G.1 7 := by omega
    subst hs
    refine pp_go rfl sk_X8_power_29 ?_
    simp (disch := omega) only [sg_X8_power_29, sw_c, sw_n, sx, sf_4, sv_i, sv_j, sv_r, sv_q1, sv_q0, sv_1i, sv_1r, sv_2, sl_i, sl_j, sl_a, sl_v, sp_p, sp_f1, sp_f2, sc_w, sc_c, sc_r, sc_f, sc_a, sc_k, pp_in, pp_al, ↓reduceIte, Nat.reduceEqDiff, Nat.reduceLT, Nat.reduceLeDiff, Nat.reduceAdd, Nat.reduceSub, Nat.reduceMul, List.length_cons, List.length_nil, true_and, and_true, and_self, true_implies, eq_self, not_true_eq_false, not_false_eq_true, false_implies, implies_true, false_and, and_false, Bool.false_eq_true, or_true, true_or, or_false, false_or, Classical.not_not, Nat.le_refl, Nat.lt_irrefl, Bool.true_eq_false, n_lit, n_a, n_c, n_s, n_b, n_m, n_g, n_w, n_n, rk_X8_power]
    refine pp_go rfl sk_X8_power_77 ?_
    simp (disch := omega) only [sg_X8_power_77, sw_c, sw_n, sx, sf_4, sv_i, sv_j, sv_r, sv_q1, sv_q0, sv_1i, sv_1r, sv_2, sl_i, sl_j, sl_a, sl_v, sp_p, sp_f1, sp_f2, sc_w, sc_c, sc_r, sc_f, sc_a, sc_k, pp_in, pp_al, ↓reduceIte, Nat.reduceEqDiff, Nat.reduceLT, Nat.reduceLeDiff, Nat.reduceAdd, Nat.reduceSub, Nat.reduceMul, List.length_cons, List.length_nil, true_and, and_true, and_self, true_implies, eq_self, not_true_eq_false, not_false_eq_true, false_implies, implies_true, false_and, and_false, Bool.false_eq_true, or_true, true_or, or_false, false_or, Classical.not_not, Nat.le_refl, Nat.lt_irrefl, Bool.true_eq_false, n_lit, n_a, n_c, n_s, n_b, n_m, n_g, n_w, n_n, rk_X8_power]
    exact hP
  | succ f ih =>
    intro s hs
    have nx := ih (s + 1) (by omega)
    have e0 : pwr W m (s + 1) = pwr W m s + if bit s m = false ∧ maj W s = false ∧ maj W (s ||| 2 ^ m) = true then 1 else 0 := rfl
    rw [e0] at nx
    have q1 : ¬ 2 ^ G.1 7 ≤ s := by omega
    have s8 : s < 256 := by omega
    have hb : (s &&& 2 ^ m = 0) = (bit s m = false) := by
      have tab : ∀ s, s < 256 → ∀ m, m < 8 → (s &&& 2 ^ m = 0 ↔ bit s m = false) := by decide
      exact propext (tab s s8 m hm)
    have hand : s &&& 2 ^ m ≤ s := Nat.and_le_left
    have bo := or_lt8 s8 hm
    refine pp_go rfl sk_X8_power_29 ?_
    simp (disch := omega) only [sg_X8_power_29, sw_c, sw_n, sx, sf_4, sv_i, sv_j, sv_r, sv_q1, sv_q0, sv_1i, sv_1r, sv_2, sl_i, sl_j, sl_a, sl_v, sp_p, sp_f1, sp_f2, sc_w, sc_c, sc_r, sc_f, sc_a, sc_k, pp_in, pp_al, ↓reduceIte, Nat.reduceEqDiff, Nat.reduceLT, Nat.reduceLeDiff, Nat.reduceAdd, Nat.reduceSub, Nat.reduceMul, List.length_cons, List.length_nil, true_and, and_true, and_self, true_implies, eq_self, not_true_eq_false, not_false_eq_true, false_implies, implies_true, false_and, and_false, Bool.false_eq_true, or_true, true_or, or_false, false_or, Classical.not_not, Nat.le_refl, Nat.lt_irrefl, Bool.true_eq_false, n_lit, n_a, n_c, n_s, n_b, n_m, n_g, n_w, n_n, rk_X8_power, hC, q1]
    refine ⟨fun q => ?_, fun q => ?_⟩
    · rw [if_neg (fun z => q (hb.symm ▸ z.1))] at nx
      refine pp_go rfl sk_X8_power_71 ?_
      simp (disch := omega) only [sg_X8_power_71, sw_c, sw_n, sx, sf_4, sv_i, sv_j, sv_r, sv_q1, sv_q0, sv_1i, sv_1r, sv_2, sl_i, sl_j, sl_a, sl_v, sp_p, sp_f1, sp_f2, sc_w, sc_c, sc_r, sc_f, sc_a, sc_k, pp_in, pp_al, ↓reduceIte, Nat.reduceEqDiff, Nat.reduceLT, Nat.reduceLeDiff, Nat.reduceAdd, Nat.reduceSub, Nat.reduceMul, List.length_cons, List.length_nil, true_and, and_true, and_self, true_implies, eq_self, not_true_eq_false, not_false_eq_true, false_implies, implies_true, false_and, and_false, Bool.false_eq_true, or_true, true_or, or_false, false_or, Classical.not_not, Nat.le_refl, Nat.lt_irrefl, Bool.true_eq_false, n_lit, n_a, n_c, n_s, n_b, n_m, n_g, n_w, n_n, rk_X8_power]
      exact nx
    · rw [hb] at q
      refine c_isMajority (W := W) hC hW bW s8 ?_
      simp (disch := omega) only [sw_c, sw_n, sx, sf_4, sv_i, sv_j, sv_r, sv_q1, sv_q0, sv_1i, sv_1r, sv_2, sl_i, sl_j, sl_a, sl_v, sp_p, sp_f1, sp_f2, sc_w, sc_c, sc_r, sc_f, sc_a, sc_k, pp_in, pp_al, ↓reduceIte, Nat.reduceEqDiff, Nat.reduceLT, Nat.reduceLeDiff, Nat.reduceAdd, Nat.reduceSub, Nat.reduceMul, List.length_cons, List.length_nil, true_and, and_true, and_self, true_implies, eq_self, not_true_eq_false, not_false_eq_true, false_implies, implies_true, false_and, and_false, Bool.false_eq_true, or_true, true_or, or_false, false_or, Classical.not_not, Nat.le_refl, Nat.lt_irrefl, Bool.true_eq_false, n_lit, n_a, n_c, n_s, n_b, n_m, n_g, n_w, n_n, rk_X8_power, hC]
      refine ⟨fun q2 => ?_, fun q2 => ?_⟩
      · rw [if_neg (fun z => by rw [q2] at z; cases z.2.1)] at nx
        refine pp_go rfl sk_X8_power_71 ?_
        simp (disch := omega) only [sg_X8_power_71, sw_c, sw_n, sx, sf_4, sv_i, sv_j, sv_r, sv_q1, sv_q0, sv_1i, sv_1r, sv_2, sl_i, sl_j, sl_a, sl_v, sp_p, sp_f1, sp_f2, sc_w, sc_c, sc_r, sc_f, sc_a, sc_k, pp_in, pp_al, ↓reduceIte, Nat.reduceEqDiff, Nat.reduceLT, Nat.reduceLeDiff, Nat.reduceAdd, Nat.reduceSub, Nat.reduceMul, List.length_cons, List.length_nil, true_and, and_true, and_self, true_implies, eq_self, not_true_eq_false, not_false_eq_true, false_implies, implies_true, false_and, and_false, Bool.false_eq_true, or_true, true_or, or_false, false_or, Classical.not_not, Nat.le_refl, Nat.lt_irrefl, Bool.true_eq_false, n_lit, n_a, n_c, n_s, n_b, n_m, n_g, n_w, n_n, rk_X8_power]
        exact nx
      · refine c_isMajority (W := W) hC hW bW bo ?_
        simp (disch := omega) only [sw_c, sw_n, sx, sf_4, sv_i, sv_j, sv_r, sv_q1, sv_q0, sv_1i, sv_1r, sv_2, sl_i, sl_j, sl_a, sl_v, sp_p, sp_f1, sp_f2, sc_w, sc_c, sc_r, sc_f, sc_a, sc_k, pp_in, pp_al, ↓reduceIte, Nat.reduceEqDiff, Nat.reduceLT, Nat.reduceLeDiff, Nat.reduceAdd, Nat.reduceSub, Nat.reduceMul, List.length_cons, List.length_nil, true_and, and_true, and_self, true_implies, eq_self, not_true_eq_false, not_false_eq_true, false_implies, implies_true, false_and, and_false, Bool.false_eq_true, or_true, true_or, or_false, false_or, Classical.not_not, Nat.le_refl, Nat.lt_irrefl, Bool.true_eq_false, n_lit, n_a, n_c, n_s, n_b, n_m, n_g, n_w, n_n, rk_X8_power, hC]
        refine ⟨fun q3 => ?_, fun q3 => ?_⟩
        · rw [if_neg (fun z => q3 z.2.2)] at nx
          refine pp_go rfl sk_X8_power_71 ?_
          simp (disch := omega) only [sg_X8_power_71, sw_c, sw_n, sx, sf_4, sv_i, sv_j, sv_r, sv_q1, sv_q0, sv_1i, sv_1r, sv_2, sl_i, sl_j, sl_a, sl_v, sp_p, sp_f1, sp_f2, sc_w, sc_c, sc_r, sc_f, sc_a, sc_k, pp_in, pp_al, ↓reduceIte, Nat.reduceEqDiff, Nat.reduceLT, Nat.reduceLeDiff, Nat.reduceAdd, Nat.reduceSub, Nat.reduceMul, List.length_cons, List.length_nil, true_and, and_true, and_self, true_implies, eq_self, not_true_eq_false, not_false_eq_true, false_implies, implies_true, false_and, and_false, Bool.false_eq_true, or_true, true_or, or_false, false_or, Classical.not_not, Nat.le_refl, Nat.lt_irrefl, Bool.true_eq_false, n_lit, n_a, n_c, n_s, n_b, n_m, n_g, n_w, n_n, rk_X8_power]
          exact nx
        · rw [if_pos ⟨q, by simpa using q2, q3⟩] at nx
          refine pp_go rfl sk_X8_power_71 ?_
          simp (disch := omega) only [sg_X8_power_71, sw_c, sw_n, sx, sf_4, sv_i, sv_j, sv_r, sv_q1, sv_q0, sv_1i, sv_1r, sv_2, sl_i, sl_j, sl_a, sl_v, sp_p, sp_f1, sp_f2, sc_w, sc_c, sc_r, sc_f, sc_a, sc_k, pp_in, pp_al, ↓reduceIte, Nat.reduceEqDiff, Nat.reduceLT, Nat.reduceLeDiff, Nat.reduceAdd, Nat.reduceSub, Nat.reduceMul, List.length_cons, List.length_nil, true_and, and_true, and_self, true_implies, eq_self, not_true_eq_false, not_false_eq_true, false_implies, implies_true, false_and, and_false, Bool.false_eq_true, or_true, true_or, or_false, false_or, Classical.not_not, Nat.le_refl, Nat.lt_irrefl, Bool.true_eq_false, n_lit, n_a, n_c, n_s, n_b, n_m, n_g, n_w, n_n, rk_X8_power]
          exact nx
theorem c_power {m : Int32} (hC : sC sh R) (hG : cG I J G) (hT : cT I T) (wG : wfL n G) (wT : wfT T) (hE : (o_power T G m).1 = 1 → xB sh I J R P eB) (hP : (o_power T G m).1 = 0 → ∀ I', fX I I' → P (.inl (some (.int (o_power T G m).2))) (sh, I', J, R)) : pp_MW g (h + 7) mi_X8_power [.ref 64, .int m] (sh, I, J, R) P := by
  refine pp_st0 [(0, .ref 64), (1, .int m)] ok_X8_power rfl (Nat.le_of_ble_eq_true rfl) rfl ?_
  refine pp_go rfl sk_X8_power_0 ?_
  simp (disch := omega) only [sg_X8_power_0, sw_c, sw_n, sx, sf_4, sv_i, sv_j, sv_r, sv_q1, sv_q0, sv_1i, sv_1r, sv_2, sl_i, sl_j, sl_a, sl_v, sp_p, sp_f1, sp_f2, sc_w, sc_c, sc_r, sc_f, sc_a, sc_k, pp_in, pp_al, ↓reduceIte, Nat.reduceEqDiff, Nat.reduceLT, Nat.reduceLeDiff, Nat.reduceAdd, Nat.reduceSub, Nat.reduceMul, List.length_cons, List.length_nil, true_and, and_true, and_self, true_implies, eq_self, not_true_eq_false, not_false_eq_true, false_implies, implies_true, false_and, and_false, Bool.false_eq_true, or_true, true_or, or_false, false_or, Classical.not_not, Nat.le_refl, Nat.lt_irrefl, Bool.true_eq_false, n_lit, n_a, n_c, n_s, n_b, n_m, n_g, n_w, n_n, rk_X8_power, hC]
  rcases idx_cases m (G.1 7) (by omega) with ⟨k, k1, rfl, e1⟩ | ⟨ho, e1⟩
  · simp only [o_power, wM, e1] at hP
    refine c_ckM0 hC hG wG k1 ?_
    simp (disch := omega) only [sw_c, sw_n, sx, sf_4, sv_i, sv_j, sv_r, sv_q1, sv_q0, sv_1i, sv_1r, sv_2, sl_i, sl_j, sl_a, sl_v, sp_p, sp_f1, sp_f2, sc_w, sc_c, sc_r, sc_f, sc_a, sc_k, pp_in, pp_al, ↓reduceIte, Nat.reduceEqDiff, Nat.reduceLT, Nat.reduceLeDiff, Nat.reduceAdd, Nat.reduceSub, Nat.reduceMul, List.length_cons, List.length_nil, true_and, and_true, and_self, true_implies, eq_self, not_true_eq_false, not_false_eq_true, false_implies, implies_true, false_and, and_false, Bool.false_eq_true, or_true, true_or, or_false, false_or, Classical.not_not, Nat.le_refl, Nat.lt_irrefl, Bool.true_eq_false, n_lit, n_a, n_c, n_s, n_b, n_m, n_g, n_w, n_n, rk_X8_power, hC]
    refine c_weighMembers hC hG hT wG wT (fun I1 f1 w1 => ?_)
    have hG1 : cG I1 J G := cL_cg (L := 102) hG (fun a x y => f1 a (by omega) (by omega)) (fun _ _ _ => rfl)
    have bW := fun m => wts_le T G m wT
    simp (disch := omega) only [sw_c, sw_n, sx, sf_4, sv_i, sv_j, sv_r, sv_q1, sv_q0, sv_1i, sv_1r, sv_2, sl_i, sl_j, sl_a, sl_v, sp_p, sp_f1, sp_f2, sc_w, sc_c, sc_r, sc_f, sc_a, sc_k, pp_in, pp_al, ↓reduceIte, Nat.reduceEqDiff, Nat.reduceLT, Nat.reduceLeDiff, Nat.reduceAdd, Nat.reduceSub, Nat.reduceMul, List.length_cons, List.length_nil, true_and, and_true, and_self, true_implies, eq_self, not_true_eq_false, not_false_eq_true, false_implies, implies_true, false_and, and_false, Bool.false_eq_true, or_true, true_or, or_false, false_or, Classical.not_not, Nat.le_refl, Nat.lt_irrefl, Bool.true_eq_false, n_lit, n_a, n_c, n_s, n_b, n_m, n_g, n_w, n_n, rk_X8_power, hC, hG1, Nat.one_shiftLeft]
    exact c_pwr_l (h := h + 5) (W := wts T G) hC wG (by omega) w1 bW (hP trivial I1 (fun a x y _ => f1 a x y)) (2 ^ G.1 7) 0 (by omega)
  · simp only [o_power, wM, e1] at hE
    exact c_ckM1 hC hG wG ho (hE trivial)
end
