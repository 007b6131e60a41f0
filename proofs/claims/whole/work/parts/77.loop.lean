/-! THE LAW: its loop -/
set_option maxHeartbeats 1000000
set_option maxRecDepth 100000
section
variable {g : pp_G} {b : Addr} {j n i : Nat} {sh : List (Nat × Nat)} {I : Nat → Nat → Int32} {J : Nat → Nat → Int64} {R : Nat → Nat → Option Nat} {A : AS}
theorem LI_mn (h : LI n A sh I J R) : LI (n + 1) A sh I J R := ⟨h.1, h.2.1, h.2.2.1, h.2.2.2.1, h.2.2.2.2.1, h.2.2.2.2.2.1, gd_mn h.2.2.2.2.2.2⟩
theorem l_step (hI : LI n A sh I J R) (hi : i + 6 ≤ pp_sL g) (hL : pp_sL g ≤ 3072) (hj : j ≤ 512) (hn : n ≤ 1000) (K : lK g b j n i) : lwN g b j 23 (lL i) [] (sh, I, J, R) := by
  refine l_go hj sk_L_law_23 ?_
  simp (disch := omega) only [sw_c, sw_n, sx, sf_4, sv_i, sv_j, sv_r, sv_q1, sv_q0, sv_1i, sv_1r, sv_2, sl_i, sl_j, sl_a, sl_v, sp_p, sp_f1, sp_f2, sc_w, sc_c, sc_r, sc_f, sc_a, sc_k, pp_in, pp_al, ↓reduceIte, Nat.reduceEqDiff, Nat.reduceLT, Nat.reduceLeDiff, Nat.reduceAdd, Nat.reduceSub, Nat.reduceMul, List.length_cons, List.length_nil, true_and, and_true, and_self, true_implies, eq_self, not_true_eq_false, not_false_eq_true, false_implies, implies_true, false_and, and_false, Bool.false_eq_true, or_true, true_or, or_false, false_or, Classical.not_not, Nat.le_refl, Nat.lt_irrefl, Bool.true_eq_false, n_lit, n_a, n_c, n_s, n_b, n_m, n_g, n_w, n_n, rk_X8_parse, sg_L_law_23, sc_s]
  refine ⟨fun q => absurd q (by omega), fun _ => ⟨⟨fun _ => l_append hI hi hL hj hn K, fun _ => l_parse hI hi hL hj hn K, fun _ => l_errorPosition hI hi hL hj hn K, fun _ => l_size hI hi hL hj hn K, fun _ => l_today hI hi hL hj hn K, fun _ => l_period hI hi hL hj hn K, fun _ => l_decision hI hi hL hj hn K, fun _ => l_voters hI hi hL hj hn K, fun _ => l_votesNeeded hI hi hL hj hn K, fun _ => l_counts hI hi hL hj hn K, fun _ => l_firstToExpire hI hi hL hj hn K, fun _ => l_weight hI hi hL hj hn K, fun _ => l_weightAfter hI hi hL hj hn K, fun _ => l_shareOf hI hi hL hj hn K, fun _ => l_smallestMajority hI hi hL hj hn K, fun _ => l_power hI hi hL hj hn K, fun _ => l_owed hI hi hL hj hn K, fun _ => l_reported hI hi hL hj hn K, fun _ => l_account hI hi hL hj hn K, fun _ => l_latestShare hI hi hL hj hn K, fun _ => l_total hI hi hL hj hn K, fun _ => l_largestDebtor hI hi hL hj hn K, fun _ => l_advance hI hi hL hj hn K, fun _ => l_join hI hi hL hj hn K, fun _ => l_declare hI hi hL hj hn K, fun _ => l_vote hI hi hL hj hn K, fun _ => l_reopen hI hi hL hj hn K, fun _ => l_report hI hi hL hj hn K, fun _ => l_grantBack hI hi hL hj hn K, fun _ => l_pay hI hi hL hj hn K, fun _ => l_audit hI hi hL hj hn K, fun _ => l_close hI hi hL hj hn K, fun _ => l_payOut hI hi hL hj hn K, fun _ => l_undo hI hi hL hj hn K, fun _ => l_saveSnapshot hI hi hL hj hn K, fun _ => l_restoreSnapshot hI hi hL hj hn K⟩, fun _ => K _ _ _ _ _ _ (LI_mn hI) (fun q hq => hq) rfl⟩⟩
theorem l_q1 {L : Nat} (h : L < i + 6) (hi : i ≤ L) (hL : L ≤ 3072) : (Int32.ofNat L - Int32.ofNat 6 < Int32.ofNat i) = True := by
  refine eq_true ?_
  rw [Int32.lt_iff_toInt_lt, Int32.toInt_sub, Int32.toInt_ofNat_of_lt (by omega), Int32.toInt_ofNat_of_lt (by omega), Int32.toInt_ofNat_of_lt (by omega), Int.bmod_eq_of_le (by omega) (by omega)]
  omega
theorem rk_L_law (x : Int32) (h : x = Int32.ofNat 1) : pp_rok mi_L_law.ret x = True := by
  subst h
  exact eq_true (Or.inr rfl)
theorem l_stop (hi : pp_sL g < i + 6) (hi2 : i ≤ pp_sL g) (hL : pp_sL g ≤ 3072) (hj : j ≤ 512) : lwN g b j 23 (lL i) [] (sh, I, J, R) := by
  have q1 := l_q1 hi hi2 hL
  refine l_go hj sk_L_law_23 ?_
  simp only [sg_L_law_23, sw_c, sw_n, sx, sf_4, sv_i, sv_j, sv_r, sv_q1, sv_q0, sv_1i, sv_1r, sv_2, sl_i, sl_j, sl_a, sl_v, sp_p, sp_f1, sp_f2, sc_w, sc_c, sc_r, sc_f, sc_a, sc_k, pp_in, pp_al, ↓reduceIte, Nat.reduceEqDiff, Nat.reduceLT, Nat.reduceLeDiff, Nat.reduceAdd, Nat.reduceSub, Nat.reduceMul, List.length_cons, List.length_nil, true_and, and_true, and_self, true_implies, eq_self, not_true_eq_false, not_false_eq_true, false_implies, implies_true, false_and, and_false, Bool.false_eq_true, or_true, true_or, or_false, false_or, Classical.not_not, Nat.le_refl, Nat.lt_irrefl, Bool.true_eq_false, n_lit, q1]
  refine l_go hj sk_L_law_2211 ?_
  simp (disch := omega) only [sw_c, sw_n, sx, sf_4, sv_i, sv_j, sv_r, sv_q1, sv_q0, sv_1i, sv_1r, sv_2, sl_i, sl_j, sl_a, sl_v, sp_p, sp_f1, sp_f2, sc_w, sc_c, sc_r, sc_f, sc_a, sc_k, pp_in, pp_al, ↓reduceIte, Nat.reduceEqDiff, Nat.reduceLT, Nat.reduceLeDiff, Nat.reduceAdd, Nat.reduceSub, Nat.reduceMul, List.length_cons, List.length_nil, true_and, and_true, and_self, true_implies, eq_self, not_true_eq_false, not_false_eq_true, false_implies, implies_true, false_and, and_false, Bool.false_eq_true, or_true, true_or, or_false, false_or, Classical.not_not, Nat.le_refl, Nat.lt_irrefl, Bool.true_eq_false, n_lit, n_a, n_c, n_s, n_b, n_m, n_g, n_w, n_n, rk_X8_parse, sg_L_law_2211, rk_L_law _ rfl]
  exact rfl
theorem pp_ins_in (i : Nat) (v : Value) (L : List (Nat × Value)) : ∀ q ∈ (i, v) :: L, q ∈ pp_ins i v L := by
  induction L with
  | nil => intro q hq; exact hq
  | cons a L ih =>
    intro q hq
    unfold pp_ins
    split
    · rcases List.mem_cons.mp hq with rfl | h
      · exact List.mem_cons_of_mem _ (ih _ List.mem_cons_self)
      · rcases List.mem_cons.mp h with rfl | h
        · exact List.mem_cons_self
        · exact List.mem_cons_of_mem _ (ih _ (List.mem_cons_of_mem _ h))
    · exact hq
theorem l_loc {L : List (Nat × Value)} (h : ∀ q ∈ lL i, q ∈ L) : ∀ q ∈ lL (i + 6), q ∈ pp_put1 4 (.int (Int32.ofNat i + 6)) L := by
  have e : Int32.ofNat i + 6 = Int32.ofNat (i + 6) := n_a.1 i 6
  intro q hq
  unfold pp_put1
  apply pp_ins_in
  rw [e]
  simp only [lL, List.mem_cons, List.not_mem_nil, or_false] at hq
  rcases hq with rfl | rfl | rfl | rfl | rfl
  · exact List.mem_cons_of_mem _ (List.mem_filter.mpr ⟨h _ (by simp), by decide⟩)
  · exact List.mem_cons_of_mem _ (List.mem_filter.mpr ⟨h _ (by simp), by decide⟩)
  · exact List.mem_cons_of_mem _ (List.mem_filter.mpr ⟨h _ (by simp), by decide⟩)
  · exact List.mem_cons_of_mem _ (List.mem_filter.mpr ⟨h _ (by simp), by decide⟩)
  · exact List.mem_cons_self
/-- the loop: every six numbers, one call on both sides -/
theorem l_loop (hL : pp_sL g ≤ 3072) : ∀ (f j : Nat) (A : AS) (sh : List (Nat × Nat)) (I : Nat → Nat → Int32) (J : Nat → Nat → Int64) (R : Nat → Nat → Option Nat), f + j = 512 → 6 * j ≤ pp_sL g → LI j A sh I J R → lwN g b j 23 (lL (6 * j)) [] (sh, I, J, R) := by
  intro f
  induction f with
  | zero =>
    intro j A sh I J R hf hi hI
    exact l_stop (by omega) hi hL (by omega)
  | succ f ih =>
    intro j A sh I J R hf hi hI
    by_cases c : 6 * j + 6 ≤ pp_sL g
    · refine l_step hI c hL (by omega) (by omega) (fun A' sh' I' J' R' L h1 h2 h3 => ?_)
      refine l_back h3 ?_
      exact pp_ATc.sub (ih (j + 1) A' sh' I' J' R' (by omega) (by omega) h1) (by rw [show 6 * (j + 1) = 6 * j + 6 by omega]; exact l_loc h2)
    · exact l_stop (by omega) hi hL (by omega)
end
