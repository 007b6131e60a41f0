/-! THE CLASS, 7: a new ledger -/
set_option maxHeartbeats 4000000
set_option maxRecDepth 100000
abbrev ls9 : List (Nat × Nat) := [(10, 8), (10, 16), (10, 16), (10, 64), (10, 64), (10, 24), (13, 6), (13, 8), (13, 8)]
abbrev G00 : LG := (fun _ => 0, fun _ => Int64.ofNat 0)
theorem gR {sh l : List (Nat × Nat)} {L j : Nat} (hn : sh.length = L + 1) : (sh ++ l)[L + (j + 1)]? = l[j]? := by
  rw [List.getElem?_append_right (by omega), show L + (j + 1) - sh.length = j by omega]
theorem sh9 {sh : List (Nat × Nat)} {L : Nat} (hn : sh.length = L + 1) (h4 : sh[L]? = some (4, 0)) : (sh ++ ls9)[L]? = some (4, 0) := by
  rw [List.getElem?_append_left (by omega)]; exact h4
section
variable {g : pp_G} {h : Nat} {sh : List (Nat × Nat)} {I : Nat → Nat → Int32} {J : Nat → Nat → Int64} {R : Nat → Nat → Option Nat} {w : pp_W} {P : pp_R → pp_W → Prop} {G : LG} {T : TM} {n : Nat} {A : AS}
theorem c_Linit {L : Nat} (hn : sh.length = L + 1) (h4 : sh[L]? = some (4, 0)) (z1 : I L = fun _ => Int32.ofNat 0) (z2 : J L = fun _ => Int64.ofNat 0) (hP : ∀ I' J' R', sLg (sh ++ ls9) R' L → cL I' J' L G00 → (∀ a, a < L → I' a = I a ∧ J' a = J a ∧ R' a = R a) → P (.inl none) (sh ++ ls9, I', J', R')) : pp_MW g (h + 1) mi_X4_init [.ref L] (sh, I, J, R) P := by
  refine pp_st0 [(0, .ref L)] ok_X4_init rfl (Nat.le_of_ble_eq_true rfl) rfl ?_
  have f := lg_ap (L := L) (M := L + 10) (Or.inl (Nat.le_refl _))
  have k1 : (sh ++ [(10, 8)]).length = L + 2 := by simp [hn]
  have e1 : (sh ++ [(10, 8)])[L]? = some (4, 0) := by rw [List.getElem?_append_left (by omega)]; exact h4
  have k2 : (sh ++ [(10, 8)] ++ [(10, 16)]).length = L + 3 := by simp [hn]
  have e2 : (sh ++ [(10, 8)] ++ [(10, 16)])[L]? = some (4, 0) := by rw [List.getElem?_append_left (by rw [k1]; omega)]; exact e1
  have k3 : (sh ++ [(10, 8)] ++ [(10, 16)] ++ [(10, 16)]).length = L + 4 := by simp [hn]
  have e3 : (sh ++ [(10, 8)] ++ [(10, 16)] ++ [(10, 16)])[L]? = some (4, 0) := by rw [List.getElem?_append_left (by rw [k2]; omega)]; exact e2
  have k4 : (sh ++ [(10, 8)] ++ [(10, 16)] ++ [(10, 16)] ++ [(10, 64)]).length = L + 5 := by simp [hn]
  have e4 : (sh ++ [(10, 8)] ++ [(10, 16)] ++ [(10, 16)] ++ [(10, 64)])[L]? = some (4, 0) := by rw [List.getElem?_append_left (by rw [k3]; omega)]; exact e3
  have k5 : (sh ++ [(10, 8)] ++ [(10, 16)] ++ [(10, 16)] ++ [(10, 64)] ++ [(10, 64)]).length = L + 6 := by simp [hn]
  have e5 : (sh ++ [(10, 8)] ++ [(10, 16)] ++ [(10, 16)] ++ [(10, 64)] ++ [(10, 64)])[L]? = some (4, 0) := by rw [List.getElem?_append_left (by rw [k4]; omega)]; exact e4
  have k6 : (sh ++ [(10, 8)] ++ [(10, 16)] ++ [(10, 16)] ++ [(10, 64)] ++ [(10, 64)] ++ [(10, 24)]).length = L + 7 := by simp [hn]
  have e6 : (sh ++ [(10, 8)] ++ [(10, 16)] ++ [(10, 16)] ++ [(10, 64)] ++ [(10, 64)] ++ [(10, 24)])[L]? = some (4, 0) := by rw [List.getElem?_append_left (by rw [k5]; omega)]; exact e5
  have k7 : (sh ++ [(10, 8)] ++ [(10, 16)] ++ [(10, 16)] ++ [(10, 64)] ++ [(10, 64)] ++ [(10, 24)] ++ [(13, 6)]).length = L + 8 := by simp [hn]
  have e7 : (sh ++ [(10, 8)] ++ [(10, 16)] ++ [(10, 16)] ++ [(10, 64)] ++ [(10, 64)] ++ [(10, 24)] ++ [(13, 6)])[L]? = some (4, 0) := by rw [List.getElem?_append_left (by rw [k6]; omega)]; exact e6
  have k8 : (sh ++ [(10, 8)] ++ [(10, 16)] ++ [(10, 16)] ++ [(10, 64)] ++ [(10, 64)] ++ [(10, 24)] ++ [(13, 6)] ++ [(13, 8)]).length = L + 9 := by simp [hn]
  have e8 : (sh ++ [(10, 8)] ++ [(10, 16)] ++ [(10, 16)] ++ [(10, 64)] ++ [(10, 64)] ++ [(10, 24)] ++ [(13, 6)] ++ [(13, 8)])[L]? = some (4, 0) := by rw [List.getElem?_append_left (by rw [k7]; omega)]; exact e7
  have k9 : (sh ++ [(10, 8)] ++ [(10, 16)] ++ [(10, 16)] ++ [(10, 64)] ++ [(10, 64)] ++ [(10, 24)] ++ [(13, 6)] ++ [(13, 8)] ++ [(13, 8)]).length = L + 10 := by simp [hn]
  have e9 : (sh ++ [(10, 8)] ++ [(10, 16)] ++ [(10, 16)] ++ [(10, 64)] ++ [(10, 64)] ++ [(10, 24)] ++ [(13, 6)] ++ [(13, 8)] ++ [(13, 8)])[L]? = some (4, 0) := by rw [List.getElem?_append_left (by rw [k8]; omega)]; exact e8
  refine pp_go rfl sk_X4_init_0 ?_
  simp only [sg_X4_init_0, sw_c, sw_n, sx, sf_4, sv_i, sv_j, sv_r, sv_q1, sv_q0, sv_1i, sv_1r, sv_2, sl_i, sl_j, sl_a, sl_v, sp_p, sp_f1, sp_f2, sc_w, sc_c, sc_r, sc_f, sc_a, sc_k, pp_in, pp_al, ↓reduceIte, Nat.reduceEqDiff, Nat.reduceLT, Nat.reduceLeDiff, Nat.reduceAdd, Nat.reduceSub, Nat.reduceMul, List.length_cons, List.length_nil, true_and, and_true, and_self, true_implies, eq_self, not_true_eq_false, not_false_eq_true, false_implies, implies_true, false_and, and_false, Bool.false_eq_true, or_true, true_or, or_false, false_or, Classical.not_not, Nat.le_refl, Nat.lt_irrefl, Bool.true_eq_false, n_lit, n_a, n_c, n_s, n_b, n_m, n_g, n_w, n_n, hn, h4, f, pp_nw, Nat.reduceLeDiff, Nat.zero_le, k1, e1, k2, e2, k3, e3, k4, e4, k5, e5, k6, e6, k7, e7, k8, e8, k9, e9]
  rw [show sh ++ [(10, 8)] ++ [(10, 16)] ++ [(10, 16)] ++ [(10, 64)] ++ [(10, 64)] ++ [(10, 24)] ++ [(13, 6)] ++ [(13, 8)] ++ [(13, 8)] = sh ++ ls9 by simp]
  refine hP _ _ _ ⟨sh9 hn h4, gR (j := 0) hn, gR (j := 1) hn, gR (j := 2) hn, gR (j := 3) hn, gR (j := 4) hn, gR (j := 5) hn, gR (j := 6) hn, gR (j := 7) hn, gR (j := 8) hn, ?_, ?_, ?_, ?_, ?_, ?_, ?_, ?_, ?_⟩ ?_ (fun a ha => ⟨?_, ?_, ?_⟩)
  all_goals (try (simp only [n_m, f, ↓reduceIte, Nat.reduceEqDiff, Nat.reduceLT]; done))
  · refine ⟨?_, ?_, ?_, ?_, ?_, ?_, ?_, ?_, ?_, ?_, fun m hm => ?_, fun m hm => ?_, fun m hm => ?_, fun m hm => ?_, fun m hm => ?_, fun m hm => ?_, fun m hm => ?_, fun m hm => ?_, fun m hm => ?_⟩ <;> simp only [n_m, f, ↓reduceIte, Nat.reduceEqDiff, Nat.reduceLT, z1, z2] <;> rfl
  · simp only [n_m]
    repeat rw [if_neg (by omega)]
  · simp only [n_m]
    repeat rw [if_neg (by omega)]
  · simp only [n_m]
    repeat rw [if_neg (by omega)]
end
