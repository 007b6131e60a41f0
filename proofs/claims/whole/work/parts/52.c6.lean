/-! THE CLASS, 6: ledgers -/
set_option maxHeartbeats 4000000
set_option maxRecDepth 100000
theorem cpy_0 {α : Type} (f f' : Nat → α) {n i : Nat} (h : i < n) : va_cpy f f' 0 0 n i = f i := by
  rw [va_cpy, if_pos (by omega), show 0 + (i - 0) = i by omega]
/-- apart: ten cells of two ledgers -/
theorem lg_ap {L M : Nat} (h : L + 10 ≤ M ∨ M + 10 ≤ L) : (∀ i j, i < 10 → j < 10 → (M + j = L + i) = False) ∧ (∀ i, i < 10 → (M = L + i) = False) ∧ (∀ j, j < 10 → (M + j = L) = False) ∧ (M = L) = False ∧ (∀ i j, (i = j) = False → (L + i = L + j) = False) ∧ (∀ j, 0 < j → (L = L + j) = False) ∧ (∀ j, 0 < j → (L + j = L) = False) := by
  refine ⟨fun i j a b => eq_false (by omega), fun i a => eq_false (by omega), fun j a => eq_false (by omega), eq_false (by omega), fun i j a => eq_false (fun e => ?_), fun j a => eq_false (by omega), fun j a => eq_false (by omega)⟩
  have z : i = j := by omega
  rw [a] at z
  exact z
section
variable {g : pp_G} {h : Nat} {sh : List (Nat × Nat)} {I : Nat → Nat → Int32} {J : Nat → Nat → Int64} {R : Nat → Nat → Option Nat} {w : pp_W} {P : pp_R → pp_W → Prop} {G : LG} {T : TM} {n : Nat} {A : AS}
theorem c_copyFrom {L M : Nat} (hL : sLg sh R L) (hM : sLg sh R M) (ap : L + 10 ≤ M ∨ M + 10 ≤ L) (hG : cL I J M G) (hP : ∀ I' J', (∀ a, a < L ∨ L + 10 ≤ a → I' a = I a ∧ J' a = J a) → cL I' J' L G → P (.inl none) (sh, I', J', R)) : pp_MW g (h + 1) mi_X4_copyFrom [.ref L, .ref M] (sh, I, J, R) P := by
  refine pp_st0 [(0, .ref L), (1, .ref M)] ok_X4_copyFrom rfl (Nat.le_of_ble_eq_true rfl) rfl ?_
  have f := lg_ap ap
  refine pp_go rfl sk_X4_copyFrom_0 ?_
  simp only [sg_X4_copyFrom_0, sw_c, sw_n, sx, sf_4, sv_i, sv_j, sv_r, sv_q1, sv_q0, sv_1i, sv_1r, sv_2, sl_i, sl_j, sl_a, sl_v, sp_p, sp_f1, sp_f2, sc_w, sc_c, sc_r, sc_f, sc_a, sc_k, pp_in, pp_al, ↓reduceIte, Nat.reduceEqDiff, Nat.reduceLT, Nat.reduceLeDiff, Nat.reduceAdd, Nat.reduceSub, Nat.reduceMul, List.length_cons, List.length_nil, true_and, and_true, and_self, true_implies, eq_self, not_true_eq_false, not_false_eq_true, false_implies, implies_true, false_and, and_false, Bool.false_eq_true, or_true, true_or, or_false, false_or, Classical.not_not, Nat.le_refl, Nat.lt_irrefl, Bool.true_eq_false, n_lit, n_a, n_c, n_s, n_b, n_m, n_g, n_w, n_n, hL, hM, f, Option.map_some, List.length_nil, Nat.zero_le, Nat.zero_add]
  refine hP _ _ (fun a ha => ⟨?_, ?_⟩) ?_
  · simp only [n_m]
    repeat rw [if_neg (by omega)]
  · simp only [n_m]
    repeat rw [if_neg (by omega)]
  · obtain ⟨g0, g1, g2, g4, g11, g14, g15, g16, g17, g18, a1, a2, a3, a4, a5, a6, a7, a8, a9⟩ := hG
    refine ⟨?_, ?_, ?_, ?_, ?_, ?_, ?_, ?_, ?_, ?_, fun m hm => ?_, fun m hm => ?_, fun m hm => ?_, fun m hm => ?_, fun m hm => ?_, fun m hm => ?_, fun m hm => ?_, fun m hm => ?_, fun m hm => ?_⟩ <;> simp only [n_m, f, ↓reduceIte, Nat.reduceEqDiff, Nat.reduceLT]
    · exact g0
    · exact g1
    · exact g2
    · exact g4
    · exact g11
    · exact g14
    · exact g15
    · exact g16
    · exact g17
    · exact g18
    · rw [cpy_0 _ _ hm]; exact a1 m hm
    · rw [cpy_0 _ _ hm]; exact a2 m hm
    · rw [cpy_0 _ _ hm]; exact a3 m hm
    · rw [cpy_0 _ _ hm]; exact a4 m hm
    · rw [cpy_0 _ _ hm]; exact a5 m hm
    · rw [cpy_0 _ _ hm]; exact a6 m hm
    · rw [cpy_0 _ _ hm]; exact a7 m hm
    · rw [cpy_0 _ _ hm]; exact a8 m hm
    · rw [cpy_0 _ _ hm]; exact a9 m hm
end
