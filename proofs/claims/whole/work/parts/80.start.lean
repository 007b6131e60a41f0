/-! THE LAW: its start -/
set_option maxHeartbeats 4000000
set_option maxRecDepth 100000
section
variable {g : pp_G} {b : Addr} {I : Nat → Nat → Int32} {J : Nat → Nat → Int64} {R : Nat → Nat → Option Nat}
theorem gd_0 : gd 0 A00 := ⟨by have := wfL_D (n := 0) D00_g; rw [dG_00] at this; exact this, wfT_D D00_g, Nat.zero_le _, fun i hi => absurd hi (Nat.not_lt_zero i), fun s G hs e => by cases e⟩
theorem RC_0 {sh sh' : List (Nat × Nat)} {I I' : Nat → Nat → Int32} {J J' : Nat → Nat → Int64} {R R' : Nat → Nat → Option Nat} (h : RC A00 sh I J R) (hn : ∀ k, R 119 k = none) (f : ∀ a, a < 121 → I' a = I a ∧ J' a = J a ∧ R' a = R a) : RC A00 sh' I' J' R' := by
  obtain ⟨h1, h2, h3, h4, h5, h6, h7, h8, h9⟩ := h
  have hs : ∀ s, s < 2 → R' 120 s = none := fun s hs => by
    rw [(f 120 (by omega)).2.2]
    rcases h8 s hs with ⟨_, q⟩ | ⟨L, G, _, q, _⟩
    · exact q
    · cases q
  have he : ∀ k, k < 12 → ent R' k = none := fun k hk => by
    unfold ent
    split
    · rw [(f 119 (by omega)).2.2]; exact hn k
    · exact hs _ (by omega)
  refine ⟨cL_cg (L := 102) h1 (fun a x y => (f a (by omega)).1) (fun a x y => (f a (by omega)).2.1), cT_cg h2 (fun a x y => (f a (by omega)).1), ?_, ?_, ?_, ⟨fun k hk L hL => ?_, fun k k' hk hk' ne L L' hL => ?_⟩, ?_, fun s hs' => Or.inl ⟨rfl, hs s hs'⟩, cL_cg (L := 84) h9 (fun a x y => (f a (by omega)).1) (fun a x y => (f a (by omega)).2.1)⟩
  · rw [(f 65 (by omega)).1]; exact h3
  · rw [(f 64 (by omega)).1]; exact h4
  · rw [(f 64 (by omega)).1]; exact h5
  · rw [he k hk] at hL; cases hL
  · rw [he k hk] at hL; cases hL
  · obtain ⟨nw, u1, u2, u3, u4, u5⟩ := h7
    exact ⟨nw, u1, by rw [(f 118 (by omega)).1]; exact u2, by rw [(f 118 (by omega)).1]; exact u3, u4, fun i hi => absurd hi (Nat.not_lt_zero i)⟩
theorem tk_141 : tk 141 = tk 121 ++ wsh.drop 121 := (List.take_append_drop 121 wsh).symm
theorem tk_1 : tk 141 = tk 140 ++ [(13, 1)] := rfl
theorem l_start (hL : pp_sL g ≤ 3072) : lwN g b 0 0 [(0, .ref 0)] [] (tk 64, I, J, R) := by
  refine l_go (Nat.zero_le _) sk_L_law_0 ?_
  simp only [sg_L_law_0, sw_c, sw_n, sx, sf_4, sv_i, sv_j, sv_r, sv_q1, sv_q0, sv_1i, sv_1r, sv_2, sl_i, sl_j, sl_a, sl_v, sp_p, sp_f1, sp_f2, sc_w, sc_c, sc_r, sc_f, sc_a, sc_k, pp_in, pp_al, ↓reduceIte, Nat.reduceEqDiff, Nat.reduceLT, Nat.reduceLeDiff, Nat.reduceAdd, Nat.reduceSub, Nat.reduceMul, List.length_cons, List.length_nil, true_and, and_true, and_self, true_implies, eq_self, not_true_eq_false, not_false_eq_true, false_implies, implies_true, false_and, and_false, Bool.false_eq_true, or_true, true_or, or_false, false_or, Classical.not_not, Nat.le_refl, Nat.lt_irrefl, Bool.true_eq_false, n_lit, n_a, n_c, n_s, n_b, n_m, n_g, n_w, n_n, pp_nw, tk_len, tk_get, wg, ta]
  refine k_C (fun I1 J1 R1 c1 c2 c3 => ?_)
  simp only [sw_c, sw_n, sx, sf_4, sv_i, sv_j, sv_r, sv_q1, sv_q0, sv_1i, sv_1r, sv_2, sl_i, sl_j, sl_a, sl_v, sp_p, sp_f1, sp_f2, sc_w, sc_c, sc_r, sc_f, sc_a, sc_k, pp_in, pp_al, ↓reduceIte, Nat.reduceEqDiff, Nat.reduceLT, Nat.reduceLeDiff, Nat.reduceAdd, Nat.reduceSub, Nat.reduceMul, List.length_cons, List.length_nil, true_and, and_true, and_self, true_implies, eq_self, not_true_eq_false, not_false_eq_true, false_implies, implies_true, false_and, and_false, Bool.false_eq_true, or_true, true_or, or_false, false_or, Classical.not_not, Nat.le_refl, Nat.lt_irrefl, Bool.true_eq_false, n_lit, n_a, n_c, n_s, n_b, n_m, n_g, n_w, n_n, pp_nw, tk_len, tk_get, wg, ta]
  refine k_M (by simp only [n_m, ↓reduceIte]) (fun I2 J2 R2 f m1 m2 => ?_)
  simp only [sw_c, sw_n, sx, sf_4, sv_i, sv_j, sv_r, sv_q1, sv_q0, sv_1i, sv_1r, sv_2, sl_i, sl_j, sl_a, sl_v, sp_p, sp_f1, sp_f2, sc_w, sc_c, sc_r, sc_f, sc_a, sc_k, pp_in, pp_al, ↓reduceIte, Nat.reduceEqDiff, Nat.reduceLT, Nat.reduceLeDiff, Nat.reduceAdd, Nat.reduceSub, Nat.reduceMul, List.length_cons, List.length_nil, true_and, and_true, and_self, true_implies, eq_self, not_true_eq_false, not_false_eq_true, false_implies, implies_true, false_and, and_false, Bool.false_eq_true, or_true, true_or, or_false, false_or, Classical.not_not, Nat.le_refl, Nat.lt_irrefl, Bool.true_eq_false, n_lit, n_a, n_c, n_s, n_b, n_m, n_g, n_w, n_n, pp_nw, tk_len, tk_get, wg, ta]
  have fr : ∀ a, a < 121 → pp_s I2 140 (fun _ => Int32.ofNat 0) a = I1 a ∧ pp_s J2 140 (fun _ => Int64.ofNat 0) a = J1 a ∧ pp_s R2 140 (fun _ => none) a = R1 a := fun a ha => by
    refine ⟨?_, ?_, ?_⟩
    · rw [pp_s_ne _ _ (by omega), (f a ha).1, pp_s_ne _ _ (by omega)]
    · rw [pp_s_ne _ _ (by omega), (f a ha).2.1, pp_s_ne _ _ (by omega)]
    · rw [pp_s_ne _ _ (by omega), (f a ha).2.2, pp_s_ne _ _ (by omega)]
  refine l_loop hL 512 0 A00 _ _ _ _ rfl (Nat.zero_le _) ⟨?_, RC_0 c2 c3 fr, ?_, RM_K m2 (fun a x y => ⟨pp_s_ne _ _ (by omega), pp_s_ne _ _ (by omega)⟩), ?_, ?_, gd_0⟩
  · rw [tk_141]
    exact sC_cg c1 (fun a ha => (fr a (by omega)).2.2)
  · rw [tk_1]
    exact sM_cg m1 (pp_s_ne _ _ (by omega))
  · rw [tk_len (by omega)]
    omega
  · rw [tk_get (by omega)]
    rfl
end
