/-! BYTES: append -/
set_option maxHeartbeats 2000000
set_option maxRecDepth 100000
/-- byte k / 8 of four -/
def byt (v : Int32) (k : Nat) : Int8 := (v >>> Int32.ofNat (k &&& 31)).toInt8
theorem byt_u (v : Int32) (k : Nat) (hk : k = 24 ∨ k = 16 ∨ k = 8 ∨ k = 0) : (v.toUInt32 >>> ((Int32.ofNat k).toUInt32 &&& (Int32.ofNat 31).toUInt32)).toInt32.toInt8 = byt v k := by
  have e1 : ((v.toUInt32 >>> ((Int32.ofNat k).toUInt32 &&& (Int32.ofNat 31).toUInt32)).toInt32.toInt8).toBitVec = (v.toBitVec >>> k).signExtend 8 := by
    rcases hk with rfl | rfl | rfl | rfl <;> rfl
  have e2 : (byt v k).toBitVec = (v.toBitVec.sshiftRight k).signExtend 8 := by
    rcases hk with rfl | rfl | rfl | rfl <;> rfl
  apply Int8.toBitVec.inj
  rw [e1, e2]
  apply BitVec.eq_of_getLsbD_eq
  intro i hi
  rw [BitVec.getLsbD_signExtend, BitVec.getLsbD_signExtend]
  have a : k + i < 32 := by omega
  have c : i < 32 := by omega
  simp [BitVec.getLsbD_sshiftRight, BitVec.getLsbD_ushiftRight, BitVec.getElem_sshiftRight, a, c, hi]
def ap1 (B : Nat → Int8) (N : Nat) (v : Int32) : Nat → Int8 := va_up (va_up (va_up (va_up B N (byt v 24)) (N + 1) (byt v 16)) (N + 2) (byt v 8)) (N + 3) (byt v 0)
def ap5 (B : Nat → Int8) (N : Nat) (a b c d e : Int32) : Nat → Int8 := ap1 (ap1 (ap1 (ap1 (ap1 B N a) (N + 4) b) (N + 8) c) (N + 12) d) (N + 16) e
def o_append (A : AS) (a b c d e : Int32) : Int32 × AS := if aN A + 20 ≤ 700 then (Int32.ofNat (aN A + 20), (ap5 (aB A) (aN A) a b c d e, aN A + 20, aE A, aT A, aG A, aU A, aS A)) else (-1, A)
theorem n_m8 : (Int32.ofNat 24 + -Int32.ofNat 8 = Int32.ofNat 16) ∧ (Int32.ofNat 16 + -Int32.ofNat 8 = Int32.ofNat 8) ∧ (Int32.ofNat 8 + -Int32.ofNat 8 = Int32.ofNat 0) ∧ (Int32.ofNat 0 + -Int32.ofNat 8 < Int32.ofNat 0) := by decide
section
variable {g : pp_G} {h : Nat} {sh : List (Nat × Nat)} {I : Nat → Nat → Int32} {J : Nat → Nat → Int64} {R : Nat → Nat → Option Nat} {w : pp_W} {P : pp_R → pp_W → Prop} {A : AS} {n : Nat} {B : Nat → Int8}
theorem m_by_s {v : Int32} {k N : Nat} {s : Int32} (hM : sM sh R) (hk : k = 24 ∨ k = 16 ∨ k = 8 ∨ k = 0) (hs : Int32.ofNat k + -Int32.ofNat 8 = s) (hN : N < 700) (h10 : I 121 10 = Int32.ofNat N) (hB : ∀ i, i < 700 → I 130 i = (B i).toInt32)
    (K : ∀ I', (∀ a, a ≠ 121 → a ≠ 130 → I' a = I a) → (∀ j, j ≠ 10 → I' 121 j = I 121 j) → I' 121 10 = Int32.ofNat (N + 1) → (∀ i, i < 700 → I' 130 i = (va_up B N (byt v k) i).toInt32) → pp_N g h mi_X9_bytesOf P 3 [(0, .ref 121), (1, .int v), (2, .int s)] [] (sh, I', J, R)) :
    pp_N g h mi_X9_bytesOf P 3 [(0, .ref 121), (1, .int v), (2, .int (Int32.ofNat k))] [] (sh, I, J, R) := by
  have q : ¬ k < 0 := by omega
  refine pp_go rfl sk_X9_bytesOf_3 ?_
  simp (disch := omega) only [sg_X9_bytesOf_3, sw_c, sw_n, sx, sf_4, sv_i, sv_j, sv_r, sv_q1, sv_q0, sv_1i, sv_1r, sv_2, sl_i, sl_j, sl_a, sl_v, sp_p, sp_f1, sp_f2, sc_w, sc_c, sc_r, sc_f, sc_a, sc_k, pp_in, pp_al, ↓reduceIte, Nat.reduceEqDiff, Nat.reduceLT, Nat.reduceLeDiff, Nat.reduceAdd, Nat.reduceSub, Nat.reduceMul, List.length_cons, List.length_nil, true_and, and_true, and_self, true_implies, eq_self, not_true_eq_false, not_false_eq_true, false_implies, implies_true, false_and, and_false, Bool.false_eq_true, or_true, true_or, or_false, false_or, Classical.not_not, Nat.le_refl, Nat.lt_irrefl, Bool.true_eq_false, n_lit, n_a, n_c, n_s, n_b, n_m, n_g, n_w, n_n, hM, h10, q, hs]
  refine K _ (fun a x y => ?_) (fun j hj => ?_) ?_ (fun i hi => ?_)
  · simp only [n_m]; rw [if_neg x, if_neg y]
  · simp only [n_m, ↓reduceIte, Nat.reduceEqDiff]; rw [if_neg hj]
  · simp only [n_m, ↓reduceIte]
  · simp only [n_m, ↓reduceIte, Nat.reduceEqDiff]
    by_cases e : i = N
    · rw [if_pos e, if_pos e, byt]; simp
    · rw [if_neg e, if_neg e]; exact hB i hi
theorem m_bytesOf {v : Int32} {N : Nat} (hM : sM sh R) (hN : N + 4 ≤ 700) (h10 : I 121 10 = Int32.ofNat N) (hB : ∀ i, i < 700 → I 130 i = (B i).toInt32)
    (hP : ∀ I', (∀ a, a ≠ 121 → a ≠ 130 → I' a = I a) → (∀ j, j ≠ 10 → I' 121 j = I 121 j) → I' 121 10 = Int32.ofNat (N + 4) → (∀ i, i < 700 → I' 130 i = (ap1 B N v i).toInt32) → P (.inl none) (sh, I', J, R)) : pp_MW g (h + 1) mi_X9_bytesOf [.ref 121, .int v] (sh, I, J, R) P := by
  refine pp_st0 [(0, .ref 121), (1, .int v)] ok_X9_bytesOf rfl (Nat.le_of_ble_eq_true rfl) rfl ?_
  refine pp_go rfl sk_X9_bytesOf_0 ?_
  simp (disch := omega) only [sg_X9_bytesOf_0, sw_c, sw_n, sx, sf_4, sv_i, sv_j, sv_r, sv_q1, sv_q0, sv_1i, sv_1r, sv_2, sl_i, sl_j, sl_a, sl_v, sp_p, sp_f1, sp_f2, sc_w, sc_c, sc_r, sc_f, sc_a, sc_k, pp_in, pp_al, ↓reduceIte, Nat.reduceEqDiff, Nat.reduceLT, Nat.reduceLeDiff, Nat.reduceAdd, Nat.reduceSub, Nat.reduceMul, List.length_cons, List.length_nil, true_and, and_true, and_self, true_implies, eq_self, not_true_eq_false, not_false_eq_true, false_implies, implies_true, false_and, and_false, Bool.false_eq_true, or_true, true_or, or_false, false_or, Classical.not_not, Nat.le_refl, Nat.lt_irrefl, Bool.true_eq_false, n_lit, n_a, n_c, n_s, n_b, n_m, n_g, n_w, n_n]
  refine m_by_s (k := 24) (N := N) hM (by omega) n_m8.1 (by omega) h10 hB (fun I1 a1 b1 c1 d1 => ?_)
  refine m_by_s (k := 16) (N := N + 1) hM (by omega) n_m8.2.1 (by omega) c1 d1 (fun I2 a2 b2 c2 d2 => ?_)
  refine m_by_s (k := 8) (N := N + 2) hM (by omega) n_m8.2.2.1 (by omega) c2 d2 (fun I3 a3 b3 c3 d3 => ?_)
  refine m_by_s (k := 0) (N := N + 3) hM (by omega) rfl (by omega) c3 d3 (fun I4 a4 b4 c4 d4 => ?_)
  refine pp_go rfl sk_X9_bytesOf_3 ?_
  simp (disch := omega) only [sg_X9_bytesOf_3, sw_c, sw_n, sx, sf_4, sv_i, sv_j, sv_r, sv_q1, sv_q0, sv_1i, sv_1r, sv_2, sl_i, sl_j, sl_a, sl_v, sp_p, sp_f1, sp_f2, sc_w, sc_c, sc_r, sc_f, sc_a, sc_k, pp_in, pp_al, ↓reduceIte, Nat.reduceEqDiff, Nat.reduceLT, Nat.reduceLeDiff, Nat.reduceAdd, Nat.reduceSub, Nat.reduceMul, List.length_cons, List.length_nil, true_and, and_true, and_self, true_implies, eq_self, not_true_eq_false, not_false_eq_true, false_implies, implies_true, false_and, and_false, Bool.false_eq_true, or_true, true_or, or_false, false_or, Classical.not_not, Nat.le_refl, Nat.lt_irrefl, Bool.true_eq_false, n_lit, n_a, n_c, n_s, n_b, n_m, n_g, n_w, n_n, n_m8]
  refine pp_go rfl sk_X9_bytesOf_36 ?_
  simp (disch := omega) only [sg_X9_bytesOf_36, sw_c, sw_n, sx, sf_4, sv_i, sv_j, sv_r, sv_q1, sv_q0, sv_1i, sv_1r, sv_2, sl_i, sl_j, sl_a, sl_v, sp_p, sp_f1, sp_f2, sc_w, sc_c, sc_r, sc_f, sc_a, sc_k, pp_in, pp_al, ↓reduceIte, Nat.reduceEqDiff, Nat.reduceLT, Nat.reduceLeDiff, Nat.reduceAdd, Nat.reduceSub, Nat.reduceMul, List.length_cons, List.length_nil, true_and, and_true, and_self, true_implies, eq_self, not_true_eq_false, not_false_eq_true, false_implies, implies_true, false_and, and_false, Bool.false_eq_true, or_true, true_or, or_false, false_or, Classical.not_not, Nat.le_refl, Nat.lt_irrefl, Bool.true_eq_false, n_lit, n_a, n_c, n_s, n_b, n_m, n_g, n_w, n_n]
  exact hP I4 (fun a x y => by rw [a4 a x y, a3 a x y, a2 a x y, a1 a x y]) (fun j hj => by rw [b4 j hj, b3 j hj, b2 j hj, b1 j hj]) c4 d4
theorem m_append {a b c d e : Int32} (hM : sM sh R) (hA : RM A I J) (hN : aN A ≤ 700) (hP : ∀ I', RM (o_append A a b c d e).2 I' J → fO I I' J J → P (.inl (some (.int (o_append A a b c d e).1))) (sh, I', J, R)) : pp_MW g (h + 2) mi_X9_append [.ref 121, .int a, .int b, .int c, .int d, .int e] (sh, I, J, R) P := by
  refine pp_st0 [(0, .ref 121), (1, .int a), (2, .int b), (3, .int c), (4, .int d), (5, .int e)] ok_X9_append rfl (Nat.le_of_ble_eq_true rfl) rfl ?_
  have hA0 := hA
  obtain ⟨r1, r2, r3, r4, r5, r6, r7⟩ := hA
  by_cases q : aN A + 20 ≤ 700
  · simp only [o_append, if_pos q] at hP
    refine pp_go rfl sk_X9_append_0 ?_
    simp (disch := omega) only [sg_X9_append_0, sw_c, sw_n, sx, sf_4, sv_i, sv_j, sv_r, sv_q1, sv_q0, sv_1i, sv_1r, sv_2, sl_i, sl_j, sl_a, sl_v, sp_p, sp_f1, sp_f2, sc_w, sc_c, sc_r, sc_f, sc_a, sc_k, pp_in, pp_al, ↓reduceIte, Nat.reduceEqDiff, Nat.reduceLT, Nat.reduceLeDiff, Nat.reduceAdd, Nat.reduceSub, Nat.reduceMul, List.length_cons, List.length_nil, true_and, and_true, and_self, true_implies, eq_self, not_true_eq_false, not_false_eq_true, false_implies, implies_true, false_and, and_false, Bool.false_eq_true, or_true, true_or, or_false, false_or, Classical.not_not, Nat.le_refl, Nat.lt_irrefl, Bool.true_eq_false, n_lit, n_a, n_c, n_s, n_b, n_m, n_g, n_w, n_n, rk_X9_append, hM, r4, q]
    have z := RM_tI (x := 0) hA0
    refine pp_go rfl sk_X9_append_20 ?_
    simp (disch := omega) only [sg_X9_append_20, sw_c, sw_n, sx, sf_4, sv_i, sv_j, sv_r, sv_q1, sv_q0, sv_1i, sv_1r, sv_2, sl_i, sl_j, sl_a, sl_v, sp_p, sp_f1, sp_f2, sc_w, sc_c, sc_r, sc_f, sc_a, sc_k, pp_in, pp_al, ↓reduceIte, Nat.reduceEqDiff, Nat.reduceLT, Nat.reduceLeDiff, Nat.reduceAdd, Nat.reduceSub, Nat.reduceMul, List.length_cons, List.length_nil, true_and, and_true, and_self, true_implies, eq_self, not_true_eq_false, not_false_eq_true, false_implies, implies_true, false_and, and_false, Bool.false_eq_true, or_true, true_or, or_false, false_or, Classical.not_not, Nat.le_refl, Nat.lt_irrefl, Bool.true_eq_false, n_lit, n_a, n_c, n_s, n_b, n_m, n_g, n_w, n_n, rk_X9_append, hM]
    refine m_bytesOf (N := aN A) hM (by omega) z.1.2.2.2.1 z.1.2.2.1 (fun I1 a1 b1 c1 d1 => ?_)
    simp (disch := omega) only [sw_c, sw_n, sx, sf_4, sv_i, sv_j, sv_r, sv_q1, sv_q0, sv_1i, sv_1r, sv_2, sl_i, sl_j, sl_a, sl_v, sp_p, sp_f1, sp_f2, sc_w, sc_c, sc_r, sc_f, sc_a, sc_k, pp_in, pp_al, ↓reduceIte, Nat.reduceEqDiff, Nat.reduceLT, Nat.reduceLeDiff, Nat.reduceAdd, Nat.reduceSub, Nat.reduceMul, List.length_cons, List.length_nil, true_and, and_true, and_self, true_implies, eq_self, not_true_eq_false, not_false_eq_true, false_implies, implies_true, false_and, and_false, Bool.false_eq_true, or_true, true_or, or_false, false_or, Classical.not_not, Nat.le_refl, Nat.lt_irrefl, Bool.true_eq_false, n_lit, n_a, n_c, n_s, n_b, n_m, n_g, n_w, n_n, rk_X9_append, hM]
    refine m_bytesOf (N := aN A + 4) hM (by omega) c1 d1 (fun I2 a2 b2 c2 d2 => ?_)
    simp (disch := omega) only [sw_c, sw_n, sx, sf_4, sv_i, sv_j, sv_r, sv_q1, sv_q0, sv_1i, sv_1r, sv_2, sl_i, sl_j, sl_a, sl_v, sp_p, sp_f1, sp_f2, sc_w, sc_c, sc_r, sc_f, sc_a, sc_k, pp_in, pp_al, ↓reduceIte, Nat.reduceEqDiff, Nat.reduceLT, Nat.reduceLeDiff, Nat.reduceAdd, Nat.reduceSub, Nat.reduceMul, List.length_cons, List.length_nil, true_and, and_true, and_self, true_implies, eq_self, not_true_eq_false, not_false_eq_true, false_implies, implies_true, false_and, and_false, Bool.false_eq_true, or_true, true_or, or_false, false_or, Classical.not_not, Nat.le_refl, Nat.lt_irrefl, Bool.true_eq_false, n_lit, n_a, n_c, n_s, n_b, n_m, n_g, n_w, n_n, rk_X9_append, hM]
    refine m_bytesOf (N := aN A + 8) hM (by omega) c2 d2 (fun I3 a3 b3 c3 d3 => ?_)
    simp (disch := omega) only [sw_c, sw_n, sx, sf_4, sv_i, sv_j, sv_r, sv_q1, sv_q0, sv_1i, sv_1r, sv_2, sl_i, sl_j, sl_a, sl_v, sp_p, sp_f1, sp_f2, sc_w, sc_c, sc_r, sc_f, sc_a, sc_k, pp_in, pp_al, ↓reduceIte, Nat.reduceEqDiff, Nat.reduceLT, Nat.reduceLeDiff, Nat.reduceAdd, Nat.reduceSub, Nat.reduceMul, List.length_cons, List.length_nil, true_and, and_true, and_self, true_implies, eq_self, not_true_eq_false, not_false_eq_true, false_implies, implies_true, false_and, and_false, Bool.false_eq_true, or_true, true_or, or_false, false_or, Classical.not_not, Nat.le_refl, Nat.lt_irrefl, Bool.true_eq_false, n_lit, n_a, n_c, n_s, n_b, n_m, n_g, n_w, n_n, rk_X9_append, hM]
    refine m_bytesOf (N := aN A + 12) hM (by omega) c3 d3 (fun I4 a4 b4 c4 d4 => ?_)
    simp (disch := omega) only [sw_c, sw_n, sx, sf_4, sv_i, sv_j, sv_r, sv_q1, sv_q0, sv_1i, sv_1r, sv_2, sl_i, sl_j, sl_a, sl_v, sp_p, sp_f1, sp_f2, sc_w, sc_c, sc_r, sc_f, sc_a, sc_k, pp_in, pp_al, ↓reduceIte, Nat.reduceEqDiff, Nat.reduceLT, Nat.reduceLeDiff, Nat.reduceAdd, Nat.reduceSub, Nat.reduceMul, List.length_cons, List.length_nil, true_and, and_true, and_self, true_implies, eq_self, not_true_eq_false, not_false_eq_true, false_implies, implies_true, false_and, and_false, Bool.false_eq_true, or_true, true_or, or_false, false_or, Classical.not_not, Nat.le_refl, Nat.lt_irrefl, Bool.true_eq_false, n_lit, n_a, n_c, n_s, n_b, n_m, n_g, n_w, n_n, rk_X9_append, hM]
    refine m_bytesOf (N := aN A + 16) hM (by omega) c4 d4 (fun I5 a5 b5 c5 d5 => ?_)
    simp (disch := omega) only [sw_c, sw_n, sx, sf_4, sv_i, sv_j, sv_r, sv_q1, sv_q0, sv_1i, sv_1r, sv_2, sl_i, sl_j, sl_a, sl_v, sp_p, sp_f1, sp_f2, sc_w, sc_c, sc_r, sc_f, sc_a, sc_k, pp_in, pp_al, ↓reduceIte, Nat.reduceEqDiff, Nat.reduceLT, Nat.reduceLeDiff, Nat.reduceAdd, Nat.reduceSub, Nat.reduceMul, List.length_cons, List.length_nil, true_and, and_true, and_self, true_implies, eq_self, not_true_eq_false, not_false_eq_true, false_implies, implies_true, false_and, and_false, Bool.false_eq_true, or_true, true_or, or_false, false_or, Classical.not_not, Nat.le_refl, Nat.lt_irrefl, Bool.true_eq_false, n_lit, n_a, n_c, n_s, n_b, n_m, n_g, n_w, n_n, rk_X9_append, hM, c5]
    have fa : ∀ a, a ≠ 121 → a ≠ 130 → I5 a = I a := fun a x y => by rw [a5 a x y, a4 a x y, a3 a x y, a2 a x y, a1 a x y, pp_s_ne _ _ x]
    have fb : ∀ j, j ≠ 10 → j ≠ 0 → I5 121 j = I 121 j := fun j x y => by rw [b5 j x, b4 j x, b3 j x, b2 j x, b1 j x]; simp only [n_m, ↓reduceIte]; rw [if_neg y]
    refine hP I5 ⟨r1, mT_fr r2 (fun a x y => fa a (by omega) (by omega)), d5, c5, ?_, ⟨?_, r6.2⟩, fun s hs => ⟨?_, (r7 s hs).2⟩⟩ (fun a x => ⟨fa a (by omega) (by omega), rfl⟩)
    · rw [fb 17 (by omega) (by omega)]; exact r5
    · rw [fb 27 (by omega) (by omega)]; exact r6.1
    · rw [fa 139 (by omega) (by omega)]; exact (r7 s hs).1
  · simp only [o_append, if_neg q] at hP
    refine pp_go rfl sk_X9_append_0 ?_
    simp (disch := omega) only [sg_X9_append_0, sw_c, sw_n, sx, sf_4, sv_i, sv_j, sv_r, sv_q1, sv_q0, sv_1i, sv_1r, sv_2, sl_i, sl_j, sl_a, sl_v, sp_p, sp_f1, sp_f2, sc_w, sc_c, sc_r, sc_f, sc_a, sc_k, pp_in, pp_al, ↓reduceIte, Nat.reduceEqDiff, Nat.reduceLT, Nat.reduceLeDiff, Nat.reduceAdd, Nat.reduceSub, Nat.reduceMul, List.length_cons, List.length_nil, true_and, and_true, and_self, true_implies, eq_self, not_true_eq_false, not_false_eq_true, false_implies, implies_true, false_and, and_false, Bool.false_eq_true, or_true, true_or, or_false, false_or, Classical.not_not, Nat.le_refl, Nat.lt_irrefl, Bool.true_eq_false, n_lit, n_a, n_c, n_s, n_b, n_m, n_g, n_w, n_n, rk_X9_append, hM, r4, q]
    exact hP _ (RM_tI hA0).1 (RM_tI hA0).2
theorem c_by_s {v : Int32} {k N : Nat} {s : Int32} (hC : sC sh R) (hk : k = 24 ∨ k = 16 ∨ k = 8 ∨ k = 0) (hs : Int32.ofNat k + -Int32.ofNat 8 = s) (hN : N < 700) (h10 : I 64 1 = Int32.ofNat N) (hB : ∀ i, i < 700 → I 65 i = (B i).toInt32)
    (K : ∀ I', (∀ a, a ≠ 64 → a ≠ 65 → I' a = I a) → (∀ j, j ≠ 1 → I' 64 j = I 64 j) → I' 64 1 = Int32.ofNat (N + 1) → (∀ i, i < 700 → I' 65 i = (va_up B N (byt v k) i).toInt32) → pp_N g h mi_X8_appendFour P 3 [(0, .ref 64), (1, .int v), (2, .int s)] [] (sh, I', J, R)) :
    pp_N g h mi_X8_appendFour P 3 [(0, .ref 64), (1, .int v), (2, .int (Int32.ofNat k))] [] (sh, I, J, R) := by
  have q : ¬ k < 0 := by omega
  have q2 : ¬ 700 ≤ N := by omega
  have bu := byt_u v k hk
  refine pp_go rfl sk_X8_appendFour_3 ?_
  simp (disch := omega) only [sg_X8_appendFour_3, sw_c, sw_n, sx, sf_4, sv_i, sv_j, sv_r, sv_q1, sv_q0, sv_1i, sv_1r, sv_2, sl_i, sl_j, sl_a, sl_v, sp_p, sp_f1, sp_f2, sc_w, sc_c, sc_r, sc_f, sc_a, sc_k, pp_in, pp_al, ↓reduceIte, Nat.reduceEqDiff, Nat.reduceLT, Nat.reduceLeDiff, Nat.reduceAdd, Nat.reduceSub, Nat.reduceMul, List.length_cons, List.length_nil, true_and, and_true, and_self, true_implies, eq_self, not_true_eq_false, not_false_eq_true, false_implies, implies_true, false_and, and_false, Bool.false_eq_true, or_true, true_or, or_false, false_or, Classical.not_not, Nat.le_refl, Nat.lt_irrefl, Bool.true_eq_false, n_lit, n_a, n_c, n_s, n_b, n_m, n_g, n_w, n_n, hC, h10, q, q2, hs]
  refine K _ (fun a x y => ?_) (fun j hj => ?_) ?_ (fun i hi => ?_)
  · simp only [n_m]; rw [if_neg x, if_neg y]
  · simp only [n_m, ↓reduceIte, Nat.reduceEqDiff]; rw [if_neg hj]
  · simp only [n_m, ↓reduceIte]
  · simp only [n_m, ↓reduceIte, Nat.reduceEqDiff]
    by_cases e : i = N
    · rw [if_pos e, if_pos e, bu]; simp
    · rw [if_neg e, if_neg e]; exact hB i hi
theorem c_appendFour {v : Int32} {N : Nat} (hC : sC sh R) (hN : N + 4 ≤ 700) (h10 : I 64 1 = Int32.ofNat N) (hB : ∀ i, i < 700 → I 65 i = (B i).toInt32)
    (hP : ∀ I', (∀ a, a ≠ 64 → a ≠ 65 → I' a = I a) → (∀ j, j ≠ 1 → I' 64 j = I 64 j) → I' 64 1 = Int32.ofNat (N + 4) → (∀ i, i < 700 → I' 65 i = (ap1 B N v i).toInt32) → P (.inl none) (sh, I', J, R)) : pp_MW g (h + 1) mi_X8_appendFour [.ref 64, .int v] (sh, I, J, R) P := by
  refine pp_st0 [(0, .ref 64), (1, .int v)] ok_X8_appendFour rfl (Nat.le_of_ble_eq_true rfl) rfl ?_
  refine pp_go rfl sk_X8_appendFour_0 ?_
  simp (disch := omega) only [sg_X8_appendFour_0, sw_c, sw_n, sx, sf_4, sv_i, sv_j, sv_r, sv_q1, sv_q0, sv_1i, sv_1r, sv_2, sl_i, sl_j, sl_a, sl_v, sp_p, sp_f1, sp_f2, sc_w, sc_c, sc_r, sc_f, sc_a, sc_k, pp_in, pp_al, ↓reduceIte, Nat.reduceEqDiff, Nat.reduceLT, Nat.reduceLeDiff, Nat.reduceAdd, Nat.reduceSub, Nat.reduceMul, List.length_cons, List.length_nil, true_and, and_true, and_self, true_implies, eq_self, not_true_eq_false, not_false_eq_true, false_implies, implies_true, false_and, and_false, Bool.false_eq_true, or_true, true_or, or_false, false_or, Classical.not_not, Nat.le_refl, Nat.lt_irrefl, Bool.true_eq_false, n_lit, n_a, n_c, n_s, n_b, n_m, n_g, n_w, n_n]
  refine c_by_s (k := 24) (N := N) hC (by omega) n_m8.1 (by omega) h10 hB (fun I1 a1 b1 c1 d1 => ?_)
  refine c_by_s (k := 16) (N := N + 1) hC (by omega) n_m8.2.1 (by omega) c1 d1 (fun I2 a2 b2 c2 d2 => ?_)
  refine c_by_s (k := 8) (N := N + 2) hC (by omega) n_m8.2.2.1 (by omega) c2 d2 (fun I3 a3 b3 c3 d3 => ?_)
  refine c_by_s (k := 0) (N := N + 3) hC (by omega) rfl (by omega) c3 d3 (fun I4 a4 b4 c4 d4 => ?_)
  refine pp_go rfl sk_X8_appendFour_3 ?_
  simp (disch := omega) only [sg_X8_appendFour_3, sw_c, sw_n, sx, sf_4, sv_i, sv_j, sv_r, sv_q1, sv_q0, sv_1i, sv_1r, sv_2, sl_i, sl_j, sl_a, sl_v, sp_p, sp_f1, sp_f2, sc_w, sc_c, sc_r, sc_f, sc_a, sc_k, pp_in, pp_al, ↓reduceIte, Nat.reduceEqDiff, Nat.reduceLT, Nat.reduceLeDiff, Nat.reduceAdd, Nat.reduceSub, Nat.reduceMul, List.length_cons, List.length_nil, true_and, and_true, and_self, true_implies, eq_self, not_true_eq_false, not_false_eq_true, false_implies, implies_true, false_and, and_false, Bool.false_eq_true, or_true, true_or, or_false, false_or, Classical.not_not, Nat.le_refl, Nat.lt_irrefl, Bool.true_eq_false, n_lit, n_a, n_c, n_s, n_b, n_m, n_g, n_w, n_n, n_m8]
  refine pp_go rfl sk_X8_appendFour_48 ?_
  simp (disch := omega) only [sg_X8_appendFour_48, sw_c, sw_n, sx, sf_4, sv_i, sv_j, sv_r, sv_q1, sv_q0, sv_1i, sv_1r, sv_2, sl_i, sl_j, sl_a, sl_v, sp_p, sp_f1, sp_f2, sc_w, sc_c, sc_r, sc_f, sc_a, sc_k, pp_in, pp_al, ↓reduceIte, Nat.reduceEqDiff, Nat.reduceLT, Nat.reduceLeDiff, Nat.reduceAdd, Nat.reduceSub, Nat.reduceMul, List.length_cons, List.length_nil, true_and, and_true, and_self, true_implies, eq_self, not_true_eq_false, not_false_eq_true, false_implies, implies_true, false_and, and_false, Bool.false_eq_true, or_true, true_or, or_false, false_or, Classical.not_not, Nat.le_refl, Nat.lt_irrefl, Bool.true_eq_false, n_lit, n_a, n_c, n_s, n_b, n_m, n_g, n_w, n_n]
  exact hP I4 (fun a x y => by rw [a4 a x y, a3 a x y, a2 a x y, a1 a x y]) (fun j hj => by rw [b4 j hj, b3 j hj, b2 j hj, b1 j hj]) c4 d4
theorem RC_T {sh : List (Nat × Nat)} {I I' : Nat → Nat → Int32} {J : Nat → Nat → Int64} {R : Nat → Nat → Option Nat} {B : Nat → Int8} {N : Nat} {E : Int32} (h : RC A sh I J R) (hf : ∀ a, a ≠ 64 → a ≠ 65 → I' a = I a) (hB : ∀ i, i < 700 → I' 65 i = (B i).toInt32) (hN : I' 64 1 = Int32.ofNat N) (hE : I' 64 2 = E) : RC (B, N, E, aT A, aG A, aU A, aS A) sh I' J R := by
  obtain ⟨h1, h2, h3, h4, h5, h6, h7, h8, h9⟩ := h
  refine ⟨cL_cg (L := 102) h1 (fun a x y => hf a (by omega) (by omega)) (fun _ _ _ => rfl), cT_cg h2 (fun a x y => hf a (by omega) (by omega)), hB, hN, hE, h6, ?_, ?_, cL_cg (L := 84) h9 (fun a x y => hf a (by omega) (by omega)) (fun _ _ _ => rfl)⟩
  · obtain ⟨nw, u1, u2, u3, u4, u5⟩ := h7
    refine ⟨nw, u1, ?_, ?_, u4, fun i hi => ?_⟩
    · rw [hf 118 (by omega) (by omega)]; exact u2
    · rw [hf 118 (by omega) (by omega)]; exact u3
    · obtain ⟨L, l1, l2⟩ := u5 i hi
      have b := (h6.1 _ (by omega) L l1).1
      exact ⟨L, l1, cL_cg l2 (fun a x y => hf a (by omega) (by omega)) (fun _ _ _ => rfl)⟩
  · intro s hs
    rcases h8 s hs with q | ⟨L, G, q1, q2, q3⟩
    · exact Or.inl q
    · have b := (h6.1 (10 + s) (by omega) L (by rw [ent, if_neg (by omega), show 10 + s - 10 = s by omega]; exact q1)).1
      exact Or.inr ⟨L, G, q1, q2, cL_cg q3 (fun a x y => hf a (by omega) (by omega)) (fun _ _ _ => rfl)⟩
theorem c_append {a b c d e : Int32} (hC : sC sh R) (hA : RC A sh I J R) (hN : aN A ≤ 700) (hP : cP sh I J R P (.int (o_append A a b c d e).1) (o_append A a b c d e).2) : pp_MW g (h + 2) mi_X8_append [.ref 64, .int a, .int b, .int c, .int d, .int e] (sh, I, J, R) P := by
  refine pp_st0 [(0, .ref 64), (1, .int a), (2, .int b), (3, .int c), (4, .int d), (5, .int e)] ok_X8_append rfl (Nat.le_of_ble_eq_true rfl) rfl ?_
  have r3 := hA.2.2.1
  have r4 := hA.2.2.2.1
  by_cases q : aN A + 20 ≤ 700
  · simp only [o_append, if_pos q] at hP
    refine pp_go rfl sk_X8_append_0 ?_
    simp (disch := omega) only [sg_X8_append_0, sw_c, sw_n, sx, sf_4, sv_i, sv_j, sv_r, sv_q1, sv_q0, sv_1i, sv_1r, sv_2, sl_i, sl_j, sl_a, sl_v, sp_p, sp_f1, sp_f2, sc_w, sc_c, sc_r, sc_f, sc_a, sc_k, pp_in, pp_al, ↓reduceIte, Nat.reduceEqDiff, Nat.reduceLT, Nat.reduceLeDiff, Nat.reduceAdd, Nat.reduceSub, Nat.reduceMul, List.length_cons, List.length_nil, true_and, and_true, and_self, true_implies, eq_self, not_true_eq_false, not_false_eq_true, false_implies, implies_true, false_and, and_false, Bool.false_eq_true, or_true, true_or, or_false, false_or, Classical.not_not, Nat.le_refl, Nat.lt_irrefl, Bool.true_eq_false, n_lit, n_a, n_c, n_s, n_b, n_m, n_g, n_w, n_n, rk_X8_append, hC, r4, q]
    refine pp_go rfl sk_X8_append_15 ?_
    simp (disch := omega) only [sg_X8_append_15, sw_c, sw_n, sx, sf_4, sv_i, sv_j, sv_r, sv_q1, sv_q0, sv_1i, sv_1r, sv_2, sl_i, sl_j, sl_a, sl_v, sp_p, sp_f1, sp_f2, sc_w, sc_c, sc_r, sc_f, sc_a, sc_k, pp_in, pp_al, ↓reduceIte, Nat.reduceEqDiff, Nat.reduceLT, Nat.reduceLeDiff, Nat.reduceAdd, Nat.reduceSub, Nat.reduceMul, List.length_cons, List.length_nil, true_and, and_true, and_self, true_implies, eq_self, not_true_eq_false, not_false_eq_true, false_implies, implies_true, false_and, and_false, Bool.false_eq_true, or_true, true_or, or_false, false_or, Classical.not_not, Nat.le_refl, Nat.lt_irrefl, Bool.true_eq_false, n_lit, n_a, n_c, n_s, n_b, n_m, n_g, n_w, n_n, rk_X8_append, hC]
    refine c_appendFour (N := aN A) hC (by omega) r4 r3 (fun I1 a1 b1 c1 d1 => ?_)
    simp (disch := omega) only [sw_c, sw_n, sx, sf_4, sv_i, sv_j, sv_r, sv_q1, sv_q0, sv_1i, sv_1r, sv_2, sl_i, sl_j, sl_a, sl_v, sp_p, sp_f1, sp_f2, sc_w, sc_c, sc_r, sc_f, sc_a, sc_k, pp_in, pp_al, ↓reduceIte, Nat.reduceEqDiff, Nat.reduceLT, Nat.reduceLeDiff, Nat.reduceAdd, Nat.reduceSub, Nat.reduceMul, List.length_cons, List.length_nil, true_and, and_true, and_self, true_implies, eq_self, not_true_eq_false, not_false_eq_true, false_implies, implies_true, false_and, and_false, Bool.false_eq_true, or_true, true_or, or_false, false_or, Classical.not_not, Nat.le_refl, Nat.lt_irrefl, Bool.true_eq_false, n_lit, n_a, n_c, n_s, n_b, n_m, n_g, n_w, n_n, rk_X8_append, hC]
    refine c_appendFour (N := aN A + 4) hC (by omega) c1 d1 (fun I2 a2 b2 c2 d2 => ?_)
    simp (disch := omega) only [sw_c, sw_n, sx, sf_4, sv_i, sv_j, sv_r, sv_q1, sv_q0, sv_1i, sv_1r, sv_2, sl_i, sl_j, sl_a, sl_v, sp_p, sp_f1, sp_f2, sc_w, sc_c, sc_r, sc_f, sc_a, sc_k, pp_in, pp_al, ↓reduceIte, Nat.reduceEqDiff, Nat.reduceLT, Nat.reduceLeDiff, Nat.reduceAdd, Nat.reduceSub, Nat.reduceMul, List.length_cons, List.length_nil, true_and, and_true, and_self, true_implies, eq_self, not_true_eq_false, not_false_eq_true, false_implies, implies_true, false_and, and_false, Bool.false_eq_true, or_true, true_or, or_false, false_or, Classical.not_not, Nat.le_refl, Nat.lt_irrefl, Bool.true_eq_false, n_lit, n_a, n_c, n_s, n_b, n_m, n_g, n_w, n_n, rk_X8_append, hC]
    refine c_appendFour (N := aN A + 8) hC (by omega) c2 d2 (fun I3 a3 b3 c3 d3 => ?_)
    simp (disch := omega) only [sw_c, sw_n, sx, sf_4, sv_i, sv_j, sv_r, sv_q1, sv_q0, sv_1i, sv_1r, sv_2, sl_i, sl_j, sl_a, sl_v, sp_p, sp_f1, sp_f2, sc_w, sc_c, sc_r, sc_f, sc_a, sc_k, pp_in, pp_al, ↓reduceIte, Nat.reduceEqDiff, Nat.reduceLT, Nat.reduceLeDiff, Nat.reduceAdd, Nat.reduceSub, Nat.reduceMul, List.length_cons, List.length_nil, true_and, and_true, and_self, true_implies, eq_self, not_true_eq_false, not_false_eq_true, false_implies, implies_true, false_and, and_false, Bool.false_eq_true, or_true, true_or, or_false, false_or, Classical.not_not, Nat.le_refl, Nat.lt_irrefl, Bool.true_eq_false, n_lit, n_a, n_c, n_s, n_b, n_m, n_g, n_w, n_n, rk_X8_append, hC]
    refine c_appendFour (N := aN A + 12) hC (by omega) c3 d3 (fun I4 a4 b4 c4 d4 => ?_)
    simp (disch := omega) only [sw_c, sw_n, sx, sf_4, sv_i, sv_j, sv_r, sv_q1, sv_q0, sv_1i, sv_1r, sv_2, sl_i, sl_j, sl_a, sl_v, sp_p, sp_f1, sp_f2, sc_w, sc_c, sc_r, sc_f, sc_a, sc_k, pp_in, pp_al, ↓reduceIte, Nat.reduceEqDiff, Nat.reduceLT, Nat.reduceLeDiff, Nat.reduceAdd, Nat.reduceSub, Nat.reduceMul, List.length_cons, List.length_nil, true_and, and_true, and_self, true_implies, eq_self, not_true_eq_false, not_false_eq_true, false_implies, implies_true, false_and, and_false, Bool.false_eq_true, or_true, true_or, or_false, false_or, Classical.not_not, Nat.le_refl, Nat.lt_irrefl, Bool.true_eq_false, n_lit, n_a, n_c, n_s, n_b, n_m, n_g, n_w, n_n, rk_X8_append, hC]
    refine c_appendFour (N := aN A + 16) hC (by omega) c4 d4 (fun I5 a5 b5 c5 d5 => ?_)
    simp (disch := omega) only [sw_c, sw_n, sx, sf_4, sv_i, sv_j, sv_r, sv_q1, sv_q0, sv_1i, sv_1r, sv_2, sl_i, sl_j, sl_a, sl_v, sp_p, sp_f1, sp_f2, sc_w, sc_c, sc_r, sc_f, sc_a, sc_k, pp_in, pp_al, ↓reduceIte, Nat.reduceEqDiff, Nat.reduceLT, Nat.reduceLeDiff, Nat.reduceAdd, Nat.reduceSub, Nat.reduceMul, List.length_cons, List.length_nil, true_and, and_true, and_self, true_implies, eq_self, not_true_eq_false, not_false_eq_true, false_implies, implies_true, false_and, and_false, Bool.false_eq_true, or_true, true_or, or_false, false_or, Classical.not_not, Nat.le_refl, Nat.lt_irrefl, Bool.true_eq_false, n_lit, n_a, n_c, n_s, n_b, n_m, n_g, n_w, n_n, rk_X8_append, hC, c5]
    have fa : ∀ a, a ≠ 64 → a ≠ 65 → I5 a = I a := fun a x y => by rw [a5 a x y, a4 a x y, a3 a x y, a2 a x y, a1 a x y]
    refine hP sh I5 J R hC ⟨⟨[], by simp⟩, fun a x y => ⟨fa a (by omega) (by omega), rfl, rfl⟩⟩ (RC_T hA fa d5 c5 ?_)
    rw [b5 2 (by omega), b4 2 (by omega), b3 2 (by omega), b2 2 (by omega), b1 2 (by omega)]; exact hA.2.2.2.2.1
  · simp only [o_append, if_neg q] at hP
    refine pp_go rfl sk_X8_append_0 ?_
    simp (disch := omega) only [sg_X8_append_0, sw_c, sw_n, sx, sf_4, sv_i, sv_j, sv_r, sv_q1, sv_q0, sv_1i, sv_1r, sv_2, sl_i, sl_j, sl_a, sl_v, sp_p, sp_f1, sp_f2, sc_w, sc_c, sc_r, sc_f, sc_a, sc_k, pp_in, pp_al, ↓reduceIte, Nat.reduceEqDiff, Nat.reduceLT, Nat.reduceLeDiff, Nat.reduceAdd, Nat.reduceSub, Nat.reduceMul, List.length_cons, List.length_nil, true_and, and_true, and_self, true_implies, eq_self, not_true_eq_false, not_false_eq_true, false_implies, implies_true, false_and, and_false, Bool.false_eq_true, or_true, true_or, or_false, false_or, Classical.not_not, Nat.le_refl, Nat.lt_irrefl, Bool.true_eq_false, n_lit, n_a, n_c, n_s, n_b, n_m, n_g, n_w, n_n, rk_X8_append, hC, r4, q]
    exact hP sh I J R hC ⟨⟨[], by simp⟩, fun a _ _ => ⟨rfl, rfl, rfl⟩⟩ hA
end
