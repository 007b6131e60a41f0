/-! THE JDK: bits, fill, Strings -/
set_option maxHeartbeats 1000000
set_option maxRecDepth 1000000
def ush (x y : Int32) : Int32 := (x.toUInt32 >>> (y.toUInt32 &&& Int32.toUInt32 31)).toInt32
def bc1 (x : Int32) : Int32 := x - (ush x 1 &&& 1431655765)
def bc2 (x : Int32) : Int32 := (x &&& 858993459) + (ush x 2 &&& 858993459)
def bc3 (x : Int32) : Int32 := (x + ush x 4) &&& 252645135
def bc4 (x : Int32) : Int32 := x + ush x 8
def bc5 (x : Int32) : Int32 := x + ush x 16
theorem bc_tab : ∀ v, v < 256 → bc5 (bc4 (bc3 (bc2 (bc1 (Int32.ofNat v))))) &&& 63 = Int32.ofNat (pop v) := by decide
def wtx : List (List Nat) := [[109, 101, 109, 98, 101, 114], [118, 101, 114, 115, 105, 111, 110], [112, 97, 116, 101, 110, 116], [108, 105, 99, 101, 110, 115, 101, 101], [113, 117, 111, 114, 117, 109], [99, 97, 112], [99, 111, 115, 116, 115], [114, 101, 115, 101, 114, 118, 101], [108, 97, 116, 101], [99, 114, 101, 100, 105, 116], [112, 101, 110, 97, 108, 116, 121], [119, 101, 105, 103, 104, 116], [112, 97, 116, 101, 110, 116, 115], [112, 97, 105, 114, 115], [100, 97, 121, 115]]
theorem wtx_len : ∀ i, i < 15 → (pp_txt.getD i []).length = (wtx.getD i []).length ∧ (wtx.getD i []).length ≤ 8 := by decide
theorem wtx_at : ∀ i, i < 15 → ∀ k, k < (wtx.getD i []).length → (pp_txt.getD i []).getD k (Int32.ofNat 0) = Int32.ofNat ((wtx.getD i []).getD k 0) ∧ (wtx.getD i []).getD k 0 < 128 := by decide
theorem n_chr : ∀ c, c < 128 → ((Int32.ofNat c &&& Int32.ofNat 255).toUInt32 % 65536).toInt32 = Int32.ofNat c ∧ narrow .char (.int (Int32.ofNat c)) = .int (Int32.ofNat c) := by decide
theorem n_chr' (c : Nat) (h : c < 128) : ((Int32.ofNat (c &&& 255)).toUInt32 % 65536).toInt32 = Int32.ofNat c := by rw [← n_and]; exact (n_chr c h).1
section
variable {g : pp_G} {h : Nat} {sh : List (Nat × Nat)} {I : Nat → Nat → Int32} {J : Nat → Nat → Int64} {R : Nat → Nat → Option Nat} {w : pp_W} {P : pp_R → pp_W → Prop}
theorem j_bitCount {v : Nat} (hv : v < 256) (hP : P (.inl (some (.int (Int32.ofNat (pop v))))) w) : pp_MW g (h + 1) mi_J6_bitCount_0f7a4 [.int (Int32.ofNat v)] w P := by
  refine pp_st0 [(0, .int (Int32.ofNat v))] ok_J6_bitCount_0f7a4 rfl (Nat.le_of_ble_eq_true rfl) rfl ?_
  rw [← bc_tab v hv] at hP
  refine pp_go rfl sk_J6_bitCount_0f7a4_0 ?_
  simp only [sg_J6_bitCount_0f7a4_0, sw_c, sw_n, sx, sf_4, sv_i, sv_j, sv_r, sv_q1, sv_q0, sv_1i, sv_1r, sv_2, sl_i, sl_j, sl_a, sl_v, sp_p, sp_f1, sp_f2, sc_w, sc_c, sc_r, sc_f, sc_a, sc_k, pp_in, pp_al, ↓reduceIte, Nat.reduceEqDiff, Nat.reduceLT, Nat.reduceLeDiff, Nat.reduceAdd, Nat.reduceSub, Nat.reduceMul, List.length_cons, List.length_nil, true_and, and_true, and_self, true_implies, eq_self, not_true_eq_false, not_false_eq_true, false_implies, implies_true, false_and, and_false, Bool.false_eq_true, or_true, true_or, or_false, false_or, Classical.not_not, Nat.le_refl, Nat.lt_irrefl, Bool.true_eq_false, rk_J6_bitCount_0f7a4]
  exact hP
theorem j_fill_l {a n : Nat} {x : Int32} (ha : sh[a]? = some (10, n)) (hn : n < 10000) (hP : ∀ I', (∀ c, c ≠ a → I' c = I c) → (∀ i, I' a i = if i < n then x else I a i) → P (.inl none) (sh, I', J, R)) :
    ∀ f k I', f + k = n → (∀ c, c ≠ a → I' c = I c) → (∀ i, I' a i = if i < k then x else I a i) → pp_N g h mi_J7_fill_53178 P 5 [(0, .ref a), (1, .int x), (2, .int (Int32.ofNat k)), (3, .int (Int32.ofNat n))] [] (sh, I', J, R) := by
  intro f
  induction f with
  | zero =>
    intro k I' hk hf hr
    have hk : k = n := by omega
    subst hk
    have hP := hP I' hf hr
    repeat' (first | ((with_reducible refine pp_go (pc := 5) (seg := sg_J7_fill_53178_5) hh_J7_fill_53178 sk_J7_fill_53178_5 ?_); simp (disch := omega) only [sg_J7_fill_53178_5, sw_c, sw_n, sx, sf_4, sv_i, sv_j, sv_r, sv_q1, sv_q0, sv_1i, sv_1r, sv_2, sl_i, sl_j, sl_a, sl_v, sp_p, sp_f1, sp_f2, sc_w, sc_c, sc_r, sc_f, sc_a, sc_k, pp_in, pp_al, ↓reduceIte, Nat.reduceEqDiff, Nat.reduceLT, Nat.reduceLeDiff, Nat.reduceAdd, Nat.reduceSub, Nat.reduceMul, List.length_cons, List.length_nil, true_and, and_true, and_self, true_implies, eq_self, not_true_eq_false, not_false_eq_true, false_implies, implies_true, false_and, and_false, Bool.false_eq_true, or_true, true_or, or_false, false_or, Classical.not_not, Nat.le_refl, Nat.lt_irrefl, Bool.true_eq_false, n_lit, n_a, n_c, n_s, n_b, n_m, n_g, n_w, n_n]) | ((with_reducible refine pp_go (pc := 20) (seg := sg_J7_fill_53178_20) hh_J7_fill_53178 sk_J7_fill_53178_20 ?_); simp (disch := omega) only [sg_J7_fill_53178_20, sw_c, sw_n, sx, sf_4, sv_i, sv_j, sv_r, sv_q1, sv_q0, sv_1i, sv_1r, sv_2, sl_i, sl_j, sl_a, sl_v, sp_p, sp_f1, sp_f2, sc_w, sc_c, sc_r, sc_f, sc_a, sc_k, pp_in, pp_al, ↓reduceIte, Nat.reduceEqDiff, Nat.reduceLT, Nat.reduceLeDiff, Nat.reduceAdd, Nat.reduceSub, Nat.reduceMul, List.length_cons, List.length_nil, true_and, and_true, and_self, true_implies, eq_self, not_true_eq_false, not_false_eq_true, false_implies, implies_true, false_and, and_false, Bool.false_eq_true, or_true, true_or, or_false, false_or, Classical.not_not, Nat.le_refl, Nat.lt_irrefl, Bool.true_eq_false, n_lit, n_a, n_c, n_s, n_b, n_m, n_g, n_w, n_n]) | (refine ⟨fun _ => ?_, fun _ => ?_⟩ <;> try (exfalso; omega)) | fail)
    exact hP
  | succ f ih =>
    intro k I' hk hf hr
    have q1 : ¬ n ≤ k := by omega
    refine pp_go rfl sk_J7_fill_53178_5 ?_
    simp (disch := omega) only [sg_J7_fill_53178_5, sw_c, sw_n, sx, sf_4, sv_i, sv_j, sv_r, sv_q1, sv_q0, sv_1i, sv_1r, sv_2, sl_i, sl_j, sl_a, sl_v, sp_p, sp_f1, sp_f2, sc_w, sc_c, sc_r, sc_f, sc_a, sc_k, pp_in, pp_al, ↓reduceIte, Nat.reduceEqDiff, Nat.reduceLT, Nat.reduceLeDiff, Nat.reduceAdd, Nat.reduceSub, Nat.reduceMul, List.length_cons, List.length_nil, true_and, and_true, and_self, true_implies, eq_self, not_true_eq_false, not_false_eq_true, false_implies, implies_true, false_and, and_false, Bool.false_eq_true, or_true, true_or, or_false, false_or, Classical.not_not, Nat.le_refl, Nat.lt_irrefl, Bool.true_eq_false, n_lit, n_a, n_c, n_s, n_b, n_m, n_g, n_w, n_n, ha, q1]
    refine ih (k + 1) _ (by omega) (fun c hc => ?_) (fun i => ?_)
    · rw [pp_s_ne _ _ hc]; exact hf c hc
    · simp only [n_m, ↓reduceIte]
      by_cases e : i = k
      · rw [if_pos e, if_pos (by omega)]
      · rw [if_neg e, hr]
        by_cases c : i < k
        · rw [if_pos c, if_pos (by omega)]
        · rw [if_neg c, if_neg (by omega)]
theorem j_fill {a n : Nat} {x : Int32} (ha : sh[a]? = some (10, n)) (hn : n < 10000) (hP : ∀ I', (∀ c, c ≠ a → I' c = I c) → (∀ i, I' a i = if i < n then x else I a i) → P (.inl none) (sh, I', J, R)) : pp_MW g (h + 1) mi_J7_fill_53178 [.ref a, .int x] (sh, I, J, R) P := by
  refine pp_st0 [(0, .ref a), (1, .int x)] ok_J7_fill_53178 rfl (Nat.le_of_ble_eq_true rfl) rfl ?_
  refine pp_go rfl sk_J7_fill_53178_0 ?_
  simp (disch := omega) only [sg_J7_fill_53178_0, sw_c, sw_n, sx, sf_4, sv_i, sv_j, sv_r, sv_q1, sv_q0, sv_1i, sv_1r, sv_2, sl_i, sl_j, sl_a, sl_v, sp_p, sp_f1, sp_f2, sc_w, sc_c, sc_r, sc_f, sc_a, sc_k, pp_in, pp_al, ↓reduceIte, Nat.reduceEqDiff, Nat.reduceLT, Nat.reduceLeDiff, Nat.reduceAdd, Nat.reduceSub, Nat.reduceMul, List.length_cons, List.length_nil, true_and, and_true, and_self, true_implies, eq_self, not_true_eq_false, not_false_eq_true, false_implies, implies_true, false_and, and_false, Bool.false_eq_true, or_true, true_or, or_false, false_or, Classical.not_not, Nat.le_refl, Nat.lt_irrefl, Bool.true_eq_false, n_lit, n_a, n_c, n_s, n_b, n_m, n_g, n_w, n_n, ha]
  exact j_fill_l (I := I) ha hn hP n 0 I (by omega) (fun _ _ => rfl) (fun i => by rw [if_neg (by omega)])
theorem j_coder {i : Nat} (hi : i < 15) (hP : P (.inl (some (.int (Int32.ofNat 0)))) w) : pp_MW g (h + 1) mi_J0_coder_7d493 [.ref (i + 1)] w P := by
  refine pp_st0 [(0, .ref (i + 1))] ok_J0_coder_7d493 rfl (Nat.le_of_ble_eq_true rfl) rfl ?_
  refine pp_go rfl sk_J0_coder_7d493_0 ?_
  simp (disch := omega) only [sg_J0_coder_7d493_0, sw_c, sw_n, sx, sf_4, sv_i, sv_j, sv_r, sv_q1, sv_q0, sv_1i, sv_1r, sv_2, sl_i, sl_j, sl_a, sl_v, sp_p, sp_f1, sp_f2, sc_w, sc_c, sc_r, sc_f, sc_a, sc_k, pp_in, pp_al, ↓reduceIte, Nat.reduceEqDiff, Nat.reduceLT, Nat.reduceLeDiff, Nat.reduceAdd, Nat.reduceSub, Nat.reduceMul, List.length_cons, List.length_nil, true_and, and_true, and_self, true_implies, eq_self, not_true_eq_false, not_false_eq_true, false_implies, implies_true, false_and, and_false, Bool.false_eq_true, or_true, true_or, or_false, false_or, Classical.not_not, Nat.le_refl, Nat.lt_irrefl, Bool.true_eq_false, n_lit, n_a, n_c, n_s, n_b, n_m, n_g, n_w, n_n, rk_J0_coder_7d493]
  refine ⟨by omega, ?_⟩
  refine pp_go rfl sk_J0_coder_7d493_14 ?_
  simp (disch := omega) only [sg_J0_coder_7d493_14, sw_c, sw_n, sx, sf_4, sv_i, sv_j, sv_r, sv_q1, sv_q0, sv_1i, sv_1r, sv_2, sl_i, sl_j, sl_a, sl_v, sp_p, sp_f1, sp_f2, sc_w, sc_c, sc_r, sc_f, sc_a, sc_k, pp_in, pp_al, ↓reduceIte, Nat.reduceEqDiff, Nat.reduceLT, Nat.reduceLeDiff, Nat.reduceAdd, Nat.reduceSub, Nat.reduceMul, List.length_cons, List.length_nil, true_and, and_true, and_self, true_implies, eq_self, not_true_eq_false, not_false_eq_true, false_implies, implies_true, false_and, and_false, Bool.false_eq_true, or_true, true_or, or_false, false_or, Classical.not_not, Nat.le_refl, Nat.lt_irrefl, Bool.true_eq_false, n_lit, n_a, n_c, n_s, n_b, n_m, n_g, n_w, n_n, rk_J0_coder_7d493]
  exact ⟨rfl, hP⟩
theorem j_length {i : Nat} (hi : i < 15) (hP : P (.inl (some (.int (Int32.ofNat (wtx.getD i []).length)))) w) : pp_MW g (h + 2) mi_J0_length_8abf5 [.ref (i + 1)] w P := by
  refine pp_st0 [(0, .ref (i + 1))] ok_J0_length_8abf5 rfl (Nat.le_of_ble_eq_true rfl) rfl ?_
  have hl := wtx_len i hi
  have e : i + 1 + 15 - 16 = i := by omega
  refine pp_go rfl sk_J0_length_8abf5_0 ?_
  simp (disch := omega) only [sg_J0_length_8abf5_0, sw_c, sw_n, sx, sf_4, sv_i, sv_j, sv_r, sv_q1, sv_q0, sv_1i, sv_1r, sv_2, sl_i, sl_j, sl_a, sl_v, sp_p, sp_f1, sp_f2, sc_w, sc_c, sc_r, sc_f, sc_a, sc_k, pp_in, pp_al, ↓reduceIte, Nat.reduceEqDiff, Nat.reduceLT, Nat.reduceLeDiff, Nat.reduceAdd, Nat.reduceSub, Nat.reduceMul, List.length_cons, List.length_nil, true_and, and_true, and_self, true_implies, eq_self, not_true_eq_false, not_false_eq_true, false_implies, implies_true, false_and, and_false, Bool.false_eq_true, or_true, true_or, or_false, false_or, Classical.not_not, Nat.le_refl, Nat.lt_irrefl, Bool.true_eq_false, n_lit, n_a, n_c, n_s, n_b, n_m, n_g, n_w, n_n, rk_J0_length_8abf5, e, hl.1]
  refine ⟨by omega, by omega, by omega, ?_⟩
  refine j_coder hi ?_
  simp (disch := omega) only [sw_c, sw_n, sx, sf_4, sv_i, sv_j, sv_r, sv_q1, sv_q0, sv_1i, sv_1r, sv_2, sl_i, sl_j, sl_a, sl_v, sp_p, sp_f1, sp_f2, sc_w, sc_c, sc_r, sc_f, sc_a, sc_k, pp_in, pp_al, ↓reduceIte, Nat.reduceEqDiff, Nat.reduceLT, Nat.reduceLeDiff, Nat.reduceAdd, Nat.reduceSub, Nat.reduceMul, List.length_cons, List.length_nil, true_and, and_true, and_self, true_implies, eq_self, not_true_eq_false, not_false_eq_true, false_implies, implies_true, false_and, and_false, Bool.false_eq_true, or_true, true_or, or_false, false_or, Classical.not_not, Nat.le_refl, Nat.lt_irrefl, Bool.true_eq_false, n_lit, n_a, n_c, n_s, n_b, n_m, n_g, n_w, n_n, rk_J0_length_8abf5, e, hl.1]
  rw [show (wtx.getD i []).length >>> 0 = (wtx.getD i []).length from rfl]
  exact hP
theorem j_isLatin1 {i : Nat} (hi : i < 15) (hP : P (.inl (some (.int (Int32.ofNat 1)))) w) : pp_MW g (h + 1) mi_J0_isLatin1_aae02 [.ref (i + 1)] w P := by
  refine pp_st0 [(0, .ref (i + 1))] ok_J0_isLatin1_aae02 rfl (Nat.le_of_ble_eq_true rfl) rfl ?_
  refine pp_go rfl sk_J0_isLatin1_aae02_0 ?_
  simp (disch := omega) only [sg_J0_isLatin1_aae02_0, sw_c, sw_n, sx, sf_4, sv_i, sv_j, sv_r, sv_q1, sv_q0, sv_1i, sv_1r, sv_2, sl_i, sl_j, sl_a, sl_v, sp_p, sp_f1, sp_f2, sc_w, sc_c, sc_r, sc_f, sc_a, sc_k, pp_in, pp_al, ↓reduceIte, Nat.reduceEqDiff, Nat.reduceLT, Nat.reduceLeDiff, Nat.reduceAdd, Nat.reduceSub, Nat.reduceMul, List.length_cons, List.length_nil, true_and, and_true, and_self, true_implies, eq_self, not_true_eq_false, not_false_eq_true, false_implies, implies_true, false_and, and_false, Bool.false_eq_true, or_true, true_or, or_false, false_or, Classical.not_not, Nat.le_refl, Nat.lt_irrefl, Bool.true_eq_false, n_lit, n_a, n_c, n_s, n_b, n_m, n_g, n_w, n_n, rk_J0_isLatin1_aae02]
  refine ⟨by omega, ?_⟩
  refine pp_go rfl sk_J0_isLatin1_aae02_18 ?_
  simp (disch := omega) only [sg_J0_isLatin1_aae02_18, sw_c, sw_n, sx, sf_4, sv_i, sv_j, sv_r, sv_q1, sv_q0, sv_1i, sv_1r, sv_2, sl_i, sl_j, sl_a, sl_v, sp_p, sp_f1, sp_f2, sc_w, sc_c, sc_r, sc_f, sc_a, sc_k, pp_in, pp_al, ↓reduceIte, Nat.reduceEqDiff, Nat.reduceLT, Nat.reduceLeDiff, Nat.reduceAdd, Nat.reduceSub, Nat.reduceMul, List.length_cons, List.length_nil, true_and, and_true, and_self, true_implies, eq_self, not_true_eq_false, not_false_eq_true, false_implies, implies_true, false_and, and_false, Bool.false_eq_true, or_true, true_or, or_false, false_or, Classical.not_not, Nat.le_refl, Nat.lt_irrefl, Bool.true_eq_false, n_lit, n_a, n_c, n_s, n_b, n_m, n_g, n_w, n_n, rk_J0_isLatin1_aae02]
  exact hP
theorem j_check3 {k n : Nat} {v : Value} (hk : k < n) (hn : n < 10000) (hv : v = .null ∨ v = .ref 31) (hP : P (.inl (some (.int (Int32.ofNat k)))) w) : pp_MW g (h + 1) mi_J3_checkIndex_8e157 [.int (Int32.ofNat k), .int (Int32.ofNat n), v] w P := by
  rcases hv with rfl | rfl
  · refine pp_st0 [(0, .int (Int32.ofNat k)), (1, .int (Int32.ofNat n)), (2, .null)] ok_J3_checkIndex_8e157 rfl (Nat.le_of_ble_eq_true rfl) rfl ?_
    have q1 : ¬ k < 0 := by omega
    refine pp_go rfl sk_J3_checkIndex_8e157_0 ?_
    simp (disch := omega) only [sg_J3_checkIndex_8e157_0, sw_c, sw_n, sx, sf_4, sv_i, sv_j, sv_r, sv_q1, sv_q0, sv_1i, sv_1r, sv_2, sl_i, sl_j, sl_a, sl_v, sp_p, sp_f1, sp_f2, sc_w, sc_c, sc_r, sc_f, sc_a, sc_k, pp_in, pp_al, ↓reduceIte, Nat.reduceEqDiff, Nat.reduceLT, Nat.reduceLeDiff, Nat.reduceAdd, Nat.reduceSub, Nat.reduceMul, List.length_cons, List.length_nil, true_and, and_true, and_self, true_implies, eq_self, not_true_eq_false, not_false_eq_true, false_implies, implies_true, false_and, and_false, Bool.false_eq_true, or_true, true_or, or_false, false_or, Classical.not_not, Nat.le_refl, Nat.lt_irrefl, Bool.true_eq_false, n_lit, n_a, n_c, n_s, n_b, n_m, n_g, n_w, n_n, rk_J3_checkIndex_8e157, hk, q1]
    refine pp_go rfl sk_J3_checkIndex_8e157_16 ?_
    simp (disch := omega) only [sg_J3_checkIndex_8e157_16, sw_c, sw_n, sx, sf_4, sv_i, sv_j, sv_r, sv_q1, sv_q0, sv_1i, sv_1r, sv_2, sl_i, sl_j, sl_a, sl_v, sp_p, sp_f1, sp_f2, sc_w, sc_c, sc_r, sc_f, sc_a, sc_k, pp_in, pp_al, ↓reduceIte, Nat.reduceEqDiff, Nat.reduceLT, Nat.reduceLeDiff, Nat.reduceAdd, Nat.reduceSub, Nat.reduceMul, List.length_cons, List.length_nil, true_and, and_true, and_self, true_implies, eq_self, not_true_eq_false, not_false_eq_true, false_implies, implies_true, false_and, and_false, Bool.false_eq_true, or_true, true_or, or_false, false_or, Classical.not_not, Nat.le_refl, Nat.lt_irrefl, Bool.true_eq_false, n_lit, n_a, n_c, n_s, n_b, n_m, n_g, n_w, n_n, rk_J3_checkIndex_8e157]
    exact hP
  · refine pp_st0 [(0, .int (Int32.ofNat k)), (1, .int (Int32.ofNat n)), (2, .ref 31)] ok_J3_checkIndex_8e157 rfl (Nat.le_of_ble_eq_true rfl) rfl ?_
    have q1 : ¬ k < 0 := by omega
    refine pp_go rfl sk_J3_checkIndex_8e157_0 ?_
    simp (disch := omega) only [sg_J3_checkIndex_8e157_0, sw_c, sw_n, sx, sf_4, sv_i, sv_j, sv_r, sv_q1, sv_q0, sv_1i, sv_1r, sv_2, sl_i, sl_j, sl_a, sl_v, sp_p, sp_f1, sp_f2, sc_w, sc_c, sc_r, sc_f, sc_a, sc_k, pp_in, pp_al, ↓reduceIte, Nat.reduceEqDiff, Nat.reduceLT, Nat.reduceLeDiff, Nat.reduceAdd, Nat.reduceSub, Nat.reduceMul, List.length_cons, List.length_nil, true_and, and_true, and_self, true_implies, eq_self, not_true_eq_false, not_false_eq_true, false_implies, implies_true, false_and, and_false, Bool.false_eq_true, or_true, true_or, or_false, false_or, Classical.not_not, Nat.le_refl, Nat.lt_irrefl, Bool.true_eq_false, n_lit, n_a, n_c, n_s, n_b, n_m, n_g, n_w, n_n, rk_J3_checkIndex_8e157, hk, q1]
    refine pp_go rfl sk_J3_checkIndex_8e157_16 ?_
    simp (disch := omega) only [sg_J3_checkIndex_8e157_16, sw_c, sw_n, sx, sf_4, sv_i, sv_j, sv_r, sv_q1, sv_q0, sv_1i, sv_1r, sv_2, sl_i, sl_j, sl_a, sl_v, sp_p, sp_f1, sp_f2, sc_w, sc_c, sc_r, sc_f, sc_a, sc_k, pp_in, pp_al, ↓reduceIte, Nat.reduceEqDiff, Nat.reduceLT, Nat.reduceLeDiff, Nat.reduceAdd, Nat.reduceSub, Nat.reduceMul, List.length_cons, List.length_nil, true_and, and_true, and_self, true_implies, eq_self, not_true_eq_false, not_false_eq_true, false_implies, implies_true, false_and, and_false, Bool.false_eq_true, or_true, true_or, or_false, false_or, Classical.not_not, Nat.le_refl, Nat.lt_irrefl, Bool.true_eq_false, n_lit, n_a, n_c, n_s, n_b, n_m, n_g, n_w, n_n, rk_J3_checkIndex_8e157]
    exact hP
theorem j_check0 {k n : Nat} (hk : k < n) (hn : n < 10000) (hP : P (.inl none) w) : pp_MW g (h + 2) mi_J0_checkIndex_df160 [.int (Int32.ofNat k), .int (Int32.ofNat n)] w P := by
  refine pp_st0 [(0, .int (Int32.ofNat k)), (1, .int (Int32.ofNat n))] ok_J0_checkIndex_df160 rfl (Nat.le_of_ble_eq_true rfl) rfl ?_
  refine pp_go rfl sk_J0_checkIndex_df160_0 ?_
  simp (disch := omega) only [sg_J0_checkIndex_df160_0, sw_c, sw_n, sx, sf_4, sv_i, sv_j, sv_r, sv_q1, sv_q0, sv_1i, sv_1r, sv_2, sl_i, sl_j, sl_a, sl_v, sp_p, sp_f1, sp_f2, sc_w, sc_c, sc_r, sc_f, sc_a, sc_k, pp_in, pp_al, ↓reduceIte, Nat.reduceEqDiff, Nat.reduceLT, Nat.reduceLeDiff, Nat.reduceAdd, Nat.reduceSub, Nat.reduceMul, List.length_cons, List.length_nil, true_and, and_true, and_self, true_implies, eq_self, not_true_eq_false, not_false_eq_true, false_implies, implies_true, false_and, and_false, Bool.false_eq_true, or_true, true_or, or_false, false_or, Classical.not_not, Nat.le_refl, Nat.lt_irrefl, Bool.true_eq_false, n_lit, n_a, n_c, n_s, n_b, n_m, n_g, n_w, n_n]
  refine ⟨?_, ?_⟩
  · refine j_check3 hk hn (Or.inl rfl) ?_
    simp (disch := omega) only [sw_c, sw_n, sx, sf_4, sv_i, sv_j, sv_r, sv_q1, sv_q0, sv_1i, sv_1r, sv_2, sl_i, sl_j, sl_a, sl_v, sp_p, sp_f1, sp_f2, sc_w, sc_c, sc_r, sc_f, sc_a, sc_k, pp_in, pp_al, ↓reduceIte, Nat.reduceEqDiff, Nat.reduceLT, Nat.reduceLeDiff, Nat.reduceAdd, Nat.reduceSub, Nat.reduceMul, List.length_cons, List.length_nil, true_and, and_true, and_self, true_implies, eq_self, not_true_eq_false, not_false_eq_true, false_implies, implies_true, false_and, and_false, Bool.false_eq_true, or_true, true_or, or_false, false_or, Classical.not_not, Nat.le_refl, Nat.lt_irrefl, Bool.true_eq_false, n_lit, n_a, n_c, n_s, n_b, n_m, n_g, n_w, n_n]
    exact hP
  · refine j_check3 hk hn (Or.inr rfl) ?_
    simp (disch := omega) only [sw_c, sw_n, sx, sf_4, sv_i, sv_j, sv_r, sv_q1, sv_q0, sv_1i, sv_1r, sv_2, sl_i, sl_j, sl_a, sl_v, sp_p, sp_f1, sp_f2, sc_w, sc_c, sc_r, sc_f, sc_a, sc_k, pp_in, pp_al, ↓reduceIte, Nat.reduceEqDiff, Nat.reduceLT, Nat.reduceLeDiff, Nat.reduceAdd, Nat.reduceSub, Nat.reduceMul, List.length_cons, List.length_nil, true_and, and_true, and_self, true_implies, eq_self, not_true_eq_false, not_false_eq_true, false_implies, implies_true, false_and, and_false, Bool.false_eq_true, or_true, true_or, or_false, false_or, Classical.not_not, Nat.le_refl, Nat.lt_irrefl, Bool.true_eq_false, n_lit, n_a, n_c, n_s, n_b, n_m, n_g, n_w, n_n]
    exact hP
theorem j_charAt1 {i k : Nat} (hi : i < 15) (hk : k < (wtx.getD i []).length) (hP : P (.inl (some (.int (Int32.ofNat ((wtx.getD i []).getD k 0))))) w) : pp_MW g (h + 3) mi_J1_charAt_3b067 [.ref (i + 1 + 15), .int (Int32.ofNat k)] w P := by
  refine pp_st0 [(0, .ref (i + 1 + 15)), (1, .int (Int32.ofNat k))] ok_J1_charAt_3b067 rfl (Nat.le_of_ble_eq_true rfl) rfl ?_
  have hl := wtx_len i hi
  have ha := wtx_at i hi k hk
  have e : i + 1 + 15 - 16 = i := by omega
  have c1 := n_chr' _ ha.2
  have c2 := (n_chr _ ha.2).2
  refine pp_go rfl sk_J1_charAt_3b067_0 ?_
  simp (disch := omega) only [sg_J1_charAt_3b067_0, sw_c, sw_n, sx, sf_4, sv_i, sv_j, sv_r, sv_q1, sv_q0, sv_1i, sv_1r, sv_2, sl_i, sl_j, sl_a, sl_v, sp_p, sp_f1, sp_f2, sc_w, sc_c, sc_r, sc_f, sc_a, sc_k, pp_in, pp_al, ↓reduceIte, Nat.reduceEqDiff, Nat.reduceLT, Nat.reduceLeDiff, Nat.reduceAdd, Nat.reduceSub, Nat.reduceMul, List.length_cons, List.length_nil, true_and, and_true, and_self, true_implies, eq_self, not_true_eq_false, not_false_eq_true, false_implies, implies_true, false_and, and_false, Bool.false_eq_true, or_true, true_or, or_false, false_or, Classical.not_not, Nat.le_refl, Nat.lt_irrefl, Bool.true_eq_false, n_lit, n_a, n_c, n_s, n_b, n_m, n_g, n_w, n_n, rk_J1_charAt_3b067, e, hl.1]
  refine ⟨by omega, ?_⟩
  refine j_check0 hk (by omega) ?_
  simp (disch := omega) only [sw_c, sw_n, sx, sf_4, sv_i, sv_j, sv_r, sv_q1, sv_q0, sv_1i, sv_1r, sv_2, sl_i, sl_j, sl_a, sl_v, sp_p, sp_f1, sp_f2, sc_w, sc_c, sc_r, sc_f, sc_a, sc_k, pp_in, pp_al, ↓reduceIte, Nat.reduceEqDiff, Nat.reduceLT, Nat.reduceLeDiff, Nat.reduceAdd, Nat.reduceSub, Nat.reduceMul, List.length_cons, List.length_nil, true_and, and_true, and_self, true_implies, eq_self, not_true_eq_false, not_false_eq_true, false_implies, implies_true, false_and, and_false, Bool.false_eq_true, or_true, true_or, or_false, false_or, Classical.not_not, Nat.le_refl, Nat.lt_irrefl, Bool.true_eq_false, n_lit, n_a, n_c, n_s, n_b, n_m, n_g, n_w, n_n, rk_J1_charAt_3b067, e, hl.1, ha.1, c1, c2]
  exact ⟨by omega, hP⟩
theorem j_charAt {i k : Nat} (hi : i < 15) (hk : k < (wtx.getD i []).length) (hP : P (.inl (some (.int (Int32.ofNat ((wtx.getD i []).getD k 0))))) w) : pp_MW g (h + 4) mi_J0_charAt_5068e [.ref (i + 1), .int (Int32.ofNat k)] w P := by
  refine pp_st0 [(0, .ref (i + 1)), (1, .int (Int32.ofNat k))] ok_J0_charAt_5068e rfl (Nat.le_of_ble_eq_true rfl) rfl ?_
  have ha := wtx_at i hi k hk
  have c2 := (n_chr _ ha.2).2
  refine pp_go rfl sk_J0_charAt_5068e_0 ?_
  simp (disch := omega) only [sg_J0_charAt_5068e_0, sw_c, sw_n, sx, sf_4, sv_i, sv_j, sv_r, sv_q1, sv_q0, sv_1i, sv_1r, sv_2, sl_i, sl_j, sl_a, sl_v, sp_p, sp_f1, sp_f2, sc_w, sc_c, sc_r, sc_f, sc_a, sc_k, pp_in, pp_al, ↓reduceIte, Nat.reduceEqDiff, Nat.reduceLT, Nat.reduceLeDiff, Nat.reduceAdd, Nat.reduceSub, Nat.reduceMul, List.length_cons, List.length_nil, true_and, and_true, and_self, true_implies, eq_self, not_true_eq_false, not_false_eq_true, false_implies, implies_true, false_and, and_false, Bool.false_eq_true, or_true, true_or, or_false, false_or, Classical.not_not, Nat.le_refl, Nat.lt_irrefl, Bool.true_eq_false, n_lit, n_a, n_c, n_s, n_b, n_m, n_g, n_w, n_n, rk_J0_charAt_5068e]
  refine ⟨by omega, ?_⟩
  refine j_isLatin1 hi ?_
  simp (disch := omega) only [sw_c, sw_n, sx, sf_4, sv_i, sv_j, sv_r, sv_q1, sv_q0, sv_1i, sv_1r, sv_2, sl_i, sl_j, sl_a, sl_v, sp_p, sp_f1, sp_f2, sc_w, sc_c, sc_r, sc_f, sc_a, sc_k, pp_in, pp_al, ↓reduceIte, Nat.reduceEqDiff, Nat.reduceLT, Nat.reduceLeDiff, Nat.reduceAdd, Nat.reduceSub, Nat.reduceMul, List.length_cons, List.length_nil, true_and, and_true, and_self, true_implies, eq_self, not_true_eq_false, not_false_eq_true, false_implies, implies_true, false_and, and_false, Bool.false_eq_true, or_true, true_or, or_false, false_or, Classical.not_not, Nat.le_refl, Nat.lt_irrefl, Bool.true_eq_false, n_lit, n_a, n_c, n_s, n_b, n_m, n_g, n_w, n_n, rk_J0_charAt_5068e]
  refine ⟨by omega, ?_⟩
  refine j_charAt1 hi hk ?_
  simp (disch := omega) only [sw_c, sw_n, sx, sf_4, sv_i, sv_j, sv_r, sv_q1, sv_q0, sv_1i, sv_1r, sv_2, sl_i, sl_j, sl_a, sl_v, sp_p, sp_f1, sp_f2, sc_w, sc_c, sc_r, sc_f, sc_a, sc_k, pp_in, pp_al, ↓reduceIte, Nat.reduceEqDiff, Nat.reduceLT, Nat.reduceLeDiff, Nat.reduceAdd, Nat.reduceSub, Nat.reduceMul, List.length_cons, List.length_nil, true_and, and_true, and_self, true_implies, eq_self, not_true_eq_false, not_false_eq_true, false_implies, implies_true, false_and, and_false, Bool.false_eq_true, or_true, true_or, or_false, false_or, Classical.not_not, Nat.le_refl, Nat.lt_irrefl, Bool.true_eq_false, n_lit, n_a, n_c, n_s, n_b, n_m, n_g, n_w, n_n, rk_J0_charAt_5068e, c2]
  exact hP
end
