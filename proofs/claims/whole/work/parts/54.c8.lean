/-! THE CLASS, 8: what undo keeps -/
set_option maxHeartbeats 4000000
set_option maxRecDepth 100000
/-- what the class's methods leave: the model's cells, the answer's; cells only come -/
abbrev fK (sh : List (Nat × Nat)) (I : Nat → Nat → Int32) (J : Nat → Nat → Int64) (R : Nat → Nat → Option Nat) (sh' : List (Nat × Nat)) (I' : Nat → Nat → Int32) (J' : Nat → Nat → Int64) (R' : Nat → Nat → Option Nat) : Prop := (∃ e, sh' = sh ++ e) ∧ ∀ a, 121 ≤ a → a ≤ 140 → I' a = I a ∧ J' a = J a ∧ R' a = R a
theorem ap_some {α : Type} {l e : List α} {i : Nat} {x : α} (h : l[i]? = some x) : (l ++ e)[i]? = some x := by
  rw [List.getElem?_append_left (List.getElem?_eq_some_iff.mp h).1]; exact h
theorem sLg_cg {sh e : List (Nat × Nat)} {R R' : Nat → Nat → Option Nat} {L : Nat} (h : sLg sh R L) (hR : R' L = R L) : sLg (sh ++ e) R' L := by
  obtain ⟨h0, h1, h2, h3, h4, h5, h6, h7, h8, h9, r⟩ := h
  refine ⟨ap_some h0, ap_some h1, ap_some h2, ap_some h3, ap_some h4, ap_some h5, ap_some h6, ap_some h7, ap_some h8, ap_some h9, ?_⟩
  rw [hR]; exact r
theorem sC_cg {sh e : List (Nat × Nat)} {R R' : Nat → Nat → Option Nat} (h : sC sh R) (hR : ∀ a, a < 119 → R' a = R a) : sC (sh ++ e) R' := by
  obtain ⟨⟨a0, a1, a2⟩, ⟨b0, b1, b2, b3, b4, b5, b6⟩, ⟨c0, c1, c2, c3, c4, c5, c6, c7, c8, c9, c10, c11, c12, c13, c14, c15⟩, t1, t2, l1, l2, l3⟩ := h
  have tt : ∀ a, a + 6 < 119 → sTx sh R a (a + 1) (a + 2) (a + 3) (a + 4) (a + 5) (a + 6) → sTx (sh ++ e) R' a (a + 1) (a + 2) (a + 3) (a + 4) (a + 5) (a + 6) := fun a ha t => by
    obtain ⟨h0, h1, h2, h3, h4, h5, h6, r⟩ := t
    refine ⟨ap_some h0, ap_some h1, ap_some h2, ap_some h3, ap_some h4, ap_some h5, ap_some h6, ?_⟩
    rw [hR a (by omega), hR (a + 4) (by omega)]; exact r
  refine ⟨⟨ap_some a0, ap_some a1, ?_⟩, ⟨ap_some b0, ?_, ?_, ?_, ?_, ap_some b5, ?_⟩, ⟨ap_some c0, ?_, ?_, ap_some c3, ?_, ?_, ?_, ?_, ap_some c8, ap_some c9, ap_some c10, ap_some c11, ap_some c12, ?_, ap_some c14, ap_some c15⟩, tt 67 (by omega) t1, tt 95 (by omega) t2, sLg_cg (L := 74) l1 (hR _ (by omega)), sLg_cg (L := 84) l2 (hR _ (by omega)), sLg_cg (L := 102) l3 (hR _ (by omega))⟩
  · rw [hR 64 (by omega)]; exact a2
  · rw [hR 66 (by omega)]; exact b1
  · rw [hR 66 (by omega)]; exact b2
  · rw [hR 66 (by omega)]; exact b3
  · rw [hR 66 (by omega)]; exact b4
  · rw [hR 94 (by omega)]; exact b6
  · rw [hR 112 (by omega)]; exact c1
  · rw [hR 112 (by omega)]; exact c2
  · rw [hR 113 (by omega)]; exact c4
  · rw [hR 113 (by omega)]; exact c5
  · rw [hR 113 (by omega)]; exact c6
  · rw [hR 113 (by omega)]; exact c7
  · rw [hR 118 (by omega)]; exact c13
theorem sM_cg {sh e : List (Nat × Nat)} {R R' : Nat → Nat → Option Nat} (h : sM sh R) (hR : R' 121 = R 121) : sM (sh ++ e) R' := by
  obtain ⟨h0, h1, h2, h3, h4, h5, h6, h7, h8, h9, h10, h11, h12, h13, h14, h15, h16, h17, h18, r⟩ := h
  refine ⟨ap_some h0, ap_some h1, ap_some h2, ap_some h3, ap_some h4, ap_some h5, ap_some h6, ap_some h7, ap_some h8, ap_some h9, ap_some h10, ap_some h11, ap_some h12, ap_some h13, ap_some h14, ap_some h15, ap_some h16, ap_some h17, ap_some h18, ?_⟩
  rw [hR]; exact r
theorem sLg_len {sh : List (Nat × Nat)} {R : Nat → Nat → Option Nat} {L : Nat} (h : sLg sh R L) : L + 9 < sh.length := (List.getElem?_eq_some_iff.mp h.2.2.2.2.2.2.2.2.2.1).1
/-- entries: one of them replaced -/
theorem cE_put {sh e : List (Nat × Nat)} {R R' : Nat → Nat → Option Nat} {k L : Nat} (h : cE sh R) (hk : k < 12) (hL : 141 ≤ L) (hs : sLg (sh ++ e) R' L) (hb : sh.length ≤ L) (e1 : ∀ j, j < 12 → j ≠ k → ent R' j = ent R j) (e2 : ent R' k = some L) (hR : ∀ a, 141 ≤ a → a < L → R' a = R a) : cE (sh ++ e) R' := by
  refine ⟨fun j hj M hM => ?_, fun j j' hj hj' hne M M' hM hM' => ?_⟩
  · by_cases c : j = k
    · rw [c, e2] at hM; cases hM; exact ⟨hL, hs⟩
    · rw [e1 j hj c] at hM
      have q := h.1 j hj M hM
      have := sLg_len q.2
      exact ⟨q.1, sLg_cg q.2 (hR M q.1 (by omega))⟩
  · by_cases c : j = k
    · rw [c, e2] at hM; cases hM
      rw [e1 j' hj' (by omega)] at hM'
      have := sLg_len (h.1 j' hj' M' hM').2
      omega
    · rw [e1 j hj c] at hM
      have := sLg_len (h.1 j hj M hM).2
      by_cases c' : j' = k
      · rw [c', e2] at hM'; cases hM'
        omega
      · rw [e1 j' hj' c'] at hM'
        exact h.2 j j' hj hj' hne M M' hM hM'
/-- the picture, when only a ledger of the ring is written and the ring's numbers -/
theorem RC_U {A : AS} {sh e : List (Nat × Nat)} {I I' : Nat → Nat → Int32} {J J' : Nat → Nat → Int64} {R R' : Nat → Nat → Option Nat} {k L : Nat} {U : Nat × (Nat → LG)} (h : RC A sh I J R) (hk : k < 10) (hI : ∀ a, a < 141 → a ≠ 118 → I' a = I a ∧ J' a = J a) (hO : ∀ a, 141 ≤ a → a < sh.length → (a < L ∨ L + 10 ≤ a) → I' a = I a ∧ J' a = J a) (hE : cE (sh ++ e) R') (hR : R' 120 = R 120) (hL : ent R' k = some L) (hU : cU I' J' R' U) : RC (aB A, aN A, aE A, aT A, aG A, U, aS A) (sh ++ e) I' J' R' := by
  obtain ⟨h1, h2, h3, h4, h5, h6, h7, h8, h9⟩ := h
  refine ⟨cL_cg (L := 102) h1 (fun a x y => (hI a (by omega) (by omega)).1) (fun a x y => (hI a (by omega) (by omega)).2), cT_cg h2 (fun a x y => (hI a (by omega) (by omega)).1), ?_, ?_, ?_, hE, hU, ?_, cL_cg (L := 84) h9 (fun a x y => (hI a (by omega) (by omega)).1) (fun a x y => (hI a (by omega) (by omega)).2)⟩
  · rw [(hI 65 (by omega) (by omega)).1]; exact h3
  · rw [(hI 64 (by omega) (by omega)).1]; exact h4
  · rw [(hI 64 (by omega) (by omega)).1]; exact h5
  · intro s hs
    rcases h8 s hs with q | ⟨M, G, q1, q2, q3⟩
    · exact Or.inl ⟨q.1, by rw [hR]; exact q.2⟩
    · have m0 : ent R (10 + s) = some M := by rw [ent, if_neg (by omega), show 10 + s - 10 = s by omega]; exact q1
      have m1 : ent R' (10 + s) = some M := by rw [ent, if_neg (by omega), show 10 + s - 10 = s by omega, hR]; exact q1
      have b := h6.1 (10 + s) (by omega) M m0
      have b2 := sLg_len b.2
      have b3 := hE.2 (10 + s) k (by omega) (by omega) (by omega) M L m1 hL
      exact Or.inr ⟨M, G, by rw [hR]; exact q1, q2, cL_cg q3 (fun a x y => (hO a (by omega) (by omega) (by omega)).1) (fun a x y => (hO a (by omega) (by omega) (by omega)).2)⟩
section
variable {g : pp_G} {h : Nat} {sh : List (Nat × Nat)} {I : Nat → Nat → Int32} {J : Nat → Nat → Int64} {R : Nat → Nat → Option Nat} {w : pp_W} {P : pp_R → pp_W → Prop} {G : LG} {T : TM} {n : Nat} {A : AS}
/-- the newest, one on -/
def nw1 (x : Nat) : Nat := if x + 1 < 10 then x + 1 else 0
theorem c_rem_60 {k nw L : Nat} (hC : sC sh R) (hA : RC A sh I J R) (hk : nw < 10) (hkk : k = nw1 nw) {sh' e : List (Nat × Nat)} {I1 : Nat → Nat → Int32} {J1 : Nat → Nat → Int64} {R1 : Nat → Nat → Option Nat} (hsh : sh' = sh ++ e) (hU0 : I 118 1 = Int32.ofNat nw ∧ I 118 2 = Int32.ofNat (aU A).1 ∧ (aU A).1 ≤ 10 ∧ ∀ i, i < (aU A).1 → ∃ L, ent R ((nw + 10 - i) % 10) = some L ∧ cL I J L ((aU A).2 i))
    (h1 : ∀ a, a < 141 → a ≠ 118 → I1 a = I a ∧ J1 a = J a) (h1o : ∀ a, 141 ≤ a → a < sh.length → (a < L ∨ L + 10 ≤ a) → I1 a = I a ∧ J1 a = J a) (h118 : I1 118 1 = Int32.ofNat k ∧ I1 118 2 = Int32.ofNat (aU A).1) (hE : cE sh' R1) (hR : ∀ a, a < 141 → a ≠ 119 → R1 a = R a) (e1 : ∀ j, j < 12 → j ≠ k → ent R1 j = ent R j) (hL : ent R1 k = some L)
    (hP : ∀ sh' I' J' R', sC sh' R' → fK sh I J R sh' I' J' R' → RC (chg A (aG A)) sh' I' J' R' → P (.inl none) (sh', I', J', R')) : pp_N g (h + 1) mi_X3_remember P 60 [(0, .ref 118), (1, .ref 102), (2, .ref L)] [] (sh', I1, J1, R1) := by
  have k10 : k < 10 := by rw [hkk, nw1]; split <;> omega
  have hC1 : sC sh' R1 := by rw [hsh]; exact sC_cg hC (fun a ha => hR a (by omega) (by omega))
  have q := hE.1 k (by omega) L hL
  refine pp_go rfl sk_X3_remember_60 ?_
  simp (disch := omega) only [sg_X3_remember_60, sw_c, sw_n, sx, sf_4, sv_i, sv_j, sv_r, sv_q1, sv_q0, sv_1i, sv_1r, sv_2, sl_i, sl_j, sl_a, sl_v, sp_p, sp_f1, sp_f2, sc_w, sc_c, sc_r, sc_f, sc_a, sc_k, pp_in, pp_al, ↓reduceIte, Nat.reduceEqDiff, Nat.reduceLT, Nat.reduceLeDiff, Nat.reduceAdd, Nat.reduceSub, Nat.reduceMul, List.length_cons, List.length_nil, true_and, and_true, and_self, true_implies, eq_self, not_true_eq_false, not_false_eq_true, false_implies, implies_true, false_and, and_false, Bool.false_eq_true, or_true, true_or, or_false, false_or, Classical.not_not, Nat.le_refl, Nat.lt_irrefl, Bool.true_eq_false, n_lit, n_a, n_c, n_s, n_b, n_m, n_g, n_w, n_n, hC1, q.2]
  refine c_copyFrom (L := L) (M := 102) (G := aG A) q.2 hC1.2.2.2.2.2.2.2 (Or.inr (by omega)) (cL_cg (L := 102) hA.1 (fun a x y => (h1 a (by omega) (by omega)).1) (fun a x y => (h1 a (by omega) (by omega)).2)) (fun I2 J2 f2 c2 => ?_)
  have e118 : I2 118 2 = Int32.ofNat (aU A).1 := by rw [(f2 118 (by omega)).1]; exact h118.2
  have e118' : I2 118 1 = Int32.ofNat k := by rw [(f2 118 (by omega)).1]; exact h118.1
  have u10 := hU0.2.2.1
  simp (disch := omega) only [sw_c, sw_n, sx, sf_4, sv_i, sv_j, sv_r, sv_q1, sv_q0, sv_1i, sv_1r, sv_2, sl_i, sl_j, sl_a, sl_v, sp_p, sp_f1, sp_f2, sc_w, sc_c, sc_r, sc_f, sc_a, sc_k, pp_in, pp_al, ↓reduceIte, Nat.reduceEqDiff, Nat.reduceLT, Nat.reduceLeDiff, Nat.reduceAdd, Nat.reduceSub, Nat.reduceMul, List.length_cons, List.length_nil, true_and, and_true, and_self, true_implies, eq_self, not_true_eq_false, not_false_eq_true, false_implies, implies_true, false_and, and_false, Bool.false_eq_true, or_true, true_or, or_false, false_or, Classical.not_not, Nat.le_refl, Nat.lt_irrefl, Bool.true_eq_false, n_lit, n_a, n_c, n_s, n_b, n_m, n_g, n_w, n_n, hC1, e118]
  have mn : (if 10 < (aU A).1 + 1 then Int32.ofNat 10 else Int32.ofNat ((aU A).1 + 1)) = Int32.ofNat (psh (aG A) (aU A)).1 := by
    rw [psh]
    by_cases c : (aU A).1 = 10
    · rw [if_pos (by omega), if_pos c]
    · rw [if_neg (by omega), if_neg c]
  rw [mn]
  have fr : ∀ a, a < 141 → a ≠ 118 → pp_s I2 118 (va_up (I2 118) 2 (Int32.ofNat (psh (aG A) (aU A)).1)) a = I a ∧ J2 a = J a := fun a x y => by
    rw [pp_s_ne _ _ y, (f2 a (by omega)).1, (f2 a (by omega)).2]; exact h1 a x y
  have fo : ∀ a, 141 ≤ a → a < sh.length → (a < L ∨ L + 10 ≤ a) → pp_s I2 118 (va_up (I2 118) 2 (Int32.ofNat (psh (aG A) (aU A)).1)) a = I a ∧ J2 a = J a := fun a x y z => by
    rw [pp_s_ne _ _ (by omega), (f2 a z).1, (f2 a z).2]; exact h1o a x y z
  have cl : ∀ {M : Nat} {G : LG}, 141 ≤ M → cL I2 J2 M G → cL (pp_s I2 118 (va_up (I2 118) 2 (Int32.ofNat (psh (aG A) (aU A)).1))) J2 M G := fun hM c => cL_cg c (fun a x y => pp_s_ne _ _ (by omega)) (fun _ _ _ => rfl)
  refine hP sh' _ J2 R1 hC1 ⟨⟨e, hsh⟩, fun a x y => ?_⟩ ?_
  · have := fr a (by omega) (by omega)
    exact ⟨this.1, this.2, hR a (by omega) (by omega)⟩
  · rw [hsh] at hE ⊢
    refine RC_U (k := k) (L := L) hA k10 fr fo hE (hR 120 (by omega) (by omega)) hL ⟨k, k10, ?_, ?_, ?_, fun i hi => ?_⟩
    · simp only [n_m, ↓reduceIte, Nat.reduceEqDiff]; exact e118'
    · simp only [n_m, ↓reduceIte]
    · show (if (aU A).1 = 10 then 10 else (aU A).1 + 1) ≤ 10
      split <;> omega
    · have hi : i < (if (aU A).1 = 10 then 10 else (aU A).1 + 1) := hi
      by_cases i0 : i = 0
      · subst i0
        refine ⟨L, by rw [show (k + 10 - 0) % 10 = k by omega]; exact hL, cl q.1 c2⟩
      · have i1 : i - 1 < (aU A).1 := by split at hi <;> omega
        have i9 : i < 10 := by split at hi <;> omega
        obtain ⟨M, m1, m2⟩ := hU0.2.2.2 (i - 1) i1
        have ix : (k + 10 - i) % 10 = (nw + 10 - (i - 1)) % 10 := by
          rw [hkk, nw1]; split <;> omega
        have ne : (k + 10 - i) % 10 ≠ k := by omega
        have m3 : ent R1 ((k + 10 - i) % 10) = some M := by rw [e1 _ (by omega) ne, ix]; exact m1
        have b0 := hA.2.2.2.2.2.1.1 _ (by omega) M m1
        have b := sLg_len b0.2
        have ap := hE.2 _ k (by omega) (by omega) ne M L m3 hL
        refine ⟨M, m3, ?_⟩
        show cL _ _ M (if i = 0 then aG A else (aU A).2 (i - 1))
        rw [if_neg i0]
        exact cl b0.1 (cL_cg m2 (fun a x y => by rw [(f2 a (by omega)).1]; exact (h1o a (by omega) (by omega) (by omega)).1) (fun a x y => by rw [(f2 a (by omega)).2]; exact (h1o a (by omega) (by omega) (by omega)).2))
theorem c_remember (hC : sC sh R) (hA : RC A sh I J R) (h141 : 141 ≤ sh.length) (hP : ∀ sh' I' J' R', sC sh' R' → fK sh I J R sh' I' J' R' → RC (chg A (aG A)) sh' I' J' R' → P (.inl none) (sh', I', J', R')) : pp_MW g (h + 2) mi_X3_remember [.ref 118, .ref 102] (sh, I, J, R) P := by
  refine pp_st0 [(0, .ref 118), (1, .ref 102)] ok_X3_remember rfl (Nat.le_of_ble_eq_true rfl) rfl ?_
  obtain ⟨nw, hk, u1, u2, u3, u4⟩ := hA.2.2.2.2.2.2.1
  have k10 : nw1 nw < 10 := by rw [nw1]; split <;> omega
  have K25 : pp_N g (h + 1) mi_X3_remember P 25 [(0, .ref 118), (1, .ref 102)] [.int (Int32.ofNat (nw1 nw)), .ref 118] (sh, I, J, R) := by
    have e : ent R (nw1 nw) = R 119 (nw1 nw) := if_pos k10
    cases hr : R 119 (nw1 nw) with
    | some L =>
      rw [hr] at e
      refine pp_go rfl sk_X3_remember_25 ?_
      simp (disch := omega) only [sg_X3_remember_25, sw_c, sw_n, sx, sf_4, sv_i, sv_j, sv_r, sv_q1, sv_q0, sv_1i, sv_1r, sv_2, sl_i, sl_j, sl_a, sl_v, sp_p, sp_f1, sp_f2, sc_w, sc_c, sc_r, sc_f, sc_a, sc_k, pp_in, pp_al, ↓reduceIte, Nat.reduceEqDiff, Nat.reduceLT, Nat.reduceLeDiff, Nat.reduceAdd, Nat.reduceSub, Nat.reduceMul, List.length_cons, List.length_nil, true_and, and_true, and_self, true_implies, eq_self, not_true_eq_false, not_false_eq_true, false_implies, implies_true, false_and, and_false, Bool.false_eq_true, or_true, true_or, or_false, false_or, Classical.not_not, Nat.le_refl, Nat.lt_irrefl, Bool.true_eq_false, n_lit, n_a, n_c, n_s, n_b, n_m, n_g, n_w, n_n, hC, hr]
      refine c_rem_60 (e := []) hC hA hk rfl (by simp) ⟨u1, u2, u3, u4⟩ (fun a x y => ⟨pp_s_ne _ _ y, rfl⟩) (fun a x y z => ⟨pp_s_ne _ _ (by omega), rfl⟩) ⟨by simp only [n_m, ↓reduceIte], by simp only [n_m, ↓reduceIte, Nat.reduceEqDiff]; exact u2⟩ hA.2.2.2.2.2.1 (fun _ _ _ => rfl) (fun _ _ _ => rfl) e hP
    | none =>
      refine pp_go rfl sk_X3_remember_25 ?_
      simp (disch := omega) only [sg_X3_remember_25, sw_c, sw_n, sx, sf_4, sv_i, sv_j, sv_r, sv_q1, sv_q0, sv_1i, sv_1r, sv_2, sl_i, sl_j, sl_a, sl_v, sp_p, sp_f1, sp_f2, sc_w, sc_c, sc_r, sc_f, sc_a, sc_k, pp_in, pp_al, ↓reduceIte, Nat.reduceEqDiff, Nat.reduceLT, Nat.reduceLeDiff, Nat.reduceAdd, Nat.reduceSub, Nat.reduceMul, List.length_cons, List.length_nil, true_and, and_true, and_self, true_implies, eq_self, not_true_eq_false, not_false_eq_true, false_implies, implies_true, false_and, and_false, Bool.false_eq_true, or_true, true_or, or_false, false_or, Classical.not_not, Nat.le_refl, Nat.lt_irrefl, Bool.true_eq_false, n_lit, n_a, n_c, n_s, n_b, n_m, n_g, n_w, n_n, hC, hr, pp_nw]
      have s4 : (sh ++ [(4, 0)])[sh.length]? = some (4, 0) := by simp
      refine c_Linit (L := sh.length) (by simp) s4 (by rw [pp_s_eq]) (by rw [pp_s_eq]) (fun I2 J2 R2 l2 c2 f2 => ?_)
      have hC2 : sC (sh ++ [(4, 0)] ++ ls9) R2 := by
        rw [List.append_assoc]
        exact sC_cg hC (fun a ha => by rw [(f2 a (by omega)).2.2, pp_s_ne _ _ (by omega)])
      have e118 : I2 118 1 = Int32.ofNat (nw1 nw) := by rw [(f2 118 (by omega)).1]; simp only [n_m, ↓reduceIte]; rw [if_neg (by omega)]; simp only [n_m, ↓reduceIte]
      have e118' : I2 118 2 = Int32.ofNat (aU A).1 := by rw [(f2 118 (by omega)).1]; simp only [n_m, ↓reduceIte]; rw [if_neg (by omega)]; simp only [n_m, ↓reduceIte, Nat.reduceEqDiff]; exact u2
      simp (disch := omega) only [sw_c, sw_n, sx, sf_4, sv_i, sv_j, sv_r, sv_q1, sv_q0, sv_1i, sv_1r, sv_2, sl_i, sl_j, sl_a, sl_v, sp_p, sp_f1, sp_f2, sc_w, sc_c, sc_r, sc_f, sc_a, sc_k, pp_in, pp_al, ↓reduceIte, Nat.reduceEqDiff, Nat.reduceLT, Nat.reduceLeDiff, Nat.reduceAdd, Nat.reduceSub, Nat.reduceMul, List.length_cons, List.length_nil, true_and, and_true, and_self, true_implies, eq_self, not_true_eq_false, not_false_eq_true, false_implies, implies_true, false_and, and_false, Bool.false_eq_true, or_true, true_or, or_false, false_or, Classical.not_not, Nat.le_refl, Nat.lt_irrefl, Bool.true_eq_false, n_lit, n_a, n_c, n_s, n_b, n_m, n_g, n_w, n_n, hC2, e118, l2]
      have r2 : ∀ a, a < sh.length → R2 a = R a := fun a ha => by rw [(f2 a ha).2.2, pp_s_ne _ _ (by omega)]
      have en : ∀ j, j < 12 → ent (pp_s R2 119 (va_up (R2 119) (nw1 nw) (some sh.length))) j = if j = nw1 nw then some sh.length else ent R j := fun j hj => by
        rw [ent, ent, pp_s_eq, pp_s_ne _ _ (by omega), va_up, r2 119 (by omega), r2 120 (by omega)]
        by_cases c : j < 10
        · rw [if_pos c, if_pos c]
        · rw [if_neg c, if_neg c, if_neg (by omega)]
      have ie : ∀ a, a < sh.length → a ≠ 118 → I2 a = I a ∧ J2 a = J a := fun a x y => by
        rw [(f2 a x).1, (f2 a x).2.1, pp_s_ne _ _ (by omega), pp_s_ne _ _ (by omega)]
        exact ⟨by first | rfl | exact pp_s_ne _ _ y, by first | rfl | exact pp_s_ne _ _ (by omega)⟩
      refine ⟨fun b hb => by cases hb; exact l2.1, ?_⟩
      refine c_rem_60 (L := sh.length) (k := nw1 nw) (e := [(4, 0)] ++ ls9) hC hA hk rfl (by rw [List.append_assoc]) ⟨u1, u2, u3, u4⟩ (fun a x y => ie a (by omega) y) (fun a x y z => ie a y (by omega)) ⟨e118, e118'⟩ ?_ (fun a x y => ?_) (fun j x y => by rw [en j x, if_neg y]) (by rw [en _ (by omega), if_pos rfl]) hP
      · rw [List.append_assoc]
        refine cE_put (k := nw1 nw) (L := sh.length) hA.2.2.2.2.2.1 (by omega) h141 ?_ (Nat.le_refl _) (fun j x y => by rw [en j x, if_neg y]) (by rw [en _ (by omega), if_pos rfl]) (fun a x y => ?_)
        · rw [← List.append_assoc]
          have : pp_s R2 119 (va_up (R2 119) (nw1 nw) (some sh.length)) sh.length = R2 sh.length := pp_s_ne _ _ (by omega)
          obtain ⟨h0, h1, h2, h3, h4, h5, h6, h7, h8, h9, r⟩ := l2
          refine ⟨h0, h1, h2, h3, h4, h5, h6, h7, h8, h9, ?_⟩
          rw [this]; exact r
        · rw [pp_s_ne _ _ (by omega)]; exact r2 a y
      · rw [pp_s_ne _ _ y]; exact r2 a (by omega)
  by_cases c : nw + 1 < 10
  · have q1 : ¬ 10 ≤ nw + 1 := by omega
    refine pp_go rfl sk_X3_remember_0 ?_
    simp (disch := omega) only [sg_X3_remember_0, sw_c, sw_n, sx, sf_4, sv_i, sv_j, sv_r, sv_q1, sv_q0, sv_1i, sv_1r, sv_2, sl_i, sl_j, sl_a, sl_v, sp_p, sp_f1, sp_f2, sc_w, sc_c, sc_r, sc_f, sc_a, sc_k, pp_in, pp_al, ↓reduceIte, Nat.reduceEqDiff, Nat.reduceLT, Nat.reduceLeDiff, Nat.reduceAdd, Nat.reduceSub, Nat.reduceMul, List.length_cons, List.length_nil, true_and, and_true, and_self, true_implies, eq_self, not_true_eq_false, not_false_eq_true, false_implies, implies_true, false_and, and_false, Bool.false_eq_true, or_true, true_or, or_false, false_or, Classical.not_not, Nat.le_refl, Nat.lt_irrefl, Bool.true_eq_false, n_lit, n_a, n_c, n_s, n_b, n_m, n_g, n_w, n_n, hC, u1, q1]
    rw [nw1, if_pos c] at K25
    exact K25
  · have q1 : 10 ≤ nw + 1 := by omega
    refine pp_go rfl sk_X3_remember_0 ?_
    simp (disch := omega) only [sg_X3_remember_0, sw_c, sw_n, sx, sf_4, sv_i, sv_j, sv_r, sv_q1, sv_q0, sv_1i, sv_1r, sv_2, sl_i, sl_j, sl_a, sl_v, sp_p, sp_f1, sp_f2, sc_w, sc_c, sc_r, sc_f, sc_a, sc_k, pp_in, pp_al, ↓reduceIte, Nat.reduceEqDiff, Nat.reduceLT, Nat.reduceLeDiff, Nat.reduceAdd, Nat.reduceSub, Nat.reduceMul, List.length_cons, List.length_nil, true_and, and_true, and_self, true_implies, eq_self, not_true_eq_false, not_false_eq_true, false_implies, implies_true, false_and, and_false, Bool.false_eq_true, or_true, true_or, or_false, false_or, Classical.not_not, Nat.le_refl, Nat.lt_irrefl, Bool.true_eq_false, n_lit, n_a, n_c, n_s, n_b, n_m, n_g, n_w, n_n, hC, u1, q1]
    refine pp_go rfl sk_X3_remember_24 ?_
    simp (disch := omega) only [sg_X3_remember_24, sw_c, sw_n, sx, sf_4, sv_i, sv_j, sv_r, sv_q1, sv_q0, sv_1i, sv_1r, sv_2, sl_i, sl_j, sl_a, sl_v, sp_p, sp_f1, sp_f2, sc_w, sc_c, sc_r, sc_f, sc_a, sc_k, pp_in, pp_al, ↓reduceIte, Nat.reduceEqDiff, Nat.reduceLT, Nat.reduceLeDiff, Nat.reduceAdd, Nat.reduceSub, Nat.reduceMul, List.length_cons, List.length_nil, true_and, and_true, and_self, true_implies, eq_self, not_true_eq_false, not_false_eq_true, false_implies, implies_true, false_and, and_false, Bool.false_eq_true, or_true, true_or, or_false, false_or, Classical.not_not, Nat.le_refl, Nat.lt_irrefl, Bool.true_eq_false, n_lit, n_a, n_c, n_s, n_b, n_m, n_g, n_w, n_n]
    rw [nw1, if_neg c] at K25
    exact K25
end
