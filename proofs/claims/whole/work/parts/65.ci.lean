/-! THE CLASS, 18: drafts, numbers read and kept -/
set_option maxHeartbeats 2000000
set_option maxRecDepth 100000
abbrev cW (I : Nat → Nat → Int32) (J : Nat → Nat → Int64) (G : LG) : Prop := cLx I J 74 75 76 77 78 79 80 81 82 83 G
section
variable {I : Nat → Nat → Int32} {J : Nat → Nat → Int64} {G : LG}
theorem wF_2 {x : Nat} (hG : cW I J G) : cW (pp_s I 74 (va_up (I 74) 2 (Int32.ofNat x))) J (va_up G.1 7 x, G.2) := by
  obtain ⟨g0, g1, g2, g4, g11, g14, g15, g16, g17, g18, a1, a2, a3, a4, a5, a6, a7, a8, a9⟩ := hG
  refine ⟨?_, ?_, ?_, ?_, ?_, ?_, ?_, ?_, ?_, ?_, fun m hm => ?_, fun m hm => ?_, fun m hm => ?_, fun m hm => ?_, fun m hm => ?_, fun m hm => ?_, fun m hm => ?_, fun m hm => ?_, fun m hm => ?_⟩
  · simp only [n_m, ↓reduceIte, Nat.reduceEqDiff]; first | exact g0 | (rw [if_neg (by omega)]; exact g0)
  · simp only [n_m, ↓reduceIte, Nat.reduceEqDiff]; first | exact g1 | (rw [if_neg (by omega)]; exact g1)
  · simp only [n_m, ↓reduceIte]
  · simp only [n_m, ↓reduceIte, Nat.reduceEqDiff]; first | exact g4 | (rw [if_neg (by omega)]; exact g4)
  · rw [cdt_cg (G := G) (fun l hl => by simp only [va_up]; rw [if_neg (by omega)])]; first | exact g11 | (simp only [n_m, ↓reduceIte, Nat.reduceEqDiff]; exact g11)
  · exact g14
  · exact g15
  · exact g16
  · exact g17
  · exact g18
  · simp only [n_m, ↓reduceIte, Nat.reduceEqDiff]; first | exact a1 m hm | (rw [if_neg (by omega)]; exact a1 m hm)
  · simp only [n_m, ↓reduceIte, Nat.reduceEqDiff]; first | exact a2 m hm | (rw [if_neg (by omega)]; exact a2 m hm)
  · simp only [n_m, ↓reduceIte, Nat.reduceEqDiff]; first | exact a3 m hm | (rw [if_neg (by omega)]; exact a3 m hm)
  · simp only [n_m, ↓reduceIte, Nat.reduceEqDiff]; first | exact a4 m hm | (rw [if_neg (by omega)]; exact a4 m hm)
  · simp only [n_m, ↓reduceIte, Nat.reduceEqDiff]; first | exact a5 m hm | (rw [if_neg (by omega)]; exact a5 m hm)
  · simp only [n_m, ↓reduceIte, Nat.reduceEqDiff]; first | exact a6 m hm | (rw [if_neg (by omega)]; exact a6 m hm)
  · exact a7 m hm
  · exact a8 m hm
  · exact a9 m hm
theorem wF_4 {x : Nat} (hG : cW I J G) : cW (pp_s I 74 (va_up (I 74) 4 (Int32.ofNat x))) J (va_up G.1 8 x, G.2) := by
  obtain ⟨g0, g1, g2, g4, g11, g14, g15, g16, g17, g18, a1, a2, a3, a4, a5, a6, a7, a8, a9⟩ := hG
  refine ⟨?_, ?_, ?_, ?_, ?_, ?_, ?_, ?_, ?_, ?_, fun m hm => ?_, fun m hm => ?_, fun m hm => ?_, fun m hm => ?_, fun m hm => ?_, fun m hm => ?_, fun m hm => ?_, fun m hm => ?_, fun m hm => ?_⟩
  · simp only [n_m, ↓reduceIte, Nat.reduceEqDiff]; first | exact g0 | (rw [if_neg (by omega)]; exact g0)
  · simp only [n_m, ↓reduceIte, Nat.reduceEqDiff]; first | exact g1 | (rw [if_neg (by omega)]; exact g1)
  · simp only [n_m, ↓reduceIte, Nat.reduceEqDiff]; first | exact g2 | (rw [if_neg (by omega)]; exact g2)
  · simp only [n_m, ↓reduceIte]
  · rw [cdt_cg (G := G) (fun l hl => by simp only [va_up]; rw [if_neg (by omega)])]; first | exact g11 | (simp only [n_m, ↓reduceIte, Nat.reduceEqDiff]; exact g11)
  · exact g14
  · exact g15
  · exact g16
  · exact g17
  · exact g18
  · simp only [n_m, ↓reduceIte, Nat.reduceEqDiff]; first | exact a1 m hm | (rw [if_neg (by omega)]; exact a1 m hm)
  · simp only [n_m, ↓reduceIte, Nat.reduceEqDiff]; first | exact a2 m hm | (rw [if_neg (by omega)]; exact a2 m hm)
  · simp only [n_m, ↓reduceIte, Nat.reduceEqDiff]; first | exact a3 m hm | (rw [if_neg (by omega)]; exact a3 m hm)
  · simp only [n_m, ↓reduceIte, Nat.reduceEqDiff]; first | exact a4 m hm | (rw [if_neg (by omega)]; exact a4 m hm)
  · simp only [n_m, ↓reduceIte, Nat.reduceEqDiff]; first | exact a5 m hm | (rw [if_neg (by omega)]; exact a5 m hm)
  · simp only [n_m, ↓reduceIte, Nat.reduceEqDiff]; first | exact a6 m hm | (rw [if_neg (by omega)]; exact a6 m hm)
  · exact a7 m hm
  · exact a8 m hm
  · exact a9 m hm
theorem wA_75 {k x : Nat} (hk : k < 8) (hG : cW I J G) : cW (pp_s I 75 (va_up (I 75) k (Int32.ofNat x))) J (va_up G.1 (9 + k) x, G.2) := by
  obtain ⟨g0, g1, g2, g4, g11, g14, g15, g16, g17, g18, a1, a2, a3, a4, a5, a6, a7, a8, a9⟩ := hG
  refine ⟨?_, ?_, ?_, ?_, ?_, ?_, ?_, ?_, ?_, ?_, fun m hm => ?_, fun m hm => ?_, fun m hm => ?_, fun m hm => ?_, fun m hm => ?_, fun m hm => ?_, fun m hm => ?_, fun m hm => ?_, fun m hm => ?_⟩
  · simp only [n_m, ↓reduceIte, Nat.reduceEqDiff]; first | exact g0 | (rw [if_neg (by omega)]; exact g0)
  · simp only [n_m, ↓reduceIte, Nat.reduceEqDiff]; first | exact g1 | (rw [if_neg (by omega)]; exact g1)
  · simp only [n_m, ↓reduceIte, Nat.reduceEqDiff]; first | exact g2 | (rw [if_neg (by omega)]; exact g2)
  · simp only [n_m, ↓reduceIte, Nat.reduceEqDiff]; first | exact g4 | (rw [if_neg (by omega)]; exact g4)
  · rw [cdt_cg (G := G) (fun l hl => by simp only [va_up]; rw [if_neg (by omega)])]; first | exact g11 | (simp only [n_m, ↓reduceIte, Nat.reduceEqDiff]; exact g11)
  · exact g14
  · exact g15
  · exact g16
  · exact g17
  · exact g18
  · simp only [n_m, ↓reduceIte]
    by_cases z : m = k
    · rw [if_pos z, if_pos (by omega)]
    · rw [if_neg z, if_neg (by omega)]; exact a1 m hm
  · simp only [n_m, ↓reduceIte, Nat.reduceEqDiff]; first | exact a2 m hm | (rw [if_neg (by omega)]; exact a2 m hm)
  · simp only [n_m, ↓reduceIte, Nat.reduceEqDiff]; first | exact a3 m hm | (rw [if_neg (by omega)]; exact a3 m hm)
  · simp only [n_m, ↓reduceIte, Nat.reduceEqDiff]; first | exact a4 m hm | (rw [if_neg (by omega)]; exact a4 m hm)
  · simp only [n_m, ↓reduceIte, Nat.reduceEqDiff]; first | exact a5 m hm | (rw [if_neg (by omega)]; exact a5 m hm)
  · simp only [n_m, ↓reduceIte, Nat.reduceEqDiff]; first | exact a6 m hm | (rw [if_neg (by omega)]; exact a6 m hm)
  · exact a7 m hm
  · exact a8 m hm
  · exact a9 m hm
theorem wA_76 {k x : Nat} (hk : k < 16) (hG : cW I J G) : cW (pp_s I 76 (va_up (I 76) k (Int32.ofNat x))) J (va_up G.1 (17 + k) x, G.2) := by
  obtain ⟨g0, g1, g2, g4, g11, g14, g15, g16, g17, g18, a1, a2, a3, a4, a5, a6, a7, a8, a9⟩ := hG
  refine ⟨?_, ?_, ?_, ?_, ?_, ?_, ?_, ?_, ?_, ?_, fun m hm => ?_, fun m hm => ?_, fun m hm => ?_, fun m hm => ?_, fun m hm => ?_, fun m hm => ?_, fun m hm => ?_, fun m hm => ?_, fun m hm => ?_⟩
  · simp only [n_m, ↓reduceIte, Nat.reduceEqDiff]; first | exact g0 | (rw [if_neg (by omega)]; exact g0)
  · simp only [n_m, ↓reduceIte, Nat.reduceEqDiff]; first | exact g1 | (rw [if_neg (by omega)]; exact g1)
  · simp only [n_m, ↓reduceIte, Nat.reduceEqDiff]; first | exact g2 | (rw [if_neg (by omega)]; exact g2)
  · simp only [n_m, ↓reduceIte, Nat.reduceEqDiff]; first | exact g4 | (rw [if_neg (by omega)]; exact g4)
  · rw [cdt_cg (G := G) (fun l hl => by simp only [va_up]; rw [if_neg (by omega)])]; first | exact g11 | (simp only [n_m, ↓reduceIte, Nat.reduceEqDiff]; exact g11)
  · exact g14
  · exact g15
  · exact g16
  · exact g17
  · exact g18
  · simp only [n_m, ↓reduceIte, Nat.reduceEqDiff]; first | exact a1 m hm | (rw [if_neg (by omega)]; exact a1 m hm)
  · simp only [n_m, ↓reduceIte]
    by_cases z : m = k
    · rw [if_pos z, if_pos (by omega)]
    · rw [if_neg z, if_neg (by omega)]; exact a2 m hm
  · simp only [n_m, ↓reduceIte, Nat.reduceEqDiff]; first | exact a3 m hm | (rw [if_neg (by omega)]; exact a3 m hm)
  · simp only [n_m, ↓reduceIte, Nat.reduceEqDiff]; first | exact a4 m hm | (rw [if_neg (by omega)]; exact a4 m hm)
  · simp only [n_m, ↓reduceIte, Nat.reduceEqDiff]; first | exact a5 m hm | (rw [if_neg (by omega)]; exact a5 m hm)
  · simp only [n_m, ↓reduceIte, Nat.reduceEqDiff]; first | exact a6 m hm | (rw [if_neg (by omega)]; exact a6 m hm)
  · exact a7 m hm
  · exact a8 m hm
  · exact a9 m hm
theorem wA_77 {k x : Nat} (hk : k < 16) (hG : cW I J G) : cW (pp_s I 77 (va_up (I 77) k (Int32.ofNat x))) J (va_up G.1 (33 + k) x, G.2) := by
  obtain ⟨g0, g1, g2, g4, g11, g14, g15, g16, g17, g18, a1, a2, a3, a4, a5, a6, a7, a8, a9⟩ := hG
  refine ⟨?_, ?_, ?_, ?_, ?_, ?_, ?_, ?_, ?_, ?_, fun m hm => ?_, fun m hm => ?_, fun m hm => ?_, fun m hm => ?_, fun m hm => ?_, fun m hm => ?_, fun m hm => ?_, fun m hm => ?_, fun m hm => ?_⟩
  · simp only [n_m, ↓reduceIte, Nat.reduceEqDiff]; first | exact g0 | (rw [if_neg (by omega)]; exact g0)
  · simp only [n_m, ↓reduceIte, Nat.reduceEqDiff]; first | exact g1 | (rw [if_neg (by omega)]; exact g1)
  · simp only [n_m, ↓reduceIte, Nat.reduceEqDiff]; first | exact g2 | (rw [if_neg (by omega)]; exact g2)
  · simp only [n_m, ↓reduceIte, Nat.reduceEqDiff]; first | exact g4 | (rw [if_neg (by omega)]; exact g4)
  · rw [cdt_cg (G := G) (fun l hl => by simp only [va_up]; rw [if_neg (by omega)])]; first | exact g11 | (simp only [n_m, ↓reduceIte, Nat.reduceEqDiff]; exact g11)
  · exact g14
  · exact g15
  · exact g16
  · exact g17
  · exact g18
  · simp only [n_m, ↓reduceIte, Nat.reduceEqDiff]; first | exact a1 m hm | (rw [if_neg (by omega)]; exact a1 m hm)
  · simp only [n_m, ↓reduceIte, Nat.reduceEqDiff]; first | exact a2 m hm | (rw [if_neg (by omega)]; exact a2 m hm)
  · simp only [n_m, ↓reduceIte]
    by_cases z : m = k
    · rw [if_pos z, if_pos (by omega)]
    · rw [if_neg z, if_neg (by omega)]; exact a3 m hm
  · simp only [n_m, ↓reduceIte, Nat.reduceEqDiff]; first | exact a4 m hm | (rw [if_neg (by omega)]; exact a4 m hm)
  · simp only [n_m, ↓reduceIte, Nat.reduceEqDiff]; first | exact a5 m hm | (rw [if_neg (by omega)]; exact a5 m hm)
  · simp only [n_m, ↓reduceIte, Nat.reduceEqDiff]; first | exact a6 m hm | (rw [if_neg (by omega)]; exact a6 m hm)
  · exact a7 m hm
  · exact a8 m hm
  · exact a9 m hm
end
theorem dG_0 {D : DR} {v u : Nat} (h : D.1 0 < 8) : dG (uDr D 0 v u) = (va_up (va_up (dG D).1 (9 + D.1 0) v) 7 (D.1 0 + 1), (dG D).2) := by
  refine Prod.ext ?_ rfl
  funext i
  simp only [dG, uDr, va_up, ↓reduceIte, Nat.reduceEqDiff]
  by_cases c7 : i = 7
  · simp only [c7, ↓reduceIte]
  by_cases c8 : i = 8
  · have c : ¬ (8 = 9 + D.1 0) := by omega
    simp only [c8, c, ↓reduceIte, Nat.reduceEqDiff]
  by_cases c : i = 9 + D.1 0
  · have d : 9 ≤ 9 + D.1 0 ∧ 9 + D.1 0 < 9 + (D.1 0 + 1) := by omega
    have c7' : ¬ (9 + D.1 0 = 7) := by omega
    have c8' : ¬ (9 + D.1 0 = 8) := by omega
    have e : 9 + D.1 0 - 9 = D.1 0 := by omega
    simp only [c, d, c7', c8', e, ↓reduceIte, and_self]
  by_cases d : 9 ≤ i ∧ i < 9 + D.1 0
  · have d' : 9 ≤ i ∧ i < 9 + (D.1 0 + 1) := by omega
    have e : ¬ i - 9 = D.1 0 := by omega
    rw [if_neg c7, if_neg c8, if_pos d', if_neg e, if_neg c7, if_neg c, if_neg c7, if_neg c8, if_pos d]
  · have d' : ¬ (9 ≤ i ∧ i < 9 + (D.1 0 + 1)) := by omega
    simp only [c7, c8, c, ↓reduceIte]
    rw [if_neg d', if_neg d]
theorem dG_2 {D : DR} {v u : Nat} (h0 : D.1 0 ≤ 8) (h : D.1 2 < 16) : dG (uDr D 2 v u) = (va_up (va_up (va_up (dG D).1 (17 + D.1 2) v) (33 + D.1 2) u) 8 (D.1 2 + 1), (dG D).2) := by
  refine Prod.ext ?_ rfl
  funext i
  simp only [dG, uDr, va_up, ↓reduceIte, Nat.reduceEqDiff]
  by_cases c8 : i = 8
  · rw [if_pos c8, if_neg (by omega), if_pos c8]
  rw [if_neg c8, if_neg c8]
  by_cases c7 : i = 7
  · rw [if_pos c7, if_neg (by omega), if_neg (by omega), if_pos c7]
  rw [if_neg c7]
  by_cases c9 : 9 ≤ i ∧ i < 9 + D.1 0
  · rw [if_pos c9, if_neg (by omega), if_neg (by omega), if_neg c7, if_neg c8, if_pos c9]
  rw [if_neg c9]
  by_cases e2 : i = 33 + D.1 2
  · rw [if_neg (by omega), if_pos (by omega), if_pos (by omega), if_pos e2]
  rw [if_neg e2]
  by_cases e1 : i = 17 + D.1 2
  · rw [if_pos (by omega), if_neg (by omega), if_pos (by omega), if_pos e1]
  rw [if_neg e1, if_neg c7, if_neg c8, if_neg c9]
  by_cases d1 : 17 ≤ i ∧ i < 17 + D.1 2
  · rw [if_pos (by omega), if_neg (by omega), if_neg (by omega), if_pos d1]
  rw [if_neg (show ¬ (17 ≤ i ∧ i < 17 + (D.1 2 + 1)) by omega), if_neg d1]
  by_cases d2 : 33 ≤ i ∧ i < 33 + D.1 2
  · rw [if_pos (by omega), if_neg (by omega), if_neg (by omega), if_pos d2]
  · rw [if_neg (by omega), if_neg d2]
/-- the draft in the parser's objects -/
abbrev sNC (I : Nat → Nat → Int32) (S : Nat → Bool) : Prop := ∃ s, s < 4096 ∧ I 66 4 = Int32.ofNat s ∧ ∀ i, i < 8 → bit s (4 + i) = S i
abbrev cV (I : Nat → Nat → Int32) (D : DR) : Prop := cTx I 67 68 69 70 71 72 (dT D)
abbrev PC (b : Nat → Nat) (n : Nat) (I : Nat → Nat → Int32) (J : Nat → Nat → Int64) (t : TK) (D : DR) : Prop := xC I b n ∧ tC I b n t ∧ cW I J (dG D) ∧ cV I D ∧ sNC I D.2.2.2.2.2.2 ∧ wfD D
abbrev fR (I I' : Nat → Nat → Int32) : Prop := (∀ a, a ≠ 94 → a ≠ 66 → I' a = I a) ∧ I' 94 1 = I 94 1 ∧ ∀ k, k < 5 → I' 66 k = I 66 k
def pR (sh : List (Nat × Nat)) (I : Nat → Nat → Int32) (J : Nat → Nat → Int64) (R : Nat → Nat → Option Nat) (P : pp_R → pp_W → Prop) (b : Nat → Nat) (n : Nat) (two : Bool) (r : NR) : Prop := match r with
  | .inl e => ∀ I', fR I I' → I' 94 4 = Int32.ofNat e.2 → P (.inl (some (.int (Int32.ofNat e.1)))) (sh, I', J, R)
  | .inr q => ∀ I', fR I I' → tC I' b n q.1 → I' 66 5 = Int32.ofNat q.2.1 → (two = true → I' 66 6 = Int32.ofNat q.2.2) → P (.inl (some (.int (Int32.ofNat 0)))) (sh, I', J, R)
theorem hI_n {hi : Nat} (h1 : 0 < hi) (h2 : hi ≤ 10000) : ∀ v, v < 10000 → (Int32.ofNat v ≤ Int32.ofNat (hi - 1)) = (v < hi) := fun v hv => by
  rw [n_c.2.1 _ _ (by omega) (by omega)]
  exact propext ⟨fun _ => by omega, fun _ => by omega⟩
theorem hI_m {m : Nat} (hm : m ≤ 8) : ∀ v, v < 10000 → (Int32.ofNat v ≤ Int32.ofNat m - Int32.ofNat 1) = (v < m) := fun v hv => by
  rcases Nat.eq_zero_or_pos m with z | z
  · subst z
    rw [n_sub, Int32.le_iff_toInt_le, n_i.2.2.1 _ (by omega) (by omega), n_i.2.2.2 _ (by omega)]
    exact propext ⟨fun q => by omega, fun q => absurd q (Nat.not_lt_zero _)⟩
  · rw [n_s.1 m 1 (by omega)]; exact hI_n z (by omega) v hv
section
variable {g : pp_G} {h : Nat} {sh : List (Nat × Nat)} {I : Nat → Nat → Int32} {J : Nat → Nat → Int64} {R : Nat → Nat → Option Nat} {w : pp_W} {P : pp_R → pp_W → Prop} {b : Nat → Nat} {n : Nat} {t : TK} {D : DR}
theorem c_readOne {lo hi : Nat} {x : Int32} (hC : sC sh R) (hx : xC I b n) (ht : tC I b n t) (hl : lo < 10000) (hh : ∀ v, v < 10000 → (Int32.ofNat v ≤ x) = (v < hi)) (h1 : t.1 ≠ 2 → P (.inl (some (.int (Int32.ofNat 1)))) (sh, I, J, R)) (h3 : t.1 = 2 → ¬ (lo ≤ t.2.2.2 ∧ t.2.2.2 < hi) → P (.inl (some (.int (Int32.ofNat 3)))) (sh, I, J, R)) (h6 : ∀ I', fR I I' → tC I' b n (nxt b n t) → t.1 = 2 → (lo ≤ t.2.2.2 ∧ t.2.2.2 < hi) → I' 66 5 = Int32.ofNat t.2.2.2 → I' 66 6 = I 66 6 → P (.inl (some (.int (Int32.ofNat 0)))) (sh, I', J, R)) : pp_MW g (h + 3) mi_X5_readOne [.ref 66, .int (Int32.ofNat lo), .int x] (sh, I, J, R) P := by
  refine pp_st0 [(0, .ref 66), (1, .int (Int32.ofNat lo)), (2, .int x)] ok_X5_readOne rfl (Nat.le_of_ble_eq_true rfl) rfl ?_
  have tb := tk_b ht.1
  have h7 := hx.2.2.1
  by_cases k2 : t.1 = 2
  · have e15 := ht.2.2.2.2 (Or.inl k2)
    have v := tb.2.2.2.2.2.1 k2
    have hv := hh _ v
    refine pp_go rfl sk_X5_readOne_0 ?_
    simp (disch := omega) only [sg_X5_readOne_0, sw_c, sw_n, sx, sf_4, sv_i, sv_j, sv_r, sv_q1, sv_q0, sv_1i, sv_1r, sv_2, sl_i, sl_j, sl_a, sl_v, sp_p, sp_f1, sp_f2, sc_w, sc_c, sc_r, sc_f, sc_a, sc_k, pp_in, pp_al, ↓reduceIte, Nat.reduceEqDiff, Nat.reduceLT, Nat.reduceLeDiff, Nat.reduceAdd, Nat.reduceSub, Nat.reduceMul, List.length_cons, List.length_nil, true_and, and_true, and_self, true_implies, eq_self, not_true_eq_false, not_false_eq_true, false_implies, implies_true, false_and, and_false, Bool.false_eq_true, or_true, true_or, or_false, false_or, Classical.not_not, Nat.le_refl, Nat.lt_irrefl, Bool.true_eq_false, n_lit, n_a, n_c, n_s, n_b, n_m, n_g, n_w, n_n, rk_X5_readOne, hC, ht.2.1, k2]
    have K35 : ¬ (lo ≤ t.2.2.2 ∧ t.2.2.2 < hi) → pp_N g (h + 2) mi_X5_readOne P 35 [(0, .ref 66), (1, .int (Int32.ofNat lo)), (2, .int x)] [] (sh, I, J, R) := by
      intro z
      refine pp_go rfl sk_X5_readOne_35 ?_
      simp (disch := omega) only [sg_X5_readOne_35, sw_c, sw_n, sx, sf_4, sv_i, sv_j, sv_r, sv_q1, sv_q0, sv_1i, sv_1r, sv_2, sl_i, sl_j, sl_a, sl_v, sp_p, sp_f1, sp_f2, sc_w, sc_c, sc_r, sc_f, sc_a, sc_k, pp_in, pp_al, ↓reduceIte, Nat.reduceEqDiff, Nat.reduceLT, Nat.reduceLeDiff, Nat.reduceAdd, Nat.reduceSub, Nat.reduceMul, List.length_cons, List.length_nil, true_and, and_true, and_self, true_implies, eq_self, not_true_eq_false, not_false_eq_true, false_implies, implies_true, false_and, and_false, Bool.false_eq_true, or_true, true_or, or_false, false_or, Classical.not_not, Nat.le_refl, Nat.lt_irrefl, Bool.true_eq_false, n_lit, n_a, n_c, n_s, n_b, n_m, n_g, n_w, n_n, rk_X5_readOne]
      exact h3 k2 z
    refine pp_go rfl sk_X5_readOne_13 ?_
    simp (disch := omega) only [sg_X5_readOne_13, sw_c, sw_n, sx, sf_4, sv_i, sv_j, sv_r, sv_q1, sv_q0, sv_1i, sv_1r, sv_2, sl_i, sl_j, sl_a, sl_v, sp_p, sp_f1, sp_f2, sc_w, sc_c, sc_r, sc_f, sc_a, sc_k, pp_in, pp_al, ↓reduceIte, Nat.reduceEqDiff, Nat.reduceLT, Nat.reduceLeDiff, Nat.reduceAdd, Nat.reduceSub, Nat.reduceMul, List.length_cons, List.length_nil, true_and, and_true, and_self, true_implies, eq_self, not_true_eq_false, not_false_eq_true, false_implies, implies_true, false_and, and_false, Bool.false_eq_true, or_true, true_or, or_false, false_or, Classical.not_not, Nat.le_refl, Nat.lt_irrefl, Bool.true_eq_false, n_lit, n_a, n_c, n_s, n_b, n_m, n_g, n_w, n_n, rk_X5_readOne, hC, e15, hv]
    refine ⟨fun q => K35 (by omega), fun q => ⟨fun q2 => ?_, fun q2 => K35 (by omega)⟩⟩
    refine pp_go rfl sk_X5_readOne_37 ?_
    simp (disch := omega) only [sg_X5_readOne_37, sw_c, sw_n, sx, sf_4, sv_i, sv_j, sv_r, sv_q1, sv_q0, sv_1i, sv_1r, sv_2, sl_i, sl_j, sl_a, sl_v, sp_p, sp_f1, sp_f2, sc_w, sc_c, sc_r, sc_f, sc_a, sc_k, pp_in, pp_al, ↓reduceIte, Nat.reduceEqDiff, Nat.reduceLT, Nat.reduceLeDiff, Nat.reduceAdd, Nat.reduceSub, Nat.reduceMul, List.length_cons, List.length_nil, true_and, and_true, and_self, true_implies, eq_self, not_true_eq_false, not_false_eq_true, false_implies, implies_true, false_and, and_false, Bool.false_eq_true, or_true, true_or, or_false, false_or, Classical.not_not, Nat.le_refl, Nat.lt_irrefl, Bool.true_eq_false, n_lit, n_a, n_c, n_s, n_b, n_m, n_g, n_w, n_n, rk_X5_readOne, hC, e15]
    refine c_next hC (xC_fr hx rfl rfl) tb.2.1 ht.2.2.2.1 (fun I' f1 t1 => ?_)
    simp (disch := omega) only [sw_c, sw_n, sx, sf_4, sv_i, sv_j, sv_r, sv_q1, sv_q0, sv_1i, sv_1r, sv_2, sl_i, sl_j, sl_a, sl_v, sp_p, sp_f1, sp_f2, sc_w, sc_c, sc_r, sc_f, sc_a, sc_k, pp_in, pp_al, ↓reduceIte, Nat.reduceEqDiff, Nat.reduceLT, Nat.reduceLeDiff, Nat.reduceAdd, Nat.reduceSub, Nat.reduceMul, List.length_cons, List.length_nil, true_and, and_true, and_self, true_implies, eq_self, not_true_eq_false, not_false_eq_true, false_implies, implies_true, false_and, and_false, Bool.false_eq_true, or_true, true_or, or_false, false_or, Classical.not_not, Nat.le_refl, Nat.lt_irrefl, Bool.true_eq_false, n_lit, n_a, n_c, n_s, n_b, n_m, n_g, n_w, n_n, rk_X5_readOne]
    refine h6 I' ⟨fun a x y => by rw [f1.1 a x, pp_s_ne _ _ y], f1.2, fun k hk => ?_⟩ t1 k2 ⟨by omega, q2⟩ ?_ ?_
    · rw [f1.1 66 (by omega)]; simp only [n_m, ↓reduceIte]; rw [if_neg (by omega)]
    · rw [f1.1 66 (by omega)]; simp only [n_m, ↓reduceIte]
    · rw [f1.1 66 (by omega)]; simp only [n_m, ↓reduceIte, Nat.reduceEqDiff]
  · refine pp_go rfl sk_X5_readOne_0 ?_
    simp (disch := omega) only [sg_X5_readOne_0, sw_c, sw_n, sx, sf_4, sv_i, sv_j, sv_r, sv_q1, sv_q0, sv_1i, sv_1r, sv_2, sl_i, sl_j, sl_a, sl_v, sp_p, sp_f1, sp_f2, sc_w, sc_c, sc_r, sc_f, sc_a, sc_k, pp_in, pp_al, ↓reduceIte, Nat.reduceEqDiff, Nat.reduceLT, Nat.reduceLeDiff, Nat.reduceAdd, Nat.reduceSub, Nat.reduceMul, List.length_cons, List.length_nil, true_and, and_true, and_self, true_implies, eq_self, not_true_eq_false, not_false_eq_true, false_implies, implies_true, false_and, and_false, Bool.false_eq_true, or_true, true_or, or_false, false_or, Classical.not_not, Nat.le_refl, Nat.lt_irrefl, Bool.true_eq_false, n_lit, n_a, n_c, n_s, n_b, n_m, n_g, n_w, n_n, rk_X5_readOne, hC, ht.2.1, k2]
    exact h1 k2
theorem c_rd1 {lo hi : Nat} {x : Int32} (hC : sC sh R) (hx : xC I b n) (ht : tC I b n t) (hl : lo < 10000) (hh : ∀ v, v < 10000 → (Int32.ofNat v ≤ x) = (v < hi)) (hP : pR sh I J R P b n false (rd1 b n lo hi t)) : pp_MW g (h + 3) mi_X5_readOne [.ref 66, .int (Int32.ofNat lo), .int x] (sh, I, J, R) P := by
  have fr0 : fR I I := ⟨fun _ _ _ => rfl, rfl, fun _ _ => rfl⟩
  unfold rd1 at hP
  refine c_readOne hC hx ht hl hh (fun z => ?_) (fun z y => ?_) (fun I' a1 a2 a3 a4 a5 a6 => ?_)
  · rw [if_pos z] at hP; exact hP I fr0 ht.2.2.1
  · rw [if_neg (by omega), if_neg y] at hP; exact hP I fr0 ht.2.2.1
  · rw [if_neg (by omega), if_pos a4] at hP; exact hP I' a1 a2 a5 (fun z => by cases z)
theorem c_rd2 {lo hi lo' hi' : Nat} {x x' : Int32} (hC : sC sh R) (hx : xC I b n) (ht : tC I b n t) (hl : lo < 10000) (hh : ∀ v, v < 10000 → (Int32.ofNat v ≤ x) = (v < hi)) (hl' : lo' < 10000) (hh' : ∀ v, v < 10000 → (Int32.ofNat v ≤ x') = (v < hi')) (hP : pR sh I J R P b n true (rd2 b n lo hi lo' hi' t)) : pp_MW g (h + 4) mi_X5_readTwo [.ref 66, .int (Int32.ofNat lo), .int x, .int (Int32.ofNat lo'), .int x'] (sh, I, J, R) P := by
  refine pp_st0 [(0, .ref 66), (1, .int (Int32.ofNat lo)), (2, .int x), (3, .int (Int32.ofNat lo')), (4, .int x')] ok_X5_readTwo rfl (Nat.le_of_ble_eq_true rfl) rfl ?_
  refine pp_go rfl sk_X5_readTwo_0 ?_
  simp (disch := omega) only [sg_X5_readTwo_0, sw_c, sw_n, sx, sf_4, sv_i, sv_j, sv_r, sv_q1, sv_q0, sv_1i, sv_1r, sv_2, sl_i, sl_j, sl_a, sl_v, sp_p, sp_f1, sp_f2, sc_w, sc_c, sc_r, sc_f, sc_a, sc_k, pp_in, pp_al, ↓reduceIte, Nat.reduceEqDiff, Nat.reduceLT, Nat.reduceLeDiff, Nat.reduceAdd, Nat.reduceSub, Nat.reduceMul, List.length_cons, List.length_nil, true_and, and_true, and_self, true_implies, eq_self, not_true_eq_false, not_false_eq_true, false_implies, implies_true, false_and, and_false, Bool.false_eq_true, or_true, true_or, or_false, false_or, Classical.not_not, Nat.le_refl, Nat.lt_irrefl, Bool.true_eq_false, n_lit, n_a, n_c, n_s, n_b, n_m, n_g, n_w, n_n, rk_X5_readTwo, hC]
  have fr0 : fR I I := ⟨fun _ _ _ => rfl, rfl, fun _ _ => rfl⟩
  unfold rd2 at hP
  rw [rd1] at hP
  refine c_readOne hC hx ht hl hh (fun z => ?_) (fun z y => ?_) (fun I1 a1 a2 a3 a4 a5 a6 => ?_)
  · rw [if_pos z] at hP
    simp (disch := omega) only [sw_c, sw_n, sx, sf_4, sv_i, sv_j, sv_r, sv_q1, sv_q0, sv_1i, sv_1r, sv_2, sl_i, sl_j, sl_a, sl_v, sp_p, sp_f1, sp_f2, sc_w, sc_c, sc_r, sc_f, sc_a, sc_k, pp_in, pp_al, ↓reduceIte, Nat.reduceEqDiff, Nat.reduceLT, Nat.reduceLeDiff, Nat.reduceAdd, Nat.reduceSub, Nat.reduceMul, List.length_cons, List.length_nil, true_and, and_true, and_self, true_implies, eq_self, not_true_eq_false, not_false_eq_true, false_implies, implies_true, false_and, and_false, Bool.false_eq_true, or_true, true_or, or_false, false_or, Classical.not_not, Nat.le_refl, Nat.lt_irrefl, Bool.true_eq_false, n_lit, n_a, n_c, n_s, n_b, n_m, n_g, n_w, n_n, rk_X5_readTwo]
    exact hP I fr0 ht.2.2.1
  · rw [if_neg (by omega), if_neg y] at hP
    simp (disch := omega) only [sw_c, sw_n, sx, sf_4, sv_i, sv_j, sv_r, sv_q1, sv_q0, sv_1i, sv_1r, sv_2, sl_i, sl_j, sl_a, sl_v, sp_p, sp_f1, sp_f2, sc_w, sc_c, sc_r, sc_f, sc_a, sc_k, pp_in, pp_al, ↓reduceIte, Nat.reduceEqDiff, Nat.reduceLT, Nat.reduceLeDiff, Nat.reduceAdd, Nat.reduceSub, Nat.reduceMul, List.length_cons, List.length_nil, true_and, and_true, and_self, true_implies, eq_self, not_true_eq_false, not_false_eq_true, false_implies, implies_true, false_and, and_false, Bool.false_eq_true, or_true, true_or, or_false, false_or, Classical.not_not, Nat.le_refl, Nat.lt_irrefl, Bool.true_eq_false, n_lit, n_a, n_c, n_s, n_b, n_m, n_g, n_w, n_n, rk_X5_readTwo]
    exact hP I fr0 ht.2.2.1
  · rw [if_neg (by omega), if_pos a4] at hP
    simp only [] at hP
    rw [rd1] at hP
    have W : ∀ (I2 : Nat → Nat → Int32), fR I I2 → fR I (pp_s I2 66 (va_up (va_up (I2 66) 6 (I2 66 5)) 5 (Int32.ofNat t.2.2.2))) := fun I2 f => ⟨fun a x y => (pp_s_ne _ _ y).trans (f.1 a x y), f.2.1, fun k hk => by simp only [n_m, ↓reduceIte]; rw [if_neg (by omega), if_neg (by omega)]; exact f.2.2 k hk⟩
    simp (disch := omega) only [sw_c, sw_n, sx, sf_4, sv_i, sv_j, sv_r, sv_q1, sv_q0, sv_1i, sv_1r, sv_2, sl_i, sl_j, sl_a, sl_v, sp_p, sp_f1, sp_f2, sc_w, sc_c, sc_r, sc_f, sc_a, sc_k, pp_in, pp_al, ↓reduceIte, Nat.reduceEqDiff, Nat.reduceLT, Nat.reduceLeDiff, Nat.reduceAdd, Nat.reduceSub, Nat.reduceMul, List.length_cons, List.length_nil, true_and, and_true, and_self, true_implies, eq_self, not_true_eq_false, not_false_eq_true, false_implies, implies_true, false_and, and_false, Bool.false_eq_true, or_true, true_or, or_false, false_or, Classical.not_not, Nat.le_refl, Nat.lt_irrefl, Bool.true_eq_false, n_lit, n_a, n_c, n_s, n_b, n_m, n_g, n_w, n_n, rk_X5_readTwo]
    refine pp_go rfl sk_X5_readTwo_16 ?_
    simp (disch := omega) only [sg_X5_readTwo_16, sw_c, sw_n, sx, sf_4, sv_i, sv_j, sv_r, sv_q1, sv_q0, sv_1i, sv_1r, sv_2, sl_i, sl_j, sl_a, sl_v, sp_p, sp_f1, sp_f2, sc_w, sc_c, sc_r, sc_f, sc_a, sc_k, pp_in, pp_al, ↓reduceIte, Nat.reduceEqDiff, Nat.reduceLT, Nat.reduceLeDiff, Nat.reduceAdd, Nat.reduceSub, Nat.reduceMul, List.length_cons, List.length_nil, true_and, and_true, and_self, true_implies, eq_self, not_true_eq_false, not_false_eq_true, false_implies, implies_true, false_and, and_false, Bool.false_eq_true, or_true, true_or, or_false, false_or, Classical.not_not, Nat.le_refl, Nat.lt_irrefl, Bool.true_eq_false, n_lit, n_a, n_c, n_s, n_b, n_m, n_g, n_w, n_n, rk_X5_readTwo, hC, a5]
    have x1 : xC I1 b n := xC_fr hx a1.2.1 (a1.1 65 (by omega) (by omega))
    refine c_readOne hC x1 a2 hl' hh' (fun z => ?_) (fun z y => ?_) (fun I2 b1 b2 b3 b4 b5 b6 => ?_)
    · rw [if_pos z] at hP
      simp (disch := omega) only [sw_c, sw_n, sx, sf_4, sv_i, sv_j, sv_r, sv_q1, sv_q0, sv_1i, sv_1r, sv_2, sl_i, sl_j, sl_a, sl_v, sp_p, sp_f1, sp_f2, sc_w, sc_c, sc_r, sc_f, sc_a, sc_k, pp_in, pp_al, ↓reduceIte, Nat.reduceEqDiff, Nat.reduceLT, Nat.reduceLeDiff, Nat.reduceAdd, Nat.reduceSub, Nat.reduceMul, List.length_cons, List.length_nil, true_and, and_true, and_self, true_implies, eq_self, not_true_eq_false, not_false_eq_true, false_implies, implies_true, false_and, and_false, Bool.false_eq_true, or_true, true_or, or_false, false_or, Classical.not_not, Nat.le_refl, Nat.lt_irrefl, Bool.true_eq_false, n_lit, n_a, n_c, n_s, n_b, n_m, n_g, n_w, n_n, rk_X5_readTwo, hC, a5]
      have := hP _ (W I1 a1) a2.2.2.1
      rw [a5] at this
      exact this
    · rw [if_neg (by omega), if_neg y] at hP
      simp (disch := omega) only [sw_c, sw_n, sx, sf_4, sv_i, sv_j, sv_r, sv_q1, sv_q0, sv_1i, sv_1r, sv_2, sl_i, sl_j, sl_a, sl_v, sp_p, sp_f1, sp_f2, sc_w, sc_c, sc_r, sc_f, sc_a, sc_k, pp_in, pp_al, ↓reduceIte, Nat.reduceEqDiff, Nat.reduceLT, Nat.reduceLeDiff, Nat.reduceAdd, Nat.reduceSub, Nat.reduceMul, List.length_cons, List.length_nil, true_and, and_true, and_self, true_implies, eq_self, not_true_eq_false, not_false_eq_true, false_implies, implies_true, false_and, and_false, Bool.false_eq_true, or_true, true_or, or_false, false_or, Classical.not_not, Nat.le_refl, Nat.lt_irrefl, Bool.true_eq_false, n_lit, n_a, n_c, n_s, n_b, n_m, n_g, n_w, n_n, rk_X5_readTwo, hC, a5]
      have := hP _ (W I1 a1) a2.2.2.1
      rw [a5] at this
      exact this
    · rw [if_neg (by omega), if_pos b4] at hP
      simp (disch := omega) only [sw_c, sw_n, sx, sf_4, sv_i, sv_j, sv_r, sv_q1, sv_q0, sv_1i, sv_1r, sv_2, sl_i, sl_j, sl_a, sl_v, sp_p, sp_f1, sp_f2, sc_w, sc_c, sc_r, sc_f, sc_a, sc_k, pp_in, pp_al, ↓reduceIte, Nat.reduceEqDiff, Nat.reduceLT, Nat.reduceLeDiff, Nat.reduceAdd, Nat.reduceSub, Nat.reduceMul, List.length_cons, List.length_nil, true_and, and_true, and_self, true_implies, eq_self, not_true_eq_false, not_false_eq_true, false_implies, implies_true, false_and, and_false, Bool.false_eq_true, or_true, true_or, or_false, false_or, Classical.not_not, Nat.le_refl, Nat.lt_irrefl, Bool.true_eq_false, n_lit, n_a, n_c, n_s, n_b, n_m, n_g, n_w, n_n, rk_X5_readTwo, hC, b5]
      have f12 : fR I I2 := ⟨fun a x y => (b1.1 a x y).trans (a1.1 a x y), b1.2.1.trans a1.2.1, fun k hk => (b1.2.2 k hk).trans (a1.2.2 k hk)⟩
      have := hP _ (W I2 f12) b2 (by simp only [n_m, ↓reduceIte]) (fun _ => by simp only [n_m, ↓reduceIte, Nat.reduceEqDiff]; exact b5)
      rw [b5] at this
      exact this
theorem c_readNumbers {i : Nat} (hC : sC sh R) (hx : xC I b n) (ht : tC I b n t) (hm : I 74 2 = Int32.ofNat (D.1 0)) (h8 : D.1 0 ≤ 8) (hi : i < 11) (hP : pR sh I J R P b n (tw i) (rdN b n D i t)) : pp_MW g (h + 5) mi_X5_readNumbers [.ref 66, .int (Int32.ofNat i)] (sh, I, J, R) P := by
  refine pp_st0 [(0, .ref 66), (1, .int (Int32.ofNat i))] ok_X5_readNumbers rfl (Nat.le_of_ble_eq_true rfl) rfl ?_
  refine pp_go rfl sk_X5_readNumbers_0 ?_
  simp (disch := omega) only [sg_X5_readNumbers_0, sw_c, sw_n, sx, sf_4, sv_i, sv_j, sv_r, sv_q1, sv_q0, sv_1i, sv_1r, sv_2, sl_i, sl_j, sl_a, sl_v, sp_p, sp_f1, sp_f2, sc_w, sc_c, sc_r, sc_f, sc_a, sc_k, pp_in, pp_al, ↓reduceIte, Nat.reduceEqDiff, Nat.reduceLT, Nat.reduceLeDiff, Nat.reduceAdd, Nat.reduceSub, Nat.reduceMul, List.length_cons, List.length_nil, true_and, and_true, and_self, true_implies, eq_self, not_true_eq_false, not_false_eq_true, false_implies, implies_true, false_and, and_false, Bool.false_eq_true, or_true, true_or, or_false, false_or, Classical.not_not, Nat.le_refl, Nat.lt_irrefl, Bool.true_eq_false, n_lit, n_a, n_c, n_s, n_b, n_m, n_g, n_w, n_n, rk_X5_readNumbers, sc_s, n_i]
  refine ⟨⟨fun q => ?_, fun q => ?_, fun q => ?_, fun q => ?_, fun q => ?_, fun q => ?_, fun q => ?_, fun q => ?_, fun q => ?_, fun q => ?_⟩, fun q => ?_⟩
  · rw [show i = 0 by omega] at hP
    have hP : pR sh I J R P b n false (rd1 b n 0 10000 t) := hP
    refine pp_go rfl sk_X5_readNumbers_56 ?_
    simp (disch := omega) only [sg_X5_readNumbers_56, sw_c, sw_n, sx, sf_4, sv_i, sv_j, sv_r, sv_q1, sv_q0, sv_1i, sv_1r, sv_2, sl_i, sl_j, sl_a, sl_v, sp_p, sp_f1, sp_f2, sc_w, sc_c, sc_r, sc_f, sc_a, sc_k, pp_in, pp_al, ↓reduceIte, Nat.reduceEqDiff, Nat.reduceLT, Nat.reduceLeDiff, Nat.reduceAdd, Nat.reduceSub, Nat.reduceMul, List.length_cons, List.length_nil, true_and, and_true, and_self, true_implies, eq_self, not_true_eq_false, not_false_eq_true, false_implies, implies_true, false_and, and_false, Bool.false_eq_true, or_true, true_or, or_false, false_or, Classical.not_not, Nat.le_refl, Nat.lt_irrefl, Bool.true_eq_false, n_lit, n_a, n_c, n_s, n_b, n_m, n_g, n_w, n_n, rk_X5_readNumbers, hC, hm]
    refine c_rd1 hC hx ht (by omega) (hI_n (hi := 10000) (by omega) (by omega)) ?_
    revert hP
    cases rd1 b n 0 10000 t with
    | inl e =>
      intro hP I' a1 a2
      simp (disch := omega) only [sw_c, sw_n, sx, sf_4, sv_i, sv_j, sv_r, sv_q1, sv_q0, sv_1i, sv_1r, sv_2, sl_i, sl_j, sl_a, sl_v, sp_p, sp_f1, sp_f2, sc_w, sc_c, sc_r, sc_f, sc_a, sc_k, pp_in, pp_al, ↓reduceIte, Nat.reduceEqDiff, Nat.reduceLT, Nat.reduceLeDiff, Nat.reduceAdd, Nat.reduceSub, Nat.reduceMul, List.length_cons, List.length_nil, true_and, and_true, and_self, true_implies, eq_self, not_true_eq_false, not_false_eq_true, false_implies, implies_true, false_and, and_false, Bool.false_eq_true, or_true, true_or, or_false, false_or, Classical.not_not, Nat.le_refl, Nat.lt_irrefl, Bool.true_eq_false, n_lit, n_a, n_c, n_s, n_b, n_m, n_g, n_w, n_n, rk_X5_readNumbers]
      exact hP I' a1 a2
    | inr q =>
      intro hP I' a1 a2 a3 a4
      simp (disch := omega) only [sw_c, sw_n, sx, sf_4, sv_i, sv_j, sv_r, sv_q1, sv_q0, sv_1i, sv_1r, sv_2, sl_i, sl_j, sl_a, sl_v, sp_p, sp_f1, sp_f2, sc_w, sc_c, sc_r, sc_f, sc_a, sc_k, pp_in, pp_al, ↓reduceIte, Nat.reduceEqDiff, Nat.reduceLT, Nat.reduceLeDiff, Nat.reduceAdd, Nat.reduceSub, Nat.reduceMul, List.length_cons, List.length_nil, true_and, and_true, and_self, true_implies, eq_self, not_true_eq_false, not_false_eq_true, false_implies, implies_true, false_and, and_false, Bool.false_eq_true, or_true, true_or, or_false, false_or, Classical.not_not, Nat.le_refl, Nat.lt_irrefl, Bool.true_eq_false, n_lit, n_a, n_c, n_s, n_b, n_m, n_g, n_w, n_n, rk_X5_readNumbers]
      exact hP I' a1 a2 a3 a4
  · rw [show i = 1 by omega] at hP
    have hP : pR sh I J R P b n true (rd2 b n 0 10000 1 10000 t) := hP
    refine pp_go rfl sk_X5_readNumbers_65 ?_
    simp (disch := omega) only [sg_X5_readNumbers_65, sw_c, sw_n, sx, sf_4, sv_i, sv_j, sv_r, sv_q1, sv_q0, sv_1i, sv_1r, sv_2, sl_i, sl_j, sl_a, sl_v, sp_p, sp_f1, sp_f2, sc_w, sc_c, sc_r, sc_f, sc_a, sc_k, pp_in, pp_al, ↓reduceIte, Nat.reduceEqDiff, Nat.reduceLT, Nat.reduceLeDiff, Nat.reduceAdd, Nat.reduceSub, Nat.reduceMul, List.length_cons, List.length_nil, true_and, and_true, and_self, true_implies, eq_self, not_true_eq_false, not_false_eq_true, false_implies, implies_true, false_and, and_false, Bool.false_eq_true, or_true, true_or, or_false, false_or, Classical.not_not, Nat.le_refl, Nat.lt_irrefl, Bool.true_eq_false, n_lit, n_a, n_c, n_s, n_b, n_m, n_g, n_w, n_n, rk_X5_readNumbers, hC, hm]
    refine c_rd2 hC hx ht (by omega) (hI_n (hi := 10000) (by omega) (by omega)) (by omega) (hI_n (hi := 10000) (by omega) (by omega)) ?_
    revert hP
    cases rd2 b n 0 10000 1 10000 t with
    | inl e =>
      intro hP I' a1 a2
      simp (disch := omega) only [sw_c, sw_n, sx, sf_4, sv_i, sv_j, sv_r, sv_q1, sv_q0, sv_1i, sv_1r, sv_2, sl_i, sl_j, sl_a, sl_v, sp_p, sp_f1, sp_f2, sc_w, sc_c, sc_r, sc_f, sc_a, sc_k, pp_in, pp_al, ↓reduceIte, Nat.reduceEqDiff, Nat.reduceLT, Nat.reduceLeDiff, Nat.reduceAdd, Nat.reduceSub, Nat.reduceMul, List.length_cons, List.length_nil, true_and, and_true, and_self, true_implies, eq_self, not_true_eq_false, not_false_eq_true, false_implies, implies_true, false_and, and_false, Bool.false_eq_true, or_true, true_or, or_false, false_or, Classical.not_not, Nat.le_refl, Nat.lt_irrefl, Bool.true_eq_false, n_lit, n_a, n_c, n_s, n_b, n_m, n_g, n_w, n_n, rk_X5_readNumbers]
      exact hP I' a1 a2
    | inr q =>
      intro hP I' a1 a2 a3 a4
      simp (disch := omega) only [sw_c, sw_n, sx, sf_4, sv_i, sv_j, sv_r, sv_q1, sv_q0, sv_1i, sv_1r, sv_2, sl_i, sl_j, sl_a, sl_v, sp_p, sp_f1, sp_f2, sc_w, sc_c, sc_r, sc_f, sc_a, sc_k, pp_in, pp_al, ↓reduceIte, Nat.reduceEqDiff, Nat.reduceLT, Nat.reduceLeDiff, Nat.reduceAdd, Nat.reduceSub, Nat.reduceMul, List.length_cons, List.length_nil, true_and, and_true, and_self, true_implies, eq_self, not_true_eq_false, not_false_eq_true, false_implies, implies_true, false_and, and_false, Bool.false_eq_true, or_true, true_or, or_false, false_or, Classical.not_not, Nat.le_refl, Nat.lt_irrefl, Bool.true_eq_false, n_lit, n_a, n_c, n_s, n_b, n_m, n_g, n_w, n_n, rk_X5_readNumbers]
      exact hP I' a1 a2 a3 a4
  · rw [show i = 2 by omega] at hP
    have hP : pR sh I J R P b n true (rd2 b n 0 (D.1 0) 1 10000 t) := hP
    refine pp_go rfl sk_X5_readNumbers_78 ?_
    simp (disch := omega) only [sg_X5_readNumbers_78, sw_c, sw_n, sx, sf_4, sv_i, sv_j, sv_r, sv_q1, sv_q0, sv_1i, sv_1r, sv_2, sl_i, sl_j, sl_a, sl_v, sp_p, sp_f1, sp_f2, sc_w, sc_c, sc_r, sc_f, sc_a, sc_k, pp_in, pp_al, ↓reduceIte, Nat.reduceEqDiff, Nat.reduceLT, Nat.reduceLeDiff, Nat.reduceAdd, Nat.reduceSub, Nat.reduceMul, List.length_cons, List.length_nil, true_and, and_true, and_self, true_implies, eq_self, not_true_eq_false, not_false_eq_true, false_implies, implies_true, false_and, and_false, Bool.false_eq_true, or_true, true_or, or_false, false_or, Classical.not_not, Nat.le_refl, Nat.lt_irrefl, Bool.true_eq_false, n_lit, n_a, n_c, n_s, n_b, n_m, n_g, n_w, n_n, rk_X5_readNumbers, hC, hm]
    refine c_rd2 hC hx ht (by omega) (hI_m h8) (by omega) (hI_n (hi := 10000) (by omega) (by omega)) ?_
    revert hP
    cases rd2 b n 0 (D.1 0) 1 10000 t with
    | inl e =>
      intro hP I' a1 a2
      simp (disch := omega) only [sw_c, sw_n, sx, sf_4, sv_i, sv_j, sv_r, sv_q1, sv_q0, sv_1i, sv_1r, sv_2, sl_i, sl_j, sl_a, sl_v, sp_p, sp_f1, sp_f2, sc_w, sc_c, sc_r, sc_f, sc_a, sc_k, pp_in, pp_al, ↓reduceIte, Nat.reduceEqDiff, Nat.reduceLT, Nat.reduceLeDiff, Nat.reduceAdd, Nat.reduceSub, Nat.reduceMul, List.length_cons, List.length_nil, true_and, and_true, and_self, true_implies, eq_self, not_true_eq_false, not_false_eq_true, false_implies, implies_true, false_and, and_false, Bool.false_eq_true, or_true, true_or, or_false, false_or, Classical.not_not, Nat.le_refl, Nat.lt_irrefl, Bool.true_eq_false, n_lit, n_a, n_c, n_s, n_b, n_m, n_g, n_w, n_n, rk_X5_readNumbers]
      exact hP I' a1 a2
    | inr q =>
      intro hP I' a1 a2 a3 a4
      simp (disch := omega) only [sw_c, sw_n, sx, sf_4, sv_i, sv_j, sv_r, sv_q1, sv_q0, sv_1i, sv_1r, sv_2, sl_i, sl_j, sl_a, sl_v, sp_p, sp_f1, sp_f2, sc_w, sc_c, sc_r, sc_f, sc_a, sc_k, pp_in, pp_al, ↓reduceIte, Nat.reduceEqDiff, Nat.reduceLT, Nat.reduceLeDiff, Nat.reduceAdd, Nat.reduceSub, Nat.reduceMul, List.length_cons, List.length_nil, true_and, and_true, and_self, true_implies, eq_self, not_true_eq_false, not_false_eq_true, false_implies, implies_true, false_and, and_false, Bool.false_eq_true, or_true, true_or, or_false, false_or, Classical.not_not, Nat.le_refl, Nat.lt_irrefl, Bool.true_eq_false, n_lit, n_a, n_c, n_s, n_b, n_m, n_g, n_w, n_n, rk_X5_readNumbers]
      exact hP I' a1 a2 a3 a4
  · rw [show i = 3 by omega] at hP
    have hP : pR sh I J R P b n false (rd1 b n 0 101 t) := hP
    refine pp_go rfl sk_X5_readNumbers_97 ?_
    simp (disch := omega) only [sg_X5_readNumbers_97, sw_c, sw_n, sx, sf_4, sv_i, sv_j, sv_r, sv_q1, sv_q0, sv_1i, sv_1r, sv_2, sl_i, sl_j, sl_a, sl_v, sp_p, sp_f1, sp_f2, sc_w, sc_c, sc_r, sc_f, sc_a, sc_k, pp_in, pp_al, ↓reduceIte, Nat.reduceEqDiff, Nat.reduceLT, Nat.reduceLeDiff, Nat.reduceAdd, Nat.reduceSub, Nat.reduceMul, List.length_cons, List.length_nil, true_and, and_true, and_self, true_implies, eq_self, not_true_eq_false, not_false_eq_true, false_implies, implies_true, false_and, and_false, Bool.false_eq_true, or_true, true_or, or_false, false_or, Classical.not_not, Nat.le_refl, Nat.lt_irrefl, Bool.true_eq_false, n_lit, n_a, n_c, n_s, n_b, n_m, n_g, n_w, n_n, rk_X5_readNumbers, hC, hm]
    refine c_rd1 hC hx ht (by omega) (hI_n (hi := 101) (by omega) (by omega)) ?_
    revert hP
    cases rd1 b n 0 101 t with
    | inl e =>
      intro hP I' a1 a2
      simp (disch := omega) only [sw_c, sw_n, sx, sf_4, sv_i, sv_j, sv_r, sv_q1, sv_q0, sv_1i, sv_1r, sv_2, sl_i, sl_j, sl_a, sl_v, sp_p, sp_f1, sp_f2, sc_w, sc_c, sc_r, sc_f, sc_a, sc_k, pp_in, pp_al, ↓reduceIte, Nat.reduceEqDiff, Nat.reduceLT, Nat.reduceLeDiff, Nat.reduceAdd, Nat.reduceSub, Nat.reduceMul, List.length_cons, List.length_nil, true_and, and_true, and_self, true_implies, eq_self, not_true_eq_false, not_false_eq_true, false_implies, implies_true, false_and, and_false, Bool.false_eq_true, or_true, true_or, or_false, false_or, Classical.not_not, Nat.le_refl, Nat.lt_irrefl, Bool.true_eq_false, n_lit, n_a, n_c, n_s, n_b, n_m, n_g, n_w, n_n, rk_X5_readNumbers]
      exact hP I' a1 a2
    | inr q =>
      intro hP I' a1 a2 a3 a4
      simp (disch := omega) only [sw_c, sw_n, sx, sf_4, sv_i, sv_j, sv_r, sv_q1, sv_q0, sv_1i, sv_1r, sv_2, sl_i, sl_j, sl_a, sl_v, sp_p, sp_f1, sp_f2, sc_w, sc_c, sc_r, sc_f, sc_a, sc_k, pp_in, pp_al, ↓reduceIte, Nat.reduceEqDiff, Nat.reduceLT, Nat.reduceLeDiff, Nat.reduceAdd, Nat.reduceSub, Nat.reduceMul, List.length_cons, List.length_nil, true_and, and_true, and_self, true_implies, eq_self, not_true_eq_false, not_false_eq_true, false_implies, implies_true, false_and, and_false, Bool.false_eq_true, or_true, true_or, or_false, false_or, Classical.not_not, Nat.le_refl, Nat.lt_irrefl, Bool.true_eq_false, n_lit, n_a, n_c, n_s, n_b, n_m, n_g, n_w, n_n, rk_X5_readNumbers]
      exact hP I' a1 a2 a3 a4
  · rw [show i = 4 by omega] at hP
    have hP : pR sh I J R P b n true (rd2 b n 1 6 1 101 t) := hP
    refine pp_go rfl sk_X5_readNumbers_105 ?_
    simp (disch := omega) only [sg_X5_readNumbers_105, sw_c, sw_n, sx, sf_4, sv_i, sv_j, sv_r, sv_q1, sv_q0, sv_1i, sv_1r, sv_2, sl_i, sl_j, sl_a, sl_v, sp_p, sp_f1, sp_f2, sc_w, sc_c, sc_r, sc_f, sc_a, sc_k, pp_in, pp_al, ↓reduceIte, Nat.reduceEqDiff, Nat.reduceLT, Nat.reduceLeDiff, Nat.reduceAdd, Nat.reduceSub, Nat.reduceMul, List.length_cons, List.length_nil, true_and, and_true, and_self, true_implies, eq_self, not_true_eq_false, not_false_eq_true, false_implies, implies_true, false_and, and_false, Bool.false_eq_true, or_true, true_or, or_false, false_or, Classical.not_not, Nat.le_refl, Nat.lt_irrefl, Bool.true_eq_false, n_lit, n_a, n_c, n_s, n_b, n_m, n_g, n_w, n_n, rk_X5_readNumbers, hC, hm]
    refine c_rd2 hC hx ht (by omega) (hI_n (hi := 6) (by omega) (by omega)) (by omega) (hI_n (hi := 101) (by omega) (by omega)) ?_
    revert hP
    cases rd2 b n 1 6 1 101 t with
    | inl e =>
      intro hP I' a1 a2
      simp (disch := omega) only [sw_c, sw_n, sx, sf_4, sv_i, sv_j, sv_r, sv_q1, sv_q0, sv_1i, sv_1r, sv_2, sl_i, sl_j, sl_a, sl_v, sp_p, sp_f1, sp_f2, sc_w, sc_c, sc_r, sc_f, sc_a, sc_k, pp_in, pp_al, ↓reduceIte, Nat.reduceEqDiff, Nat.reduceLT, Nat.reduceLeDiff, Nat.reduceAdd, Nat.reduceSub, Nat.reduceMul, List.length_cons, List.length_nil, true_and, and_true, and_self, true_implies, eq_self, not_true_eq_false, not_false_eq_true, false_implies, implies_true, false_and, and_false, Bool.false_eq_true, or_true, true_or, or_false, false_or, Classical.not_not, Nat.le_refl, Nat.lt_irrefl, Bool.true_eq_false, n_lit, n_a, n_c, n_s, n_b, n_m, n_g, n_w, n_n, rk_X5_readNumbers]
      exact hP I' a1 a2
    | inr q =>
      intro hP I' a1 a2 a3 a4
      simp (disch := omega) only [sw_c, sw_n, sx, sf_4, sv_i, sv_j, sv_r, sv_q1, sv_q0, sv_1i, sv_1r, sv_2, sl_i, sl_j, sl_a, sl_v, sp_p, sp_f1, sp_f2, sc_w, sc_c, sc_r, sc_f, sc_a, sc_k, pp_in, pp_al, ↓reduceIte, Nat.reduceEqDiff, Nat.reduceLT, Nat.reduceLeDiff, Nat.reduceAdd, Nat.reduceSub, Nat.reduceMul, List.length_cons, List.length_nil, true_and, and_true, and_self, true_implies, eq_self, not_true_eq_false, not_false_eq_true, false_implies, implies_true, false_and, and_false, Bool.false_eq_true, or_true, true_or, or_false, false_or, Classical.not_not, Nat.le_refl, Nat.lt_irrefl, Bool.true_eq_false, n_lit, n_a, n_c, n_s, n_b, n_m, n_g, n_w, n_n, rk_X5_readNumbers]
      exact hP I' a1 a2 a3 a4
  · rw [show i = 5 by omega] at hP
    have hP : pR sh I J R P b n false (rd1 b n 1 101 t) := hP
    refine pp_go rfl sk_X5_readNumbers_115 ?_
    simp (disch := omega) only [sg_X5_readNumbers_115, sw_c, sw_n, sx, sf_4, sv_i, sv_j, sv_r, sv_q1, sv_q0, sv_1i, sv_1r, sv_2, sl_i, sl_j, sl_a, sl_v, sp_p, sp_f1, sp_f2, sc_w, sc_c, sc_r, sc_f, sc_a, sc_k, pp_in, pp_al, ↓reduceIte, Nat.reduceEqDiff, Nat.reduceLT, Nat.reduceLeDiff, Nat.reduceAdd, Nat.reduceSub, Nat.reduceMul, List.length_cons, List.length_nil, true_and, and_true, and_self, true_implies, eq_self, not_true_eq_false, not_false_eq_true, false_implies, implies_true, false_and, and_false, Bool.false_eq_true, or_true, true_or, or_false, false_or, Classical.not_not, Nat.le_refl, Nat.lt_irrefl, Bool.true_eq_false, n_lit, n_a, n_c, n_s, n_b, n_m, n_g, n_w, n_n, rk_X5_readNumbers, hC, hm]
    refine c_rd1 hC hx ht (by omega) (hI_n (hi := 101) (by omega) (by omega)) ?_
    revert hP
    cases rd1 b n 1 101 t with
    | inl e =>
      intro hP I' a1 a2
      simp (disch := omega) only [sw_c, sw_n, sx, sf_4, sv_i, sv_j, sv_r, sv_q1, sv_q0, sv_1i, sv_1r, sv_2, sl_i, sl_j, sl_a, sl_v, sp_p, sp_f1, sp_f2, sc_w, sc_c, sc_r, sc_f, sc_a, sc_k, pp_in, pp_al, ↓reduceIte, Nat.reduceEqDiff, Nat.reduceLT, Nat.reduceLeDiff, Nat.reduceAdd, Nat.reduceSub, Nat.reduceMul, List.length_cons, List.length_nil, true_and, and_true, and_self, true_implies, eq_self, not_true_eq_false, not_false_eq_true, false_implies, implies_true, false_and, and_false, Bool.false_eq_true, or_true, true_or, or_false, false_or, Classical.not_not, Nat.le_refl, Nat.lt_irrefl, Bool.true_eq_false, n_lit, n_a, n_c, n_s, n_b, n_m, n_g, n_w, n_n, rk_X5_readNumbers]
      exact hP I' a1 a2
    | inr q =>
      intro hP I' a1 a2 a3 a4
      simp (disch := omega) only [sw_c, sw_n, sx, sf_4, sv_i, sv_j, sv_r, sv_q1, sv_q0, sv_1i, sv_1r, sv_2, sl_i, sl_j, sl_a, sl_v, sp_p, sp_f1, sp_f2, sc_w, sc_c, sc_r, sc_f, sc_a, sc_k, pp_in, pp_al, ↓reduceIte, Nat.reduceEqDiff, Nat.reduceLT, Nat.reduceLeDiff, Nat.reduceAdd, Nat.reduceSub, Nat.reduceMul, List.length_cons, List.length_nil, true_and, and_true, and_self, true_implies, eq_self, not_true_eq_false, not_false_eq_true, false_implies, implies_true, false_and, and_false, Bool.false_eq_true, or_true, true_or, or_false, false_or, Classical.not_not, Nat.le_refl, Nat.lt_irrefl, Bool.true_eq_false, n_lit, n_a, n_c, n_s, n_b, n_m, n_g, n_w, n_n, rk_X5_readNumbers]
      exact hP I' a1 a2 a3 a4
  · rw [show i = 6 by omega] at hP
    have hP : pR sh I J R P b n false (rd1 b n 0 51 t) := hP
    refine pp_go rfl sk_X5_readNumbers_123 ?_
    simp (disch := omega) only [sg_X5_readNumbers_123, sw_c, sw_n, sx, sf_4, sv_i, sv_j, sv_r, sv_q1, sv_q0, sv_1i, sv_1r, sv_2, sl_i, sl_j, sl_a, sl_v, sp_p, sp_f1, sp_f2, sc_w, sc_c, sc_r, sc_f, sc_a, sc_k, pp_in, pp_al, ↓reduceIte, Nat.reduceEqDiff, Nat.reduceLT, Nat.reduceLeDiff, Nat.reduceAdd, Nat.reduceSub, Nat.reduceMul, List.length_cons, List.length_nil, true_and, and_true, and_self, true_implies, eq_self, not_true_eq_false, not_false_eq_true, false_implies, implies_true, false_and, and_false, Bool.false_eq_true, or_true, true_or, or_false, false_or, Classical.not_not, Nat.le_refl, Nat.lt_irrefl, Bool.true_eq_false, n_lit, n_a, n_c, n_s, n_b, n_m, n_g, n_w, n_n, rk_X5_readNumbers, hC, hm]
    refine c_rd1 hC hx ht (by omega) (hI_n (hi := 51) (by omega) (by omega)) ?_
    revert hP
    cases rd1 b n 0 51 t with
    | inl e =>
      intro hP I' a1 a2
      simp (disch := omega) only [sw_c, sw_n, sx, sf_4, sv_i, sv_j, sv_r, sv_q1, sv_q0, sv_1i, sv_1r, sv_2, sl_i, sl_j, sl_a, sl_v, sp_p, sp_f1, sp_f2, sc_w, sc_c, sc_r, sc_f, sc_a, sc_k, pp_in, pp_al, ↓reduceIte, Nat.reduceEqDiff, Nat.reduceLT, Nat.reduceLeDiff, Nat.reduceAdd, Nat.reduceSub, Nat.reduceMul, List.length_cons, List.length_nil, true_and, and_true, and_self, true_implies, eq_self, not_true_eq_false, not_false_eq_true, false_implies, implies_true, false_and, and_false, Bool.false_eq_true, or_true, true_or, or_false, false_or, Classical.not_not, Nat.le_refl, Nat.lt_irrefl, Bool.true_eq_false, n_lit, n_a, n_c, n_s, n_b, n_m, n_g, n_w, n_n, rk_X5_readNumbers]
      exact hP I' a1 a2
    | inr q =>
      intro hP I' a1 a2 a3 a4
      simp (disch := omega) only [sw_c, sw_n, sx, sf_4, sv_i, sv_j, sv_r, sv_q1, sv_q0, sv_1i, sv_1r, sv_2, sl_i, sl_j, sl_a, sl_v, sp_p, sp_f1, sp_f2, sc_w, sc_c, sc_r, sc_f, sc_a, sc_k, pp_in, pp_al, ↓reduceIte, Nat.reduceEqDiff, Nat.reduceLT, Nat.reduceLeDiff, Nat.reduceAdd, Nat.reduceSub, Nat.reduceMul, List.length_cons, List.length_nil, true_and, and_true, and_self, true_implies, eq_self, not_true_eq_false, not_false_eq_true, false_implies, implies_true, false_and, and_false, Bool.false_eq_true, or_true, true_or, or_false, false_or, Classical.not_not, Nat.le_refl, Nat.lt_irrefl, Bool.true_eq_false, n_lit, n_a, n_c, n_s, n_b, n_m, n_g, n_w, n_n, rk_X5_readNumbers]
      exact hP I' a1 a2 a3 a4
  · rw [show i = 7 by omega] at hP
    have hP : pR sh I J R P b n false (rd1 b n 0 41 t) := hP
    refine pp_go rfl sk_X5_readNumbers_131 ?_
    simp (disch := omega) only [sg_X5_readNumbers_131, sw_c, sw_n, sx, sf_4, sv_i, sv_j, sv_r, sv_q1, sv_q0, sv_1i, sv_1r, sv_2, sl_i, sl_j, sl_a, sl_v, sp_p, sp_f1, sp_f2, sc_w, sc_c, sc_r, sc_f, sc_a, sc_k, pp_in, pp_al, ↓reduceIte, Nat.reduceEqDiff, Nat.reduceLT, Nat.reduceLeDiff, Nat.reduceAdd, Nat.reduceSub, Nat.reduceMul, List.length_cons, List.length_nil, true_and, and_true, and_self, true_implies, eq_self, not_true_eq_false, not_false_eq_true, false_implies, implies_true, false_and, and_false, Bool.false_eq_true, or_true, true_or, or_false, false_or, Classical.not_not, Nat.le_refl, Nat.lt_irrefl, Bool.true_eq_false, n_lit, n_a, n_c, n_s, n_b, n_m, n_g, n_w, n_n, rk_X5_readNumbers, hC, hm]
    refine c_rd1 hC hx ht (by omega) (hI_n (hi := 41) (by omega) (by omega)) ?_
    revert hP
    cases rd1 b n 0 41 t with
    | inl e =>
      intro hP I' a1 a2
      simp (disch := omega) only [sw_c, sw_n, sx, sf_4, sv_i, sv_j, sv_r, sv_q1, sv_q0, sv_1i, sv_1r, sv_2, sl_i, sl_j, sl_a, sl_v, sp_p, sp_f1, sp_f2, sc_w, sc_c, sc_r, sc_f, sc_a, sc_k, pp_in, pp_al, ↓reduceIte, Nat.reduceEqDiff, Nat.reduceLT, Nat.reduceLeDiff, Nat.reduceAdd, Nat.reduceSub, Nat.reduceMul, List.length_cons, List.length_nil, true_and, and_true, and_self, true_implies, eq_self, not_true_eq_false, not_false_eq_true, false_implies, implies_true, false_and, and_false, Bool.false_eq_true, or_true, true_or, or_false, false_or, Classical.not_not, Nat.le_refl, Nat.lt_irrefl, Bool.true_eq_false, n_lit, n_a, n_c, n_s, n_b, n_m, n_g, n_w, n_n, rk_X5_readNumbers]
      exact hP I' a1 a2
    | inr q =>
      intro hP I' a1 a2 a3 a4
      simp (disch := omega) only [sw_c, sw_n, sx, sf_4, sv_i, sv_j, sv_r, sv_q1, sv_q0, sv_1i, sv_1r, sv_2, sl_i, sl_j, sl_a, sl_v, sp_p, sp_f1, sp_f2, sc_w, sc_c, sc_r, sc_f, sc_a, sc_k, pp_in, pp_al, ↓reduceIte, Nat.reduceEqDiff, Nat.reduceLT, Nat.reduceLeDiff, Nat.reduceAdd, Nat.reduceSub, Nat.reduceMul, List.length_cons, List.length_nil, true_and, and_true, and_self, true_implies, eq_self, not_true_eq_false, not_false_eq_true, false_implies, implies_true, false_and, and_false, Bool.false_eq_true, or_true, true_or, or_false, false_or, Classical.not_not, Nat.le_refl, Nat.lt_irrefl, Bool.true_eq_false, n_lit, n_a, n_c, n_s, n_b, n_m, n_g, n_w, n_n, rk_X5_readNumbers]
      exact hP I' a1 a2 a3 a4
  · rw [show i = 8 by omega] at hP
    have hP : pR sh I J R P b n true (rd2 b n 0 10000 0 101 t) := hP
    refine pp_go rfl sk_X5_readNumbers_139 ?_
    simp (disch := omega) only [sg_X5_readNumbers_139, sw_c, sw_n, sx, sf_4, sv_i, sv_j, sv_r, sv_q1, sv_q0, sv_1i, sv_1r, sv_2, sl_i, sl_j, sl_a, sl_v, sp_p, sp_f1, sp_f2, sc_w, sc_c, sc_r, sc_f, sc_a, sc_k, pp_in, pp_al, ↓reduceIte, Nat.reduceEqDiff, Nat.reduceLT, Nat.reduceLeDiff, Nat.reduceAdd, Nat.reduceSub, Nat.reduceMul, List.length_cons, List.length_nil, true_and, and_true, and_self, true_implies, eq_self, not_true_eq_false, not_false_eq_true, false_implies, implies_true, false_and, and_false, Bool.false_eq_true, or_true, true_or, or_false, false_or, Classical.not_not, Nat.le_refl, Nat.lt_irrefl, Bool.true_eq_false, n_lit, n_a, n_c, n_s, n_b, n_m, n_g, n_w, n_n, rk_X5_readNumbers, hC, hm]
    refine c_rd2 hC hx ht (by omega) (hI_n (hi := 10000) (by omega) (by omega)) (by omega) (hI_n (hi := 101) (by omega) (by omega)) ?_
    revert hP
    cases rd2 b n 0 10000 0 101 t with
    | inl e =>
      intro hP I' a1 a2
      simp (disch := omega) only [sw_c, sw_n, sx, sf_4, sv_i, sv_j, sv_r, sv_q1, sv_q0, sv_1i, sv_1r, sv_2, sl_i, sl_j, sl_a, sl_v, sp_p, sp_f1, sp_f2, sc_w, sc_c, sc_r, sc_f, sc_a, sc_k, pp_in, pp_al, ↓reduceIte, Nat.reduceEqDiff, Nat.reduceLT, Nat.reduceLeDiff, Nat.reduceAdd, Nat.reduceSub, Nat.reduceMul, List.length_cons, List.length_nil, true_and, and_true, and_self, true_implies, eq_self, not_true_eq_false, not_false_eq_true, false_implies, implies_true, false_and, and_false, Bool.false_eq_true, or_true, true_or, or_false, false_or, Classical.not_not, Nat.le_refl, Nat.lt_irrefl, Bool.true_eq_false, n_lit, n_a, n_c, n_s, n_b, n_m, n_g, n_w, n_n, rk_X5_readNumbers]
      exact hP I' a1 a2
    | inr q =>
      intro hP I' a1 a2 a3 a4
      simp (disch := omega) only [sw_c, sw_n, sx, sf_4, sv_i, sv_j, sv_r, sv_q1, sv_q0, sv_1i, sv_1r, sv_2, sl_i, sl_j, sl_a, sl_v, sp_p, sp_f1, sp_f2, sc_w, sc_c, sc_r, sc_f, sc_a, sc_k, pp_in, pp_al, ↓reduceIte, Nat.reduceEqDiff, Nat.reduceLT, Nat.reduceLeDiff, Nat.reduceAdd, Nat.reduceSub, Nat.reduceMul, List.length_cons, List.length_nil, true_and, and_true, and_self, true_implies, eq_self, not_true_eq_false, not_false_eq_true, false_implies, implies_true, false_and, and_false, Bool.false_eq_true, or_true, true_or, or_false, false_or, Classical.not_not, Nat.le_refl, Nat.lt_irrefl, Bool.true_eq_false, n_lit, n_a, n_c, n_s, n_b, n_m, n_g, n_w, n_n, rk_X5_readNumbers]
      exact hP I' a1 a2 a3 a4
  · rw [show i = 9 by omega] at hP
    have hP : pR sh I J R P b n true (rd2 b n 0 10000 0 101 t) := hP
    refine pp_go rfl sk_X5_readNumbers_151 ?_
    simp (disch := omega) only [sg_X5_readNumbers_151, sw_c, sw_n, sx, sf_4, sv_i, sv_j, sv_r, sv_q1, sv_q0, sv_1i, sv_1r, sv_2, sl_i, sl_j, sl_a, sl_v, sp_p, sp_f1, sp_f2, sc_w, sc_c, sc_r, sc_f, sc_a, sc_k, pp_in, pp_al, ↓reduceIte, Nat.reduceEqDiff, Nat.reduceLT, Nat.reduceLeDiff, Nat.reduceAdd, Nat.reduceSub, Nat.reduceMul, List.length_cons, List.length_nil, true_and, and_true, and_self, true_implies, eq_self, not_true_eq_false, not_false_eq_true, false_implies, implies_true, false_and, and_false, Bool.false_eq_true, or_true, true_or, or_false, false_or, Classical.not_not, Nat.le_refl, Nat.lt_irrefl, Bool.true_eq_false, n_lit, n_a, n_c, n_s, n_b, n_m, n_g, n_w, n_n, rk_X5_readNumbers, hC, hm]
    refine c_rd2 hC hx ht (by omega) (hI_n (hi := 10000) (by omega) (by omega)) (by omega) (hI_n (hi := 101) (by omega) (by omega)) ?_
    revert hP
    cases rd2 b n 0 10000 0 101 t with
    | inl e =>
      intro hP I' a1 a2
      simp (disch := omega) only [sw_c, sw_n, sx, sf_4, sv_i, sv_j, sv_r, sv_q1, sv_q0, sv_1i, sv_1r, sv_2, sl_i, sl_j, sl_a, sl_v, sp_p, sp_f1, sp_f2, sc_w, sc_c, sc_r, sc_f, sc_a, sc_k, pp_in, pp_al, ↓reduceIte, Nat.reduceEqDiff, Nat.reduceLT, Nat.reduceLeDiff, Nat.reduceAdd, Nat.reduceSub, Nat.reduceMul, List.length_cons, List.length_nil, true_and, and_true, and_self, true_implies, eq_self, not_true_eq_false, not_false_eq_true, false_implies, implies_true, false_and, and_false, Bool.false_eq_true, or_true, true_or, or_false, false_or, Classical.not_not, Nat.le_refl, Nat.lt_irrefl, Bool.true_eq_false, n_lit, n_a, n_c, n_s, n_b, n_m, n_g, n_w, n_n, rk_X5_readNumbers]
      exact hP I' a1 a2
    | inr q =>
      intro hP I' a1 a2 a3 a4
      simp (disch := omega) only [sw_c, sw_n, sx, sf_4, sv_i, sv_j, sv_r, sv_q1, sv_q0, sv_1i, sv_1r, sv_2, sl_i, sl_j, sl_a, sl_v, sp_p, sp_f1, sp_f2, sc_w, sc_c, sc_r, sc_f, sc_a, sc_k, pp_in, pp_al, ↓reduceIte, Nat.reduceEqDiff, Nat.reduceLT, Nat.reduceLeDiff, Nat.reduceAdd, Nat.reduceSub, Nat.reduceMul, List.length_cons, List.length_nil, true_and, and_true, and_self, true_implies, eq_self, not_true_eq_false, not_false_eq_true, false_implies, implies_true, false_and, and_false, Bool.false_eq_true, or_true, true_or, or_false, false_or, Classical.not_not, Nat.le_refl, Nat.lt_irrefl, Bool.true_eq_false, n_lit, n_a, n_c, n_s, n_b, n_m, n_g, n_w, n_n, rk_X5_readNumbers]
      exact hP I' a1 a2 a3 a4
  · rw [show i = 10 by omega] at hP
    have hP : pR sh I J R P b n false (rd1 b n 0 401 t) := hP
    refine pp_go rfl sk_X5_readNumbers_163 ?_
    simp (disch := omega) only [sg_X5_readNumbers_163, sw_c, sw_n, sx, sf_4, sv_i, sv_j, sv_r, sv_q1, sv_q0, sv_1i, sv_1r, sv_2, sl_i, sl_j, sl_a, sl_v, sp_p, sp_f1, sp_f2, sc_w, sc_c, sc_r, sc_f, sc_a, sc_k, pp_in, pp_al, ↓reduceIte, Nat.reduceEqDiff, Nat.reduceLT, Nat.reduceLeDiff, Nat.reduceAdd, Nat.reduceSub, Nat.reduceMul, List.length_cons, List.length_nil, true_and, and_true, and_self, true_implies, eq_self, not_true_eq_false, not_false_eq_true, false_implies, implies_true, false_and, and_false, Bool.false_eq_true, or_true, true_or, or_false, false_or, Classical.not_not, Nat.le_refl, Nat.lt_irrefl, Bool.true_eq_false, n_lit, n_a, n_c, n_s, n_b, n_m, n_g, n_w, n_n, rk_X5_readNumbers, hC, hm]
    refine c_rd1 hC hx ht (by omega) (hI_n (hi := 401) (by omega) (by omega)) ?_
    revert hP
    cases rd1 b n 0 401 t with
    | inl e =>
      intro hP I' a1 a2
      simp (disch := omega) only [sw_c, sw_n, sx, sf_4, sv_i, sv_j, sv_r, sv_q1, sv_q0, sv_1i, sv_1r, sv_2, sl_i, sl_j, sl_a, sl_v, sp_p, sp_f1, sp_f2, sc_w, sc_c, sc_r, sc_f, sc_a, sc_k, pp_in, pp_al, ↓reduceIte, Nat.reduceEqDiff, Nat.reduceLT, Nat.reduceLeDiff, Nat.reduceAdd, Nat.reduceSub, Nat.reduceMul, List.length_cons, List.length_nil, true_and, and_true, and_self, true_implies, eq_self, not_true_eq_false, not_false_eq_true, false_implies, implies_true, false_and, and_false, Bool.false_eq_true, or_true, true_or, or_false, false_or, Classical.not_not, Nat.le_refl, Nat.lt_irrefl, Bool.true_eq_false, n_lit, n_a, n_c, n_s, n_b, n_m, n_g, n_w, n_n, rk_X5_readNumbers]
      exact hP I' a1 a2
    | inr q =>
      intro hP I' a1 a2 a3 a4
      simp (disch := omega) only [sw_c, sw_n, sx, sf_4, sv_i, sv_j, sv_r, sv_q1, sv_q0, sv_1i, sv_1r, sv_2, sl_i, sl_j, sl_a, sl_v, sp_p, sp_f1, sp_f2, sc_w, sc_c, sc_r, sc_f, sc_a, sc_k, pp_in, pp_al, ↓reduceIte, Nat.reduceEqDiff, Nat.reduceLT, Nat.reduceLeDiff, Nat.reduceAdd, Nat.reduceSub, Nat.reduceMul, List.length_cons, List.length_nil, true_and, and_true, and_self, true_implies, eq_self, not_true_eq_false, not_false_eq_true, false_implies, implies_true, false_and, and_false, Bool.false_eq_true, or_true, true_or, or_false, false_or, Classical.not_not, Nat.le_refl, Nat.lt_irrefl, Bool.true_eq_false, n_lit, n_a, n_c, n_s, n_b, n_m, n_g, n_w, n_n, rk_X5_readNumbers]
      exact hP I' a1 a2 a3 a4
end
