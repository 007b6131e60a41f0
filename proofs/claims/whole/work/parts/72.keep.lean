/-! WHAT STAYS GOOD -/
set_option maxHeartbeats 1000000
set_option maxRecDepth 100000
def gd (n : Nat) (A : AS) : Prop := wfL n (aG A) ∧ wfT (aT A) ∧ aN A ≤ 700 ∧ (∀ i, i < (aU A).1 → wfL n ((aU A).2 i)) ∧ (∀ s G, s < 2 → aS A s = some G → wfL n G)
section
variable {A : AS} {n : Nat} {G : LG} {T : TM}
theorem wfL_mn (h : wfL n G) : wfL (n + 1) G := by
  obtain ⟨h1, h2, h3, h4, h5, h6, h7, h8, h9, h10, h11, h12, h13⟩ := h
  exact ⟨h1, by omega, h3, h4, h5, h6, h7, h8, h9, h10, fun k hk => by have := h11 k hk; omega, h12, fun l hl => by have := h13 l hl; omega⟩
theorem gd_mn (h : gd n A) : gd (n + 1) A := ⟨wfL_mn h.1, h.2.1, h.2.2.1, fun i hi => wfL_mn (h.2.2.2.1 i hi), fun s G hs e => wfL_mn (h.2.2.2.2 s G hs e)⟩
theorem gd_chg (h : gd n A) (hG : wfL (n + 1) G) : gd (n + 1) (chg A G) := by
  refine ⟨hG, h.2.1, h.2.2.1, fun i hi => ?_, fun s G hs e => wfL_mn (h.2.2.2.2 s G hs e)⟩
  show wfL (n + 1) (if i = 0 then aG A else (aU A).2 (i - 1))
  have hi : i < if (aU A).1 = 10 then 10 else (aU A).1 + 1 := hi
  by_cases c : i = 0
  · rw [if_pos c]; exact wfL_mn h.1
  · rw [if_neg c]
    refine wfL_mn (h.2.2.2.1 _ ?_)
    split at hi <;> omega
/-- one number -/
theorem wfL_n1 {i x : Nat} (h : wfL n G) (c0 : i = 0 → x ≤ 9999) (c1 : i = 1 → x ≤ n) (c7 : i = 7 → x ≤ 8) (c8 : i = 8 → x ≤ 16) (c9 : 9 ≤ i → i < 17 → x ≤ 9999) (c17 : 17 ≤ i → i < 33 → x < 8) (c33 : 33 ≤ i → i < 49 → x ≤ 9999) (c49 : 49 ≤ i → i < 177 → x = 0) (c183 : 183 ≤ i → i < 207 → x ≤ 99999 * (n + 1)) (c207 : 207 ≤ i → i < 213 → x ≤ 1) : wfL n (va_up G.1 i x, G.2) := by
  obtain ⟨h1, h2, h3, h4, h5, h6, h7, h8, h9, h10, h11, h12, h13⟩ := h
  refine ⟨?_, ?_, ?_, ?_, fun k hk => ?_, fun k hk => ?_, fun k hk => ?_, fun k hk => ?_, fun k hk => ?_, fun k hk => ?_, fun k hk => ?_, fun k hk => ?_, h13⟩
  · show (if 0 = i then x else G.1 0) ≤ 9999
    split
    · exact c0 (by omega)
    · exact h1
  · show (if 1 = i then x else G.1 1) ≤ n
    split
    · exact c1 (by omega)
    · exact h2
  · show (if 7 = i then x else G.1 7) ≤ 8
    split
    · exact c7 (by omega)
    · exact h3
  · show (if 8 = i then x else G.1 8) ≤ 16
    split
    · exact c8 (by omega)
    · exact h4
  · show (if 9 + k = i then x else G.1 (9 + k)) ≤ 9999
    split
    · exact c9 (by omega) (by omega)
    · exact h5 k hk
  · show (if 17 + k = i then x else G.1 (17 + k)) < 8
    split
    · exact c17 (by omega) (by omega)
    · exact h6 k hk
  · show (if 33 + k = i then x else G.1 (33 + k)) ≤ 9999
    split
    · exact c33 (by omega) (by omega)
    · exact h7 k hk
  · show (if 49 + k = i then x else G.1 (49 + k)) < 32
    split
    · rw [c49 (by omega) (by omega)]; omega
    · exact h8 k hk
  · show (if 113 + k = i then x else G.1 (113 + k)) < 32
    split
    · rw [c49 (by omega) (by omega)]; omega
    · exact h9 k hk
  · show (if 49 + k = i then x else G.1 (49 + k)) &&& (if 113 + k = i then x else G.1 (113 + k)) = 0
    split
    · rw [c49 (by omega) (by omega)]; exact Nat.zero_and _
    · split
      · rw [c49 (by omega) (by omega)]; exact Nat.and_zero _
      · exact h10 k hk
  · show (if 183 + k = i then x else G.1 (183 + k)) ≤ _
    split
    · exact c183 (by omega) (by omega)
    · exact h11 k hk
  · show (if 207 + k = i then x else G.1 (207 + k)) ≤ 1
    split
    · exact c207 (by omega) (by omega)
    · exact h12 k hk
/-- other sums -/
theorem wfL_j {d : Nat → Int64} (h : wfL n G) (hd : ∀ l, l < 6 → 0 ≤ (d (177 + l)).toInt ∧ (d (177 + l)).toInt ≤ 5000000000 * n) : wfL n (G.1, d) := by
  obtain ⟨h1, h2, h3, h4, h5, h6, h7, h8, h9, h10, h11, h12, h13⟩ := h
  exact ⟨h1, h2, h3, h4, h5, h6, h7, h8, h9, h10, h11, h12, hd⟩
theorem wfL_j1 {i : Nat} {x : Int64} (h : wfL n G) (c : 177 ≤ i → i < 183 → 0 ≤ x.toInt ∧ x.toInt ≤ 5000000000 * n) : wfL n (G.1, va_up G.2 i x) :=
  wfL_j h (fun l hl => by
    show 0 ≤ (if 177 + l = i then x else G.2 (177 + l)).toInt ∧ (if 177 + l = i then x else G.2 (177 + l)).toInt ≤ _
    split
    · exact c (by omega) (by omega)
    · exact h.2.2.2.2.2.2.2.2.2.2.2.2 l hl)
theorem g_advance {d : Int32} (h : gd n A) : gd (n + 1) (o_advance A d).2.2 := by
  unfold o_advance
  split
  · exact gd_mn h
  · split
    · exact gd_mn h
    · exact gd_chg h (wfL_n1 (wfL_mn h.1) (by omega) (by omega) (by omega) (by omega) (by omega) (by omega) (by omega) (by omega) (by omega) (by omega))
theorem g_join (h : gd n A) : gd (n + 1) (o_join A).2.2 := by
  have h7 := h.1.2.2.1
  have h0 := h.1.1
  unfold o_join
  split
  · exact gd_mn h
  · exact gd_chg h (wfL_n1 (G := (va_up (aG A).1 (9 + (aG A).1 7) ((aG A).1 0), (aG A).2)) (wfL_n1 (wfL_mn h.1) (by omega) (by omega) (by omega) (by omega) (by omega) (by omega) (by omega) (by omega) (by omega) (by omega)) (by omega) (by omega) (by omega) (by omega) (by omega) (by omega) (by omega) (by omega) (by omega) (by omega))
theorem g_declare {m e : Int32} (h : gd n A) : gd (n + 1) (o_declare A m e).2.2 := by
  have h7 := h.1.2.2.1
  have h8 := h.1.2.2.2.1
  rcases idx_cases m ((aG A).1 7) (by omega) with ⟨k, k1, rfl, e1⟩ | ⟨ho, e1⟩
  · rcases rng_cases e ((aG A).1 0 + 1) 9999 (by omega) with ⟨j, j1, j2, rfl, e2⟩ | ⟨ho, e2⟩
    · simp only [o_declare, wM, e1, e2]
      split
      · exact gd_mn h
      · exact gd_chg h (wfL_n1 (G := (va_up (va_up (aG A).1 (17 + (aG A).1 8) k) (33 + (aG A).1 8) j, (aG A).2)) (wfL_n1 (G := (va_up (aG A).1 (17 + (aG A).1 8) k, (aG A).2)) (wfL_n1 (wfL_mn h.1) (by omega) (by omega) (by omega) (by omega) (by omega) (by omega) (by omega) (by omega) (by omega) (by omega)) (by omega) (by omega) (by omega) (by omega) (by omega) (by omega) (by omega) (by omega) (by omega) (by omega)) (by omega) (by omega) (by omega) (by omega) (by omega) (by omega) (by omega) (by omega) (by omega) (by omega))
    · simp only [o_declare, wM, e1, e2]
      exact gd_mn h
  · simp only [o_declare, wM, e1]
    exact gd_mn h
theorem g_vote {r p v y : Int32} (h : gd n A) : gd (n + 1) (o_vote A r p v y).2.2 := by
  have h8 := h.1.2.2.2.1
  have t1 := h.2.1.1
  rcases idx_cases r 5 (by omega) with ⟨a, a1, rfl, e0⟩ | ⟨ho, e0⟩
  · rcases idx_cases p ((aG A).1 8) (by omega) with ⟨k, k1, rfl, e1⟩ | ⟨ho, e1⟩
    · rcases idx_cases v ((aT A).1 1) (by omega) with ⟨j, j1, rfl, e2⟩ | ⟨ho, e2⟩
      · simp only [o_vote, wP, e0, e1, e2]
        split
        · exact gd_chg h (wfL_vt (wfL_mn h.1) (by omega) a1)
        · exact gd_mn h
      · simp only [o_vote, wP, e0, e1, e2]
        exact gd_mn h
    · simp only [o_vote, wP, e0, e1]
      exact gd_mn h
  · simp only [o_vote, e0]
    exact gd_mn h
theorem g_reopen {p v : Int32} (h : gd n A) : gd (n + 1) (o_reopen A p v).2.2 := by
  have h8 := h.1.2.2.2.1
  have t1 := h.2.1.1
  rcases idx_cases p ((aG A).1 8) (by omega) with ⟨k, k1, rfl, e1⟩ | ⟨ho, e1⟩
  · rcases idx_cases v ((aT A).1 1) (by omega) with ⟨j, j1, rfl, e2⟩ | ⟨ho, e2⟩
    · simp only [o_reopen, wP, e1, e2]
      split
      · exact gd_mn h
      · exact gd_chg h (wfL_n1 (G := (va_up (aG A).1 (49 + (4 * k + j)) 0, (aG A).2)) (wfL_n1 (wfL_mn h.1) (by omega) (by omega) (by omega) (by omega) (by omega) (by omega) (by omega) (by omega) (by omega) (by omega)) (by omega) (by omega) (by omega) (by omega) (by omega) (by omega) (by omega) (by omega) (by omega) (by omega))
    · simp only [o_reopen, wP, e1, e2]
      exact gd_mn h
  · simp only [o_reopen, wP, e1]
    exact gd_mn h
theorem j_more {x : Int64} {y : Nat} (hn : n ≤ 1000) (hx : 0 ≤ x.toInt ∧ x.toInt ≤ 5000000000 * n) (hy : y ≤ 5000000000) : 0 ≤ (x + Int64.ofNat y).toInt ∧ (x + Int64.ofNat y).toInt ≤ 5000000000 * ((n + 1 : Nat) : Int) := by
  have : (n : Int) ≤ 1000 := by omega
  rw [Int64.toInt_add, Int64.toInt_ofNat_of_lt (by omega), Int.bmod_eq_of_le (by omega) (by omega)]
  omega
theorem j_less {x : Int64} {y : Int64} (hn : n ≤ 1000) (hx : 0 ≤ x.toInt ∧ x.toInt ≤ 5000000000 * n) (hy : 0 ≤ y.toInt ∧ y.toInt ≤ x.toInt) : 0 ≤ (x - y).toInt ∧ (x - y).toInt ≤ 5000000000 * ((n + 1 : Nat) : Int) := by
  have : (n : Int) ≤ 1000 := by omega
  rw [Int64.toInt_sub, Int.bmod_eq_of_le (by omega) (by omega)]
  omega
theorem g_report {l v u : Int32} (h : gd n A) (hn : n ≤ 1000) : gd (n + 1) (o_report A l v u).2.2 := by
  have t1 := h.2.1.1
  have t3 := h.2.1.2.1
  rcases idx_cases l ((aT A).1 3) (by omega) with ⟨k, k1, rfl, e1⟩ | ⟨ho, e1⟩
  · rcases idx_cases v ((aT A).1 1) (by omega) with ⟨j, j1, rfl, e2⟩ | ⟨ho, e2⟩
    · rcases rng_cases u 1 9999 (by omega) with ⟨z, z1, z2, rfl, e3⟩ | ⟨ho, e3⟩
      · simp only [o_report, wR, e1, e2, e3]
        split
        · have q := h.1.2.2.2.2.2.2.2.2.2.2.1 (4 * k + j) (by omega)
          rw [show 183 + (4 * k + j) = 183 + 4 * k + j by omega] at q
          have b := (mor_b h.2.1 k1 j1 (show z ≤ 99999 by omega)).1
          exact gd_chg h (wfL_j1 (G := (va_up (aG A).1 (183 + 4 * k + j) ((aG A).1 (183 + 4 * k + j) + z), (aG A).2)) (wfL_n1 (wfL_mn h.1) (by omega) (by omega) (by omega) (by omega) (by omega) (by omega) (by omega) (by omega) (by omega) (by omega)) (fun _ _ => j_more hn (h.1.2.2.2.2.2.2.2.2.2.2.2.2 k (by omega)) (by omega)))
        · exact gd_mn h
      · simp only [o_report, wR, e1, e2, e3]
        exact gd_mn h
    · simp only [o_report, wR, e1, e2]
      exact gd_mn h
  · simp only [o_report, wR, e1]
    exact gd_mn h
theorem g_audit {l v u : Int32} (h : gd n A) (hn : n ≤ 1000) : gd (n + 1) (o_audit A l v u).2.2 := by
  have t1 := h.2.1.1
  have t3 := h.2.1.2.1
  rcases idx_cases l ((aT A).1 3) (by omega) with ⟨k, k1, rfl, e1⟩ | ⟨ho, e1⟩
  · rcases idx_cases v ((aT A).1 1) (by omega) with ⟨j, j1, rfl, e2⟩ | ⟨ho, e2⟩
    · rcases rng_cases u 0 99999 (by omega) with ⟨z, z1, z2, rfl, e3⟩ | ⟨ho, e3⟩
      · simp only [o_audit, wR, e1, e2, e3]
        split
        · exact gd_chg h (wfL_mn h.1)
        · have b := (mor_b h.2.1 k1 j1 (show z - (aG A).1 (183 + 4 * k + j) ≤ 99999 by omega)).2.2
          exact gd_chg h (wfL_j1 (G := (va_up (aG A).1 (183 + 4 * k + j) z, (aG A).2)) (wfL_n1 (wfL_mn h.1) (by omega) (by omega) (by omega) (by omega) (by omega) (by omega) (by omega) (by omega) (by omega) (by omega)) (fun _ _ => j_more hn (h.1.2.2.2.2.2.2.2.2.2.2.2.2 k (by omega)) (by omega)))
      · simp only [o_audit, wR, e1, e2, e3]
        exact gd_mn h
    · simp only [o_audit, wR, e1, e2]
      exact gd_mn h
  · simp only [o_audit, wR, e1]
    exact gd_mn h
theorem crd_le {l : Nat} (wT : wfT T) (hn : n ≤ 1000) (wG : wfL n G) (hl : l < 6) : 0 ≤ (crd T G l).toInt ∧ (crd T G l).toInt ≤ (G.2 (177 + l)).toInt := by
  have d := wG.2.2.2.2.2.2.2.2.2.2.2.2 l hl
  have t12 : T.1 12 ≤ 100 := wT.2.2.2.2.2.2.2.2.2.2.1
  have t11 : T.1 11 ≤ 9999 := wT.2.2.2.2.2.2.2.2.2.1
  have dn : 5000000000 * n ≤ 5000000000 * 1000 := Nat.mul_le_mul_left _ hn
  obtain ⟨q, hq, e⟩ : ∃ q : Nat, q ≤ 5000000000 * 1000 ∧ G.2 (177 + l) = Int64.ofNat q := by
    refine ⟨(G.2 (177 + l)).toInt.toNat, by omega, ?_⟩
    apply Int64.toInt_inj.mp
    rw [Int64.toInt_ofNat_of_lt]
    · omega
    · omega
  have m : q * T.1 12 ≤ 5000000000 * 1000 * 100 := Nat.mul_le_mul hq t12
  have m2 : q * T.1 12 ≤ q * 100 := Nat.mul_le_mul_left _ t12
  have ee : G.2 (177 + l) * Int64.ofNat (T.1 12) / Int64.ofNat 100 = Int64.ofNat (q * T.1 12 / 100) := by
    rw [e, n_a.2.2.2.1, n_n.2.2.1 _ _ (by omega) (by omega)]
  have hq2 : (G.2 (177 + l)).toInt = q := by rw [e, Int64.toInt_ofNat_of_lt (by omega)]
  unfold crd
  rw [ee, hq2]
  by_cases c : q * T.1 12 / 100 < T.1 11
  · rw [if_pos (by rw [n_c.2.2.2.1 _ _ (by omega) (by omega)]; exact c), Int64.toInt_ofNat_of_lt (by omega)]
    omega
  · rw [if_neg (by rw [n_c.2.2.2.1 _ _ (by omega) (by omega)]; exact c), Int64.toInt_ofNat_of_lt (by omega)]
    omega
theorem g_grantBack {l : Int32} (h : gd n A) (hn : n ≤ 1000) : gd (n + 1) (o_grantBack A l).2.2 := by
  have t3 := h.2.1.2.1
  rcases idx_cases l ((aT A).1 3) (by omega) with ⟨k, k1, rfl, e1⟩ | ⟨ho, e1⟩
  · simp only [o_grantBack, wC, e1]
    split
    · exact gd_mn h
    · exact gd_chg h (wfL_j1 (G := (va_up (aG A).1 (207 + k) 1, (aG A).2)) (wfL_n1 (wfL_mn h.1) (by omega) (by omega) (by omega) (by omega) (by omega) (by omega) (by omega) (by omega) (by omega) (by omega)) (fun _ _ => j_less hn (h.1.2.2.2.2.2.2.2.2.2.2.2.2 k (by omega)) (crd_le h.2.1 hn h.1 (by omega))))
  · simp only [o_grantBack, wC, e1]
    exact gd_mn h
theorem g_pay {l a : Int32} (h : gd n A) (hn : n ≤ 1000) : gd (n + 1) (o_pay A l a).2.2 := by
  have t3 := h.2.1.2.1
  rcases idx_cases l ((aT A).1 3) (by omega) with ⟨k, k1, rfl, e1⟩ | ⟨ho, e1⟩
  · simp only [o_pay, wC, e1]
    split
    · rename_i c
      have c1 := Int64.le_iff_toInt_le.mp c.1
      have c2 := Int64.le_iff_toInt_le.mp c.2
      have c3 : (Int64.ofNat 1).toInt = 1 := rfl
      exact gd_chg h (wfL_j1 (G := ((aG A).1, va_up (va_up (aG A).2 (177 + k) ((aG A).2 (177 + k) - a.toInt64)) 2 ((aG A).2 2 + a.toInt64))) (wfL_j1 (G := ((aG A).1, va_up (aG A).2 (177 + k) ((aG A).2 (177 + k) - a.toInt64))) (wfL_j1 (wfL_mn h.1) (fun _ _ => j_less hn (h.1.2.2.2.2.2.2.2.2.2.2.2.2 k (by omega)) (by omega))) (by omega)) (by omega))
    · exact gd_mn h
  · simp only [o_pay, wC, e1]
    exact gd_mn h
theorem g_payOut {m : Int32} (h : gd n A) : gd (n + 1) (o_payOut A m).2.2 := by
  have h7 := h.1.2.2.1
  rcases idx_cases m ((aG A).1 7) (by omega) with ⟨k, k1, rfl, e1⟩ | ⟨ho, e1⟩
  · simp only [o_payOut, wM, e1]
    split
    · exact gd_mn h
    · exact gd_chg h (wfL_j1 (G := ((aG A).1, va_up (aG A).2 (213 + k) (Int64.ofNat 0))) (wfL_j1 (wfL_mn h.1) (by omega)) (by omega))
  · simp only [o_payOut, wM, e1]
    exact gd_mn h
theorem g_close (h : gd n A) : gd (n + 1) (o_close A).2.2 := by
  unfold o_close
  split
  · exact gd_mn h
  · refine gd_chg h ?_
    obtain ⟨h1, h2, h3, h4, h5, h6, h7, h8, h9, h10, h11, h12, h13⟩ := h.1
    have e : ∀ i, (i < 183 ∧ i ≠ 1) → (clG (aT A) (aG A)).1 i = (aG A).1 i := fun i hi => by
      show (if 183 ≤ i ∧ i < 213 then 0 else if i = 1 then _ else _) = _
      rw [if_neg (by omega), if_neg hi.2]
    have e2 : ∀ i, (183 ≤ i ∧ i < 213) → (clG (aT A) (aG A)).1 i = 0 := fun i hi => by
      show (if 183 ≤ i ∧ i < 213 then 0 else if i = 1 then _ else _) = _
      rw [if_pos hi]
    have e1 : (clG (aT A) (aG A)).1 1 = (aG A).1 1 + 1 := rfl
    have e3 : ∀ l, l < 6 → (clG (aT A) (aG A)).2 (177 + l) = (aG A).2 (177 + l) := fun l hl => by
      simp only [clG]
      rw [if_neg (by omega), if_neg (by omega), if_neg (by omega), if_neg (by omega), if_neg (by omega)]
    refine ⟨?_, ?_, ?_, ?_, fun k hk => ?_, fun k hk => ?_, fun k hk => ?_, fun k hk => ?_, fun k hk => ?_, fun k hk => ?_, fun k hk => ?_, fun k hk => ?_, fun k hk => ?_⟩
    · rw [e _ (by omega)]; exact h1
    · rw [e1]; omega
    · rw [e _ (by omega)]; exact h3
    · rw [e _ (by omega)]; exact h4
    · rw [e _ (by omega)]; exact h5 k hk
    · rw [e _ (by omega)]; exact h6 k hk
    · rw [e _ (by omega)]; exact h7 k hk
    · rw [e _ (by omega)]; exact h8 k hk
    · rw [e _ (by omega)]; exact h9 k hk
    · rw [e _ (by omega), e _ (by omega)]; exact h10 k hk
    · rw [e2 _ (by omega)]; omega
    · rw [e2 _ (by omega)]; omega
    · rw [e3 _ hk]; have := h13 k hk; omega
theorem g_undo (h : gd n A) : gd (n + 1) (o_undo A).2 := by
  unfold o_undo
  split
  · exact gd_mn h
  · refine ⟨wfL_mn (h.2.2.2.1 0 (by omega)), h.2.1, h.2.2.1, fun i hi => ?_, fun s G hs e => wfL_mn (h.2.2.2.2 s G hs e)⟩
    have hi : i < (aU A).1 - 1 := hi
    exact wfL_mn (h.2.2.2.1 (i + 1) (by omega))
theorem g_save {p : Int32} (h : gd n A) : gd (n + 1) (o_save A p).2.2 := by
  unfold o_save
  split
  · exact gd_mn h
  · rename_i k _
    refine ⟨wfL_mn h.1, h.2.1, h.2.2.1, fun i hi => wfL_mn (h.2.2.2.1 i hi), fun s G hs e => ?_⟩
    have e : (if s = k then some (aG A) else aS A s) = some G := e
    split at e
    · cases e
      exact wfL_mn h.1
    · exact wfL_mn (h.2.2.2.2 s G hs e)
theorem g_restore {p : Int32} (h : gd n A) : gd (n + 1) (o_restore A p).2.2 := by
  rcases idx_cases p 2 (by omega) with ⟨k, k1, rfl, e1⟩ | ⟨ho, e1⟩
  · cases e2 : aS A k with
    | none =>
      simp only [o_restore, e1, e2]
      exact gd_mn h
    | some G =>
      simp only [o_restore, e1, e2]
      exact ⟨wfL_mn (h.2.2.2.2 k G k1 e2), h.2.1, h.2.2.1, fun i hi => absurd hi (Nat.not_lt_zero i), fun s G hs e => wfL_mn (h.2.2.2.2 s G hs e)⟩
  · simp only [o_restore, e1]
    exact gd_mn h
theorem g_append {a b c d e : Int32} (h : gd n A) : gd (n + 1) (o_append A a b c d e).2 := by
  unfold o_append
  split
  · rename_i q
    exact ⟨wfL_mn h.1, h.2.1, q, fun i hi => wfL_mn (h.2.2.2.1 i hi), fun s G hs e => wfL_mn (h.2.2.2.2 s G hs e)⟩
  · exact gd_mn h
theorem g_parse {p : Int32} (h : gd n A) : gd (n + 1) (o_parse A p).2.2 := by
  have hN := h.2.2.1
  rcases idx_cases p (aN A + 1) (by omega) with ⟨k, k1, rfl, e1⟩ | ⟨ho, e1⟩
  · cases e2 : txt (cod (aB A)) k with
    | inl e =>
      simp only [o_parse, e1, e2]
      exact ⟨wfL_mn h.1, h.2.1, Nat.zero_le _, fun i hi => wfL_mn (h.2.2.2.1 i hi), fun s G hs e => wfL_mn (h.2.2.2.2 s G hs e)⟩
    | inr D =>
      simp only [o_parse, e1, e2]
      have w := txt_g (by omega) e2
      exact ⟨wfL_D w, wfT_D w, Nat.zero_le _, fun i hi => absurd hi (Nat.not_lt_zero i), fun s G hs e => by cases e⟩
  · simp only [o_parse, e1]
    exact gd_mn h
end
