/-! DRAFTS: what is right of them -/
set_option maxHeartbeats 1000000
set_option maxRecDepth 100000
def wfD (D : DR) : Prop := D.1 0 ≤ 8 ∧ D.1 1 ≤ 4 ∧ D.1 2 ≤ 16 ∧ D.1 3 ≤ 6 ∧ (1 ≤ D.1 4 ∧ D.1 4 ≤ 5) ∧ D.1 5 ≤ 100 ∧ D.1 6 ≤ 100 ∧ D.1 7 ≤ 50 ∧ D.1 8 ≤ 40 ∧ D.1 9 ≤ 9999 ∧ D.1 10 ≤ 100 ∧ D.1 11 ≤ 9999 ∧ D.1 12 ≤ 100 ∧ D.1 13 ≤ 400 ∧ (∀ i, i < D.1 0 → D.2.1 i ≤ 9999) ∧ (∀ i, i < 2 * D.1 1 → D.2.2.1 i ≤ 9999) ∧ (∀ i, i < 2 * D.1 2 → D.2.2.2.1 i ≤ 9999) ∧ (∀ i, i < D.1 2 → D.2.2.2.1 (2 * i) < 8) ∧ (∀ i, i < D.1 3 → D.2.2.2.2.1 i ≤ 100) ∧ D.2.2.2.2.2.1.length ≤ 700 ∧ okc D.2.2.2.2.2.1 0
section
variable {b : Nat → Nat} {n : Nat}
theorem one_i {lo hi : Nat} {t : TK} {k : Nat → TK → SR} {r : TK × DR} (h : one b n lo hi t k = .inr r) : t.1 = 2 ∧ (lo ≤ t.2.2.2 ∧ t.2.2.2 < hi) ∧ k t.2.2.2 (nxt b n t) = .inr r := by
  unfold one at h
  by_cases c : t.1 ≠ 2
  · rw [if_pos c] at h; cases h
  · rw [if_neg c] at h
    by_cases d : lo ≤ t.2.2.2 ∧ t.2.2.2 < hi
    · rw [if_pos d] at h; exact ⟨by omega, d, h⟩
    · rw [if_neg d] at h; cases h
abbrev stg (b : Nat → Nat) (n : Nat) (t : TK) (r : TK × DR) : Prop := tkok b n r.1 ∧ t.2.1 < r.1.2.1 ∧ wfD r.2
theorem nx_s {t : TK} (ht : tkok b n t) : tkok b n (nxt b n t) ∧ t.2.1 ≤ (nxt b n t).2.1 ∧ (t.1 ≠ 0 → t.2.1 < (nxt b n t).2.1) := by
  have a := tk_b ht
  have c := nxt_ok ht
  exact ⟨c.1, by omega, fun z => by have := a.2.2.1 z; omega⟩
theorem oneS_g {i x lo hi : Nat} {t : TK} {D : DR} {r : TK × DR} (ht : tkok b n t) (h0 : t.1 ≠ 0) (hb : ∀ v, lo ≤ v → v < hi → wfD (va_up D.1 x v, D.2.1, D.2.2.1, D.2.2.2.1, D.2.2.2.2.1, D.2.2.2.2.2.1, va_up D.2.2.2.2.2.2 i true)) (h : oneS b n i x lo hi t D = .inr r) : stg b n t r := by
  unfold oneS at h
  by_cases c : D.2.2.2.2.2.2 i = true
  · rw [if_pos c] at h; cases h
  · rw [if_neg c] at h
    have o := one_i h
    have a := nx_s ht
    have a2 := nx_s a.1
    have e := o.2.2
    cases e
    exact ⟨a2.1, by have := a.2.2 h0; have := a2.2.1; show t.2.1 < (nxt b n (nxt b n t)).2.1; omega, hb _ o.2.1.1 o.2.1.2⟩
theorem twoS_g {i x lo hi lo' hi' : Nat} {t : TK} {D : DR} {r : TK × DR} (ht : tkok b n t) (h0 : t.1 ≠ 0) (hb : ∀ v u, lo ≤ v → v < hi → lo' ≤ u → u < hi' → wfD (va_up (va_up D.1 x v) (x + 1) u, D.2.1, D.2.2.1, D.2.2.2.1, D.2.2.2.2.1, D.2.2.2.2.2.1, va_up D.2.2.2.2.2.2 i true)) (h : twoS b n i x lo hi lo' hi' t D = .inr r) : stg b n t r := by
  unfold twoS two at h
  by_cases c : D.2.2.2.2.2.2 i = true
  · rw [if_pos c] at h; cases h
  · rw [if_neg c] at h
    have o := one_i h
    have o2 := one_i o.2.2
    have a := nx_s ht
    have a2 := nx_s a.1
    have a3 := nx_s a2.1
    have e := o2.2.2
    cases e
    exact ⟨a3.1, by have := a.2.2 h0; have := a2.2.1; have := a3.2.1; show t.2.1 < (nxt b n (nxt b n (nxt b n t))).2.1; omega, hb _ _ o.2.1.1 o.2.1.2 o2.2.1.1 o2.2.1.2⟩
theorem stm_g {t : TK} {D : DR} {r : TK × DR} (hn : n ≤ 700) (ht : tkok b n t) (hw : wfD D) (h : stm b n t D = .inr r) : stg b n t r := by
  have a := nx_s ht
  have a2 := nx_s a.1
  have a3 := nx_s a2.1
  unfold stm at h
  obtain ⟨w0, w1, w2, w3, w4, w5, w6, w7, w8, w9, w10, w11, w12, w13, x0, x1, x2, x2', x3, x4, x5⟩ := hw
  by_cases c0 : isw b t 0 = true
  · rw [if_pos c0] at h
    by_cases d : D.1 0 < 8
    · rw [if_pos d] at h
      have o := one_i h
      have e := o.2.2
      cases e
      refine ⟨a2.1, by have := a.2.2 (by have := isw_1 c0; omega); have := a2.2.1; show t.2.1 < (nxt b n (nxt b n t)).2.1; omega, ?_⟩
      refine ⟨?_, w1, w2, w3, w4, w5, w6, w7, w8, w9, w10, w11, w12, w13, ?_, x1, x2, x2', x3, x4, x5⟩
      · simp only [va_up, ↓reduceIte]; omega
      · simp only [va_up, ↓reduceIte]; intro i hi
        by_cases z : i = D.1 0
        · rw [if_pos z]; omega
        · rw [if_neg z]; exact x0 i (by omega)
    · rw [if_neg d] at h; cases h
  rw [if_neg c0] at h
  by_cases c1 : isw b t 1 = true
  · rw [if_pos c1] at h
    by_cases d : D.1 1 < 4
    · rw [if_pos d] at h
      unfold two at h
      have o := one_i h
      have o2 := one_i o.2.2
      have e := o2.2.2
      cases e
      refine ⟨a3.1, by have := a.2.2 (by have := isw_1 c1; omega); have := a2.2.1; have := a3.2.1; show t.2.1 < (nxt b n (nxt b n (nxt b n t))).2.1; omega, ?_⟩
      refine ⟨w0, ?_, w2, w3, w4, w5, w6, w7, w8, w9, w10, w11, w12, w13, x0, ?_, x2, x2', x3, x4, x5⟩
      · simp only [va_up, ↓reduceIte]; omega
      · simp only [va_up, ↓reduceIte]; intro i hi
        by_cases z : i = 2 * D.1 1 + 1
        · rw [if_pos z]; omega
        · rw [if_neg z]
          by_cases y : i = 2 * D.1 1
          · rw [if_pos y]; omega
          · rw [if_neg y]; exact x1 i (by omega)
    · rw [if_neg d] at h; cases h
  rw [if_neg c1] at h
  by_cases c2 : isw b t 2 = true
  · rw [if_pos c2] at h
    by_cases d : D.1 2 < 16
    · rw [if_pos d] at h
      unfold two at h
      have o := one_i h
      have o2 := one_i o.2.2
      have e := o2.2.2
      cases e
      refine ⟨a3.1, by have := a.2.2 (by have := isw_1 c2; omega); have := a2.2.1; have := a3.2.1; show t.2.1 < (nxt b n (nxt b n (nxt b n t))).2.1; omega, ?_⟩
      refine ⟨w0, w1, ?_, w3, w4, w5, w6, w7, w8, w9, w10, w11, w12, w13, x0, x1, ?_, ?_, x3, x4, x5⟩
      · simp only [va_up, ↓reduceIte]; omega
      · simp only [va_up, ↓reduceIte]; intro i hi
        by_cases z : i = 2 * D.1 2 + 1
        · rw [if_pos z]; omega
        · rw [if_neg z]
          by_cases y : i = 2 * D.1 2
          · rw [if_pos y]; omega
          · rw [if_neg y]; exact x2 i (by omega)
      · simp only [va_up, ↓reduceIte]; intro i hi
        rw [if_neg (by omega)]
        by_cases y : i = D.1 2
        · rw [if_pos (by omega)]; omega
        · rw [if_neg (by omega)]; exact x2' i (by omega)
    · rw [if_neg d] at h; cases h
  rw [if_neg c2] at h
  by_cases c3 : isw b t 3 = true
  · rw [if_pos c3] at h
    by_cases d : D.1 3 < 6
    · rw [if_pos d] at h
      have o := one_i h
      have e := o.2.2
      cases e
      refine ⟨a2.1, by have := a.2.2 (by have := isw_1 c3; omega); have := a2.2.1; show t.2.1 < (nxt b n (nxt b n t)).2.1; omega, ?_⟩
      refine ⟨w0, w1, w2, ?_, w4, w5, w6, w7, w8, w9, w10, w11, w12, w13, x0, x1, x2, x2', ?_, x4, x5⟩
      · simp only [va_up, ↓reduceIte]; omega
      · simp only [va_up, ↓reduceIte]; intro i hi
        by_cases z : i = D.1 3
        · rw [if_pos z]; omega
        · rw [if_neg z]; exact x3 i (by omega)
    · rw [if_neg d] at h; cases h
  rw [if_neg c3] at h
  by_cases c4 : isw b t 4 = true
  · rw [if_pos c4] at h
    refine twoS_g ht (by have := isw_1 c4; omega) ?_ h
    exact (fun v u v1 v2 u1 u2 => ⟨w0, w1, w2, w3, (by simp only [va_up, ↓reduceIte, Nat.reduceEqDiff, Nat.reduceAdd]; omega), (by simp only [va_up, ↓reduceIte, Nat.reduceEqDiff, Nat.reduceAdd]; omega), w6, w7, w8, w9, w10, w11, w12, w13, x0, x1, x2, x2', x3, x4, x5⟩)
  rw [if_neg c4] at h
  by_cases c5 : isw b t 5 = true
  · rw [if_pos c5] at h
    refine oneS_g ht (by have := isw_1 c5; omega) ?_ h
    exact (fun v v1 v2 => ⟨w0, w1, w2, w3, w4, w5, (by simp only [va_up, ↓reduceIte, Nat.reduceEqDiff]; omega), w7, w8, w9, w10, w11, w12, w13, x0, x1, x2, x2', x3, x4, x5⟩)
  rw [if_neg c5] at h
  by_cases c6 : isw b t 6 = true
  · rw [if_pos c6] at h
    refine oneS_g ht (by have := isw_1 c6; omega) ?_ h
    exact (fun v v1 v2 => ⟨w0, w1, w2, w3, w4, w5, w6, (by simp only [va_up, ↓reduceIte, Nat.reduceEqDiff]; omega), w8, w9, w10, w11, w12, w13, x0, x1, x2, x2', x3, x4, x5⟩)
  rw [if_neg c6] at h
  by_cases c7 : isw b t 7 = true
  · rw [if_pos c7] at h
    refine oneS_g ht (by have := isw_1 c7; omega) ?_ h
    exact (fun v v1 v2 => ⟨w0, w1, w2, w3, w4, w5, w6, w7, (by simp only [va_up, ↓reduceIte, Nat.reduceEqDiff]; omega), w9, w10, w11, w12, w13, x0, x1, x2, x2', x3, x4, x5⟩)
  rw [if_neg c7] at h
  by_cases c8 : isw b t 8 = true
  · rw [if_pos c8] at h
    refine twoS_g ht (by have := isw_1 c8; omega) ?_ h
    exact (fun v u v1 v2 u1 u2 => ⟨w0, w1, w2, w3, w4, w5, w6, w7, w8, (by simp only [va_up, ↓reduceIte, Nat.reduceEqDiff, Nat.reduceAdd]; omega), (by simp only [va_up, ↓reduceIte, Nat.reduceEqDiff, Nat.reduceAdd]; omega), w11, w12, w13, x0, x1, x2, x2', x3, x4, x5⟩)
  rw [if_neg c8] at h
  by_cases c9 : isw b t 9 = true
  · rw [if_pos c9] at h
    refine twoS_g ht (by have := isw_1 c9; omega) ?_ h
    exact (fun v u v1 v2 u1 u2 => ⟨w0, w1, w2, w3, w4, w5, w6, w7, w8, w9, w10, (by simp only [va_up, ↓reduceIte, Nat.reduceEqDiff, Nat.reduceAdd]; omega), (by simp only [va_up, ↓reduceIte, Nat.reduceEqDiff, Nat.reduceAdd]; omega), w13, x0, x1, x2, x2', x3, x4, x5⟩)
  rw [if_neg c9] at h
  by_cases c10 : isw b t 10 = true
  · rw [if_pos c10] at h
    refine oneS_g ht (by have := isw_1 c10; omega) ?_ h
    exact (fun v v1 v2 => ⟨w0, w1, w2, w3, w4, w5, w6, w7, w8, w9, w10, w11, w12, (by simp only [va_up, ↓reduceIte, Nat.reduceEqDiff]; omega), x0, x1, x2, x2', x3, x4, x5⟩)
  rw [if_neg c10] at h
  by_cases c11 : isw b t 11 = true
  · rw [if_pos c11] at h
    unfold wgh at h
    by_cases d : D.2.2.2.2.2.2 7 = true
    · rw [if_pos d] at h; cases h
    · rw [if_neg d] at h
      cases hr : sumN b n 5 (nxt b n t) [] with
      | inl e => rw [hr] at h; cases h
      | inr q =>
        obtain ⟨t2, c2⟩ := q
        rw [hr] at h
        cases h
        have gs := (sumN_g (b := b) (n := n) 5).1 _ _ _ _ a.1 hr
        obtain ⟨e, he, ho⟩ := gs.2.2.2
        have tb := tk_b gs.1
        have l := gs.2.2.1
        rw [List.length_nil] at l
        have q0 := a.2.2 (by have := isw_1 c11; omega)
        refine ⟨gs.1, by show t.2.1 < t2.2.1; omega, w0, w1, w2, w3, w4, w5, w6, w7, w8, w9, w10, w11, w12, w13, x0, x1, x2, x2', x3, by show c2.length ≤ 700; omega, ?_⟩
        show okc c2 0
        rw [he, List.nil_append]
        exact okc_of e 0 (ho 0 (by omega))
  · rw [if_neg c11] at h; cases h
theorem stc_g {t : TK} {D : DR} {r : TK × DR} (hn : n ≤ 700) (ht : tkok b n t) (hw : wfD D) (h : stc b n t D = .inr r) : stg b n t r := by
  unfold stc at h
  cases hs : stm b n t D with
  | inl e => rw [hs] at h; cases h
  | inr q =>
    obtain ⟨t1, D1⟩ := q
    rw [hs] at h
    have g1 := stm_g hn ht hw hs
    simp only [] at h
    by_cases c : sgP t1 59
    · rw [if_pos c] at h
      cases h
      have a := nx_s g1.1
      exact ⟨a.1, Nat.lt_of_lt_of_le g1.2.1 a.2.1, g1.2.2⟩
    · rw [if_neg c] at h; cases h
theorem lps_g (hn : n ≤ 700) : ∀ f t D r, tkok b n t → wfD D → lps b n f t D = .inr r → tkok b n r.1 ∧ wfD r.2 := by
  intro f
  induction f with
  | zero => intro t D r ht hw h; rw [lps] at h; cases h; exact ⟨ht, hw⟩
  | succ f ih =>
    intro t D r ht hw h
    rw [lps] at h
    by_cases c : t.1 = 0
    · rw [if_pos c] at h; cases h; exact ⟨ht, hw⟩
    · rw [if_neg c] at h
      cases hs : stc b n t D with
      | inl e => rw [hs] at h; cases h
      | inr q =>
        rw [hs] at h
        have g1 := stc_g hn ht hw hs
        exact ih _ _ _ g1.1 g1.2.2 h
theorem D00_g : wfD D00 := by
  refine ⟨by decide, by decide, by decide, by decide, by decide, by decide, by decide, by decide, by decide, by decide, by decide, by decide, by decide, by decide, fun i hi => absurd hi (by show ¬ i < 0; omega), fun i hi => Nat.zero_le _, fun i hi => Nat.zero_le _, fun i hi => by show 0 < 8; omega, fun i hi => Nat.zero_le _, by decide, ?_⟩
  show okc [1] 0
  rw [okc, if_neg (by omega)]
  exact ⟨Or.inl rfl, by omega, by rw [okc]⟩
theorem txt_g {D : DR} (hn : n ≤ 700) (h : txt b n = .inr D) : wfD D := by
  unfold txt at h
  cases hs : lps b n 700 (tok b n 0) D00 with
  | inl e => rw [hs] at h; cases h
  | inr q =>
    obtain ⟨t1, D1⟩ := q
    rw [hs] at h
    cases h
    exact (lps_g hn 700 _ _ _ (tok_ok (Nat.zero_le _)).1 D00_g hs).2
end
theorem wfT_D {D : DR} (h : wfD D) : wfT (dT D) := by
  obtain ⟨w0, w1, w2, w3, w4, w5, w6, w7, w8, w9, w10, w11, w12, w13, x0, x1, x2, x2', x3, x4, x5⟩ := h
  exact ⟨w1, w3, w4, w5, w6, w7, w8, w9, w10, w11, w12, w13, x1, x3, x4, x5⟩
theorem wfL_D {D : DR} {n : Nat} (h : wfD D) : wfL n (dG D) := by
  obtain ⟨w0, w1, w2, w3, w4, w5, w6, w7, w8, w9, w10, w11, w12, w13, x0, x1, x2, x2', x3, x4, x5⟩ := h
  have lo : ∀ i, i < 7 → (dG D).1 i = 0 := fun i hi => by simp only [dG]; rw [if_neg (by omega), if_neg (by omega), if_neg (by omega), if_neg (by omega), if_neg (by omega)]
  have hi : ∀ i, 49 ≤ i → (dG D).1 i = 0 := fun i hi => by simp only [dG]; rw [if_neg (by omega), if_neg (by omega), if_neg (by omega), if_neg (by omega), if_neg (by omega)]
  refine ⟨by rw [lo 0 (by omega)]; omega, by rw [lo 1 (by omega)]; omega, by simp only [dG, ↓reduceIte]; exact w0, by simp only [dG, ↓reduceIte, Nat.reduceEqDiff]; exact w2, fun m hm => ?_, fun p hp => ?_, fun p hp => ?_, fun k hk => by rw [hi _ (by omega)]; omega, fun k hk => by rw [hi _ (by omega)]; omega, fun k hk => by rw [hi _ (by omega), hi _ (by omega)]; rfl, fun k hk => by rw [hi _ (by omega)]; omega, fun l hl => by rw [hi _ (by omega)]; omega, fun l hl => ?_⟩
  · simp only [dG]
    rw [if_neg (by omega), if_neg (by omega)]
    by_cases c : m < D.1 0
    · rw [if_pos (by omega), show 9 + m - 9 = m by omega]; exact x0 m c
    · rw [if_neg (by omega), if_neg (by omega), if_neg (by omega)]; omega
  · simp only [dG]
    rw [if_neg (by omega), if_neg (by omega), if_neg (by omega)]
    by_cases c : p < D.1 2
    · rw [if_pos (by omega), show 17 + p - 17 = p by omega]; exact x2' p c
    · rw [if_neg (by omega), if_neg (by omega)]; omega
  · simp only [dG]
    rw [if_neg (by omega), if_neg (by omega), if_neg (by omega), if_neg (by omega)]
    by_cases c : p < D.1 2
    · rw [if_pos (by omega), show 33 + p - 33 = p by omega]; exact x2 _ (by omega)
    · rw [if_neg (by omega)]; omega
  · show 0 ≤ (Int64.ofNat 0).toInt ∧ (Int64.ofNat 0).toInt ≤ _
    have : (Int64.ofNat 0).toInt = 0 := rfl
    omega
