/-! FORMULAS: what is right of them -/
set_option maxHeartbeats 1000000
set_option maxRecDepth 100000
def okr : List Nat → Nat → Option Nat
  | [], d => some d
  | c :: l, d => if 4 ≤ c ∧ c ≤ 7 then (if 2 ≤ d then okr l (d - 1) else none) else if (c = 1 ∨ c = 2 ∨ c = 3 ∨ (100 ≤ c ∧ c < 10100)) ∧ d < 16 then okr l (d + 1) else none
theorem okr_app : ∀ (a e : List Nat) (d : Nat), okr (a ++ e) d = (okr a d).bind (okr e) := by
  intro a
  induction a with
  | nil => intro e d; rfl
  | cons c a ih =>
    intro e d
    rw [List.cons_append, okr, okr]
    split
    · split
      · exact ih e _
      · rfl
    · split
      · exact ih e _
      · rfl
theorem okc_of : ∀ (l : List Nat) (d : Nat), okr l d = some 1 → okc l d := by
  intro l
  induction l with
  | nil => intro d h; rw [okr] at h; rw [okc]; exact Option.some.inj h
  | cons c l ih =>
    intro d h
    rw [okr] at h
    rw [okc]
    split
    · rename_i q
      rw [if_pos q] at h
      by_cases q2 : 2 ≤ d
      · rw [if_pos q2] at h
        exact ⟨q2, ih _ h⟩
      · rw [if_neg q2] at h; cases h
    · rename_i q
      rw [if_neg q] at h
      by_cases q2 : (c = 1 ∨ c = 2 ∨ c = 3 ∨ (100 ≤ c ∧ c < 10100)) ∧ d < 16
      · rw [if_pos q2] at h
        exact ⟨q2.1, q2.2, ih _ h⟩
      · rw [if_neg q2] at h; cases h
section
variable {b : Nat → Nat} {n : Nat}
abbrev pgd (b : Nat → Nat) (n : Nat) (F : TK → List Nat → PR) (m : Nat) : Prop := ∀ t c t' c', tkok b n t → F t c = .inr (t', c') → tkok b n t' ∧ t.2.1 < t'.2.1 ∧ c'.length + t.2.1 ≤ c.length + t'.2.1 ∧ ∃ e, c' = c ++ e ∧ ∀ d, d + m ≤ 16 → okr e d = some (d + 1)
theorem pgd_1 {t : TK} {c : List Nat} {k m : Nat} (ht : tkok b n t) (h0 : t.1 ≠ 0) (hk : k = 1 ∨ k = 2 ∨ k = 3 ∨ (100 ≤ k ∧ k < 10100)) (hm : 1 ≤ m) : tkok b n (nxt b n t) ∧ t.2.1 < (nxt b n t).2.1 ∧ (c ++ [k]).length + t.2.1 ≤ c.length + (nxt b n t).2.1 ∧ ∃ e, c ++ [k] = c ++ e ∧ ∀ d, d + m ≤ 16 → okr e d = some (d + 1) := by
  have tb := tk_b ht
  have nb := nxt_ok ht
  have t1 := tb.2.2.1 h0
  refine ⟨nb.1, by omega, ?_, [k], rfl, fun d hd => ?_⟩
  · rw [List.length_append, List.length_cons, List.length_nil]; omega
  · rw [okr, if_neg (by omega), if_pos ⟨hk, by omega⟩]; rfl
theorem fac_g {op : Option (TK → List Nat → PR)} {m : Nat} (hm : 1 ≤ m) (hop : ∀ s, op = some s → pgd b n s m) : pgd b n (fac b n op) m := by
  intro t c t' c' ht h
  have tb := tk_b ht
  have nb := nxt_ok ht
  unfold fac at h
  by_cases q : sgP t 40
  · rw [if_pos q] at h
    have t1 := tb.2.2.1 (by rw [q.1]; omega)
    cases op with
    | none => cases h
    | some s =>
      simp only [] at h
      cases hs : s (nxt b n t) c with
      | inl e => rw [hs] at h; cases h
      | inr r =>
        obtain ⟨t1', c1⟩ := r
        rw [hs] at h
        have g := hop s rfl (nxt b n t) c t1' c1 nb.1 hs
        simp only [] at h
        by_cases q2 : sgP t1' 41
        · rw [if_pos q2] at h
          cases h
          have n2 := nxt_ok g.1
          have b2 := tk_b g.1
          have b3 := b2.2.2.1 (by rw [q2.1]; omega)
          exact ⟨n2.1, by omega, by omega, g.2.2.2⟩
        · rw [if_neg q2] at h; cases h
  · rw [if_neg q] at h
    by_cases q2 : t.1 = 2
    · rw [if_pos q2] at h
      cases h
      exact pgd_1 ht (by omega) (by have := tb.2.2.2.2.2.1 q2; omega) hm
    · rw [if_neg q2] at h
      by_cases w1 : isw b t 12 = true
      · rw [if_pos w1] at h; cases h
        exact pgd_1 ht (by have := isw_1 w1; omega) (by omega) hm
      · rw [if_neg w1] at h
        by_cases w2 : isw b t 13 = true
        · rw [if_pos w2] at h; cases h
          exact pgd_1 ht (by have := isw_1 w2; omega) (by omega) hm
        · rw [if_neg w2] at h
          by_cases w3 : isw b t 14 = true
          · rw [if_pos w3] at h; cases h
            exact pgd_1 ht (by have := isw_1 w3; omega) (by omega) hm
          · rw [if_neg w3] at h; cases h
theorem lop_g {x y kx ky m : Nat} {F : TK → List Nat → PR} (hF : pgd b n F m) (h1 : 4 ≤ kx ∧ kx ≤ 7) (h2 : 4 ≤ ky ∧ ky ≤ 7) : ∀ f t c t' c', tkok b n t → lop b n x y kx ky F f t c = .inr (t', c') → tkok b n t' ∧ t.2.1 ≤ t'.2.1 ∧ c'.length + t.2.1 ≤ c.length + t'.2.1 ∧ ∃ e, c' = c ++ e ∧ ∀ d, d + 1 + m ≤ 16 → okr e (d + 1) = some (d + 1) := by
  intro f
  induction f with
  | zero =>
    intro t c t' c' ht h
    rw [lop] at h
    cases h
    exact ⟨ht, Nat.le_refl _, Nat.le_refl _, [], by simp, fun d _ => rfl⟩
  | succ f ih =>
    intro t c t' c' ht h
    have tb := tk_b ht
    have nb := nxt_ok ht
    rw [lop] at h
    by_cases q : sgP t x ∨ sgP t y
    · rw [if_pos q] at h
      have t1 := tb.2.2.1 (by rcases q with q | q <;> rw [q.1] <;> omega)
      cases hs : F (nxt b n t) c with
      | inl e => rw [hs] at h; cases h
      | inr r =>
        obtain ⟨t1', c1⟩ := r
        rw [hs] at h
        have g := hF (nxt b n t) c t1' c1 nb.1 hs
        have g2 := ih _ _ _ _ g.1 h
        obtain ⟨e1, he1, o1⟩ := g.2.2.2
        obtain ⟨e2, he2, o2⟩ := g2.2.2.2
        have l1 := g2.2.2.1
        rw [List.length_append, List.length_cons, List.length_nil] at l1
        refine ⟨g2.1, by omega, by omega, e1 ++ ([if t.2.2.2 = x then kx else ky] ++ e2), by rw [he2, he1]; simp, fun d hd => ?_⟩
        have ek : 4 ≤ (if t.2.2.2 = x then kx else ky) ∧ (if t.2.2.2 = x then kx else ky) ≤ 7 := by split <;> assumption
        rw [okr_app, o1 (d + 1) (by omega), Option.bind_some, List.singleton_append, okr, if_pos ek, if_pos (by omega)]
        exact o2 d hd
    · rw [if_neg q] at h
      cases h
      exact ⟨ht, Nat.le_refl _, Nat.le_refl _, [], by simp, fun d _ => rfl⟩
theorem jnd_g {x y kx ky m : Nat} {F : TK → List Nat → PR} (hF : pgd b n F m) (h1 : 4 ≤ kx ∧ kx ≤ 7) (h2 : 4 ≤ ky ∧ ky ≤ 7) : pgd b n (jnd b n x y kx ky F) (m + 1) := by
  intro t c t' c' ht h
  rw [jnd] at h
  cases hs : F t c with
  | inl e => rw [hs] at h; cases h
  | inr r =>
    obtain ⟨t1', c1⟩ := r
    rw [hs] at h
    have g := hF t c t1' c1 ht hs
    have g2 := lop_g hF h1 h2 _ _ _ _ _ g.1 h
    obtain ⟨e1, he1, o1⟩ := g.2.2.2
    obtain ⟨e2, he2, o2⟩ := g2.2.2.2
    refine ⟨g2.1, by omega, by omega, e1 ++ e2, by rw [he2, he1]; simp, fun d hd => ?_⟩
    rw [okr_app, o1 d (by omega), Option.bind_some]
    exact o2 d (by omega)
theorem sumN_g : ∀ r, pgd b n (sumN b n r) (2 * r + 3) ∧ pgd b n (trm b n (opN b n r)) (2 * r + 2) ∧ pgd b n (fac b n (opN b n r)) (2 * r + 1) := by
  intro r
  have step : ∀ r, (∀ s, opN b n r = some s → pgd b n s (2 * r + 1)) → pgd b n (sumN b n r) (2 * r + 3) ∧ pgd b n (trm b n (opN b n r)) (2 * r + 2) ∧ pgd b n (fac b n (opN b n r)) (2 * r + 1) := fun r hr => by
    have f := fac_g (b := b) (n := n) (by omega) hr
    have t : pgd b n (trm b n (opN b n r)) (2 * r + 2) := jnd_g f (by omega) (by omega)
    exact ⟨jnd_g t (by omega) (by omega), t, f⟩
  induction r with
  | zero => exact step 0 (fun s hs => by cases hs)
  | succ r ih =>
    refine step (r + 1) (fun s hs => ?_)
    rw [opN] at hs
    cases hs
    exact ih.1
end
