/-! THE CLASS, 3: majorities, shares -/
set_option maxHeartbeats 1000000
set_option maxRecDepth 100000
/-! ### numbers -/
theorem rm_v (x y : Int64) : x - x / y * y = x % y := by
  apply Int64.toInt_inj.mp
  rw [← Int64.toInt_bmod (x % y), Int64.toInt_sub, Int64.toInt_mul, Int64.toInt_div, Int64.toInt_mod, Int.tmod_def, Int.mul_comm y.toInt]
  simp
theorem rm_b (x : Int64) (a : Nat) (h0 : 0 < a) (h1 : a ≤ 8000000) : -8000000 < (x - x / Int64.ofNat a * Int64.ofNat a).toInt ∧ (x - x / Int64.ofNat a * Int64.ofNat a).toInt < 8000000 := by
  rw [rm_v, Int64.toInt_mod, Int64.toInt_ofNat_of_lt (by omega)]
  have := Int.tmod_lt_of_pos x.toInt (b := (a : Int)) (by omega)
  have := Int.lt_tmod_of_pos x.toInt (b := (a : Int)) (by omega)
  omega
/-- who is ahead -/
abbrev bfr (W : Nat → Nat) (O : Nat → Bool) (all : Nat) (r : Int64) (o m : Nat) : Prop := O o = true ∧ (rmd W all r m < rmd W all r o ∨ (rmd W all r o = rmd W all r m ∧ o < m))
section
variable {W : Nat → Nat} {O : Nat → Bool} {all : Nat} {r : Int64}
theorem bfr_iff (h0 : 0 < all) (h1 : all ≤ 8000000) (m o : Nat) : ahP W O all r m o ↔ bfr W O all r o m := by
  have b1 := rm_b (r * Int64.ofNat (W o)) all h0 h1
  have b2 := rm_b (r * Int64.ofNat (W m)) all h0 h1
  unfold ahP bfr lss
  change -8000000 < (rmd W all r o).toInt ∧ (rmd W all r o).toInt < 8000000 at b1
  change -8000000 < (rmd W all r m).toInt ∧ (rmd W all r m).toInt < 8000000 at b2
  cases ho : O o with
  | false =>
    simp only [Bool.false_eq_true, if_false, false_and, iff_false]
    rintro (z | z)
    · exact absurd z (by decide)
    · exact absurd z.1 (by decide)
  | true =>
    simp only [if_true, true_and]
    have e : (rmd W all r o - rmd W all r m).toInt = (rmd W all r o).toInt - (rmd W all r m).toInt := by
      rw [Int64.toInt_sub, Int.bmod_eq_of_le (by omega) (by omega)]
    have z0 : (Int64.ofNat 0).toInt = 0 := rfl
    rw [Int64.lt_iff_toInt_lt, Int64.lt_iff_toInt_lt, ← Int64.toInt_inj, ← Int64.toInt_inj, e, z0]
    constructor
    · rintro (z | ⟨z, y⟩)
      · exact Or.inl (by omega)
      · exact Or.inr ⟨by omega, y⟩
    · rintro (z | ⟨z, y⟩)
      · exact Or.inl (by omega)
      · exact Or.inr ⟨by omega, y⟩
theorem ahd_b (h0 : 0 < all) (h1 : all ≤ 8000000) (m : Nat) : ahd W O all r m = sm (fun o => if bfr W O all r o m then 1 else 0) 8 := by
  unfold ahd
  refine sm_congr 8 (fun o _ => ?_)
  by_cases c : ahP W O all r m o
  · rw [if_pos c, if_pos ((bfr_iff h0 h1 m o).mp c)]
  · rw [if_neg c, if_neg (fun z => c ((bfr_iff h0 h1 m o).mpr z))]
theorem bfr_asym {o m : Nat} (a : bfr W O all r o m) (b : bfr W O all r m o) : False := by
  have a2 := a.2
  have b2 := b.2
  rw [Int64.lt_iff_toInt_lt, ← Int64.toInt_inj] at a2 b2
  omega
theorem bfr_trans {o m k : Nat} (a : bfr W O all r o m) (b : bfr W O all r m k) : bfr W O all r o k := by
  have a2 := a.2
  have b2 := b.2
  refine ⟨a.1, ?_⟩
  rw [Int64.lt_iff_toInt_lt, ← Int64.toInt_inj] at a2 b2 ⊢
  omega
theorem bfr_tot {o m : Nat} (a : O o = true) (b : O m = true) (h : o ≠ m) : bfr W O all r o m ∨ bfr W O all r m o := by
  unfold bfr
  rw [Int64.lt_iff_toInt_lt, ← Int64.toInt_inj, Int64.lt_iff_toInt_lt, ← Int64.toInt_inj]
  by_cases c : (rmd W all r m).toInt < (rmd W all r o).toInt
  · exact Or.inl ⟨a, Or.inl c⟩
  · by_cases d : (rmd W all r o).toInt < (rmd W all r m).toInt
    · exact Or.inr ⟨b, Or.inl d⟩
    · by_cases e : o < m
      · exact Or.inl ⟨a, Or.inr ⟨by omega, e⟩⟩
      · exact Or.inr ⟨b, Or.inr ⟨by omega, by omega⟩⟩
/-- the open ones that are left after p turns -/
def lfo (O O' : Nat → Bool) : Nat := sm (fun o => if O o = true ∧ O' o = false then 1 else 0) 8
abbrev tInv (W : Nat → Nat) (O : Nat → Bool) (all : Nat) (r : Int64) (O' : Nat → Bool) (p : Nat) : Prop := (∀ m, O' m = true → O m = true) ∧ (∀ o x, o < 8 → O o = true → O' o = false → O' x = true → bfr W O all r o x) ∧ lfo O O' = p
/-- the first of those that are left -/
def pick (W : Nat → Nat) (all : Nat) (r : Int64) (O' : Nat → Bool) : Nat → Option Nat
  | 0 => none
  | m + 1 => if O' m = true then (match pick W all r O' m with
    | none => some m
    | some x => if rmd W all r x < rmd W all r m then some m else some x) else pick W all r O' m
theorem pick_n {O' : Nat → Bool} : ∀ n, pick W all r O' n = none → ∀ m, m < n → O' m = false := by
  intro n
  induction n with
  | zero => intro _ m h; omega
  | succ n ih =>
    intro e m hm
    rw [pick] at e
    cases ho : O' n with
    | true =>
      rw [if_pos ho] at e
      split at e
      · cases e
      · split at e <;> cases e
    | false =>
      rw [if_neg (by rw [ho]; exact Bool.false_ne_true)] at e
      by_cases z : m = n
      · rw [z]; exact ho
      · exact ih e m (by omega)
theorem pick_s {O' : Nat → Bool} (hO : ∀ m, O' m = true → O m = true) : ∀ n x, pick W all r O' n = some x → x < n ∧ O' x = true ∧ ∀ m, m < n → O' m = true → m ≠ x → bfr W O all r x m := by
  intro n
  induction n with
  | zero => intro x e; cases e
  | succ n ih =>
    intro x e
    rw [pick] at e
    cases ho : O' n with
    | false =>
      rw [if_neg (by rw [ho]; exact Bool.false_ne_true)] at e
      have i := ih x e
      refine ⟨by omega, i.2.1, fun m hm h1 h2 => ?_⟩
      by_cases z : m = n
      · rw [z, ho] at h1; cases h1
      · exact i.2.2 m (by omega) h1 h2
    | true =>
      rw [if_pos ho] at e
      cases hp : pick W all r O' n with
      | none =>
        rw [hp] at e
        cases e
        refine ⟨by omega, ho, fun m hm h1 h2 => ?_⟩
        have := pick_n n hp m (by omega)
        rw [this] at h1; cases h1
      | some y =>
        rw [hp] at e
        have i := ih y hp
        simp only [] at e
        by_cases c : rmd W all r y < rmd W all r n
        · rw [if_pos c] at e
          cases e
          refine ⟨by omega, ho, fun m hm h1 h2 => ?_⟩
          by_cases z : m = y
          · rw [z]; exact ⟨hO _ ho, Or.inl c⟩
          · exact bfr_trans (m := y) ⟨hO _ ho, Or.inl c⟩ (i.2.2 m (by omega) h1 z)
        · rw [if_neg c] at e
          cases e
          refine ⟨by omega, i.2.1, fun m hm h1 h2 => ?_⟩
          by_cases z : m = n
          · rw [z]
            refine ⟨hO _ i.2.1, ?_⟩
            rw [Int64.lt_iff_toInt_lt] at c
            rw [Int64.lt_iff_toInt_lt, ← Int64.toInt_inj]
            omega
          · exact i.2.2 m (by omega) h1 h2
theorem fnd_none {f : Nat → Bool} : ∀ k m, (∀ q, m ≤ q → q < m + k → f q = false) → fnd f k m = none := by
  intro k
  induction k with
  | zero => intro m _; rfl
  | succ k ih =>
    intro m h
    rw [fnd, if_neg (by rw [h m (by omega) (by omega)]; exact Bool.false_ne_true)]
    exact ih (m + 1) (fun q a b => h q (by omega) (by omega))
theorem fnd_uniq {f : Nat → Bool} {x : Nat} (hx : f x = true) : ∀ k m, m ≤ x → x < m + k → (∀ q, m ≤ q → q < m + k → f q = true → q = x) → fnd f k m = some x := by
  intro k
  induction k with
  | zero => intro m a b; omega
  | succ k ih =>
    intro m a b h
    rw [fnd]
    by_cases c : f m = true
    · rw [if_pos c, h m (by omega) (by omega) c]
    · rw [if_neg c]
      have : m ≠ x := fun e => c (e ▸ hx)
      exact ih (m + 1) (by omega) (by omega) (fun q a b => h q (by omega) (by omega))
theorem rem_ahd {O' : Nat → Bool} {p : Nat} (h0 : 0 < all) (h1 : all ≤ 8000000) (t : tInv W O all r O' p) (hb : ∀ m, 8 ≤ m → O m = false) {m : Nat} (hm : m < 8) (ho : O m = true) (hr : O' m = false) : ahd W O all r m < p := by
  rw [ahd_b h0 h1, ← t.2.2, lfo]
  refine sm_lt (fun i => ?_) 8 m hm ?_
  · by_cases c : bfr W O all r i m
    · rw [if_pos c]
      have i8 : i < 8 := by
        by_cases z : i < 8
        · exact z
        · have := hb i (by omega); rw [c.1] at this; cases this
      by_cases d : O' i = true
      · exact absurd (t.2.1 m i hm ho hr d) (fun z => bfr_asym c z)
      · rw [if_pos ⟨c.1, by simpa using d⟩]; exact Nat.le_refl _
    · rw [if_neg c]; exact Nat.zero_le _
  · rw [if_neg (fun z => bfr_asym z z), if_pos ⟨ho, hr⟩]; omega
theorem oat_pick {O' : Nat → Bool} {p : Nat} (h0 : 0 < all) (h1 : all ≤ 8000000) (t : tInv W O all r O' p) (hb : ∀ m, 8 ≤ m → O m = false) : oat W O all r p = pick W all r O' 8 := by
  cases hp : pick W all r O' 8 with
  | none =>
    have pn := pick_n 8 hp
    refine fnd_none 8 0 (fun q a b => ?_)
    cases ho : O q with
    | false => rfl
    | true =>
      have := rem_ahd h0 h1 t hb (m := q) (by omega) ho (pn q (by omega))
      simp only [Bool.true_and, decide_eq_false_iff_not]
      omega
  | some x =>
    have ps := pick_s t.1 8 x hp
    have ax : ahd W O all r x = p := by
      rw [ahd_b h0 h1, ← t.2.2, lfo]
      refine sm_congr 8 (fun o o8 => ?_)
      by_cases c : bfr W O all r o x
      · rw [if_pos c]
        by_cases d : O' o = true
        · by_cases e : o = x
          · rw [e] at c; exact absurd c (fun z => bfr_asym z z)
          · exact absurd (ps.2.2 o o8 d e) (fun z => bfr_asym c z)
        · rw [if_pos ⟨c.1, by simpa using d⟩]
      · rw [if_neg c, if_neg (fun z => c (t.2.1 o x o8 z.1 z.2 ps.2.1))]
    refine fnd_uniq (by simp [ax, t.1 x ps.2.1]) 8 0 (by omega) (by omega) (fun q a b hq => ?_)
    simp only [Bool.and_eq_true, decide_eq_true_eq] at hq
    cases ho : O' q with
    | false =>
      have := rem_ahd h0 h1 t hb (m := q) (by omega) hq.1 ho
      omega
    | true =>
      by_cases e : q = x
      · exact e
      · exfalso
        have bx := ps.2.2 q (by omega) ho e
        have : lfo O O' < ahd W O all r q := by
          rw [ahd_b h0 h1, lfo]
          refine sm_lt (fun i => ?_) 8 x (by omega) ?_
          · by_cases c : O i = true ∧ O' i = false
            · rw [if_pos c]
              by_cases i8 : i < 8
              · rw [if_pos (t.2.1 i q i8 c.1 c.2 ho)]; exact Nat.le_refl _
              · have := hb i (by omega); rw [c.1] at this; cases this
            · rw [if_neg c]; exact Nat.zero_le _
          · rw [if_neg (fun z => by rw [ps.2.1] at z; cases z.2), if_pos bx]; omega
        rw [t.2.2] at this
        omega
theorem sm_one {f f' : Nat → Nat} {x : Nat} (hx : f' x = f x + 1) (h : ∀ i, i ≠ x → f' i = f i) : ∀ n, sm f' n = sm f n + if x < n then 1 else 0 := by
  intro n
  induction n with
  | zero => rfl
  | succ n ih =>
    rw [sm, sm, ih]
    by_cases e : n = x
    · subst e; rw [hx, if_neg (by omega), if_pos (by omega)]; omega
    · rw [h n e]
      by_cases c : x < n
      · rw [if_pos c, if_pos (by omega)]; omega
      · rw [if_neg c, if_neg (by omega)]; omega
theorem tInv_s {O' : Nat → Bool} {p x : Nat} (t : tInv W O all r O' p) (hb : ∀ m, 8 ≤ m → O m = false) (hp : pick W all r O' 8 = some x) : tInv W O all r (va_up O' x false) (p + 1) := by
  have ps := pick_s t.1 8 x hp
  refine ⟨fun m hm => ?_, fun o y o8 ho hr hy => ?_, ?_⟩
  · rw [va_up] at hm
    by_cases c : m = x
    · rw [if_pos c] at hm; cases hm
    · rw [if_neg c] at hm; exact t.1 m hm
  · rw [va_up] at hr hy
    by_cases c : y = x
    · rw [if_pos c] at hy; cases hy
    · rw [if_neg c] at hy
      have y8 : y < 8 := by
        by_cases z : y < 8
        · exact z
        · have := hb y (by omega); rw [t.1 y hy] at this; cases this
      by_cases d : o = x
      · rw [d]; exact ps.2.2 y y8 hy c
      · rw [if_neg d] at hr; exact t.2.1 o y o8 ho hr hy
  · rw [← t.2.2, lfo, lfo, sm_one (f := fun o => if O o = true ∧ O' o = false then 1 else 0) (x := x), if_pos ps.1]
    · rw [va_up, if_pos rfl, if_pos ⟨t.1 x ps.2.1, rfl⟩, if_neg (fun z => by rw [ps.2.1] at z; cases z.2)]
    · intro i hi; rw [va_up, if_neg hi]
theorem gv_stop {lim : Int64} : ∀ f p s, (¬ Int64.ofNat 0 < s.2 ∨ ∀ q, p ≤ q → oat W O all r q = none) → gv W lim O all r f p s = s := by
  intro f
  induction f with
  | zero => intro p s _; rfl
  | succ f ih =>
    intro p s h
    have e : gv1 lim (oat W O all r p) s = s := by
      rcases h with h | h
      · unfold gv1
        split
        · rfl
        · rw [if_neg (fun z => h z.1)]
      · rw [h p (Nat.le_refl _)]; rfl
    rw [gv, e]
    exact ih (p + 1) s (h.imp id (fun z q hq => z q (by omega)))
end
