/-! THE CLASS, 17: reads numbers of statements -/
set_option maxHeartbeats 2000000
set_option maxRecDepth 100000
abbrev NR : Type := ER ⊕ (TK × Nat × Nat)
def rd1 (b : Nat → Nat) (n lo hi : Nat) (t : TK) : NR := if t.1 ≠ 2 then .inl (1, t.2.1) else if lo ≤ t.2.2.2 ∧ t.2.2.2 < hi then .inr (nxt b n t, t.2.2.2, 0) else .inl (3, t.2.1)
def rd2 (b : Nat → Nat) (n lo hi lo' hi' : Nat) (t : TK) : NR := match rd1 b n lo hi t with
  | .inl e => .inl e
  | .inr q => match rd1 b n lo' hi' q.1 with
    | .inl e => .inl e
    | .inr q' => .inr (q'.1, q.2.1, q'.2.1)
def rdN (b : Nat → Nat) (n : Nat) (D : DR) (i : Nat) (t : TK) : NR :=
  if i = 0 then rd1 b n 0 10000 t else if i = 1 then rd2 b n 0 10000 1 10000 t else if i = 2 then rd2 b n 0 (D.1 0) 1 10000 t else if i = 3 then rd1 b n 0 101 t else if i = 4 then rd2 b n 1 6 1 101 t else if i = 5 then rd1 b n 1 101 t else if i = 6 then rd1 b n 0 51 t else if i = 7 then rd1 b n 0 41 t else if i = 8 then rd2 b n 0 10000 0 101 t else if i = 9 then rd2 b n 0 10000 0 101 t else rd1 b n 0 401 t
def tw (i : Nat) : Bool := decide (i = 1 ∨ i = 2 ∨ i = 4 ∨ i = 8 ∨ i = 9)
def adm (D : DR) (i : Nat) : Nat := if i = 0 then (if D.1 0 < 8 then 0 else 4) else if i = 1 then (if D.1 1 < 4 then 0 else 4) else if i = 2 then (if D.1 2 < 16 then 0 else 4) else if i = 3 then (if D.1 3 < 6 then 0 else 4) else if D.2.2.2.2.2.2 (i - 4) = true then 2 else 0
def stw (b : Nat → Nat) (t : TK) : Option Nat := if isw b t 0 then some 0 else if isw b t 1 then some 1 else if isw b t 2 then some 2 else if isw b t 3 then some 3 else if isw b t 4 then some 4 else if isw b t 5 then some 5 else if isw b t 6 then some 6 else if isw b t 7 then some 7 else if isw b t 8 then some 8 else if isw b t 9 then some 9 else if isw b t 10 then some 10 else if isw b t 11 then some 11 else none
def uDr (D : DR) (i v u : Nat) : DR :=
  if i = 0 then (va_up D.1 0 (D.1 0 + 1), va_up D.2.1 (D.1 0) v, D.2.2)
  else if i = 1 then (va_up D.1 1 (D.1 1 + 1), D.2.1, va_up (va_up D.2.2.1 (2 * D.1 1) v) (2 * D.1 1 + 1) u, D.2.2.2)
  else if i = 2 then (va_up D.1 2 (D.1 2 + 1), D.2.1, D.2.2.1, va_up (va_up D.2.2.2.1 (2 * D.1 2) v) (2 * D.1 2 + 1) u, D.2.2.2.2)
  else if i = 3 then (va_up D.1 3 (D.1 3 + 1), D.2.1, D.2.2.1, D.2.2.2.1, va_up D.2.2.2.2.1 (D.1 3) v, D.2.2.2.2.2)
  else (if i = 4 then va_up (va_up D.1 4 v) 5 u else if i = 5 then va_up D.1 6 v else if i = 6 then va_up D.1 7 v else if i = 7 then va_up D.1 8 v else if i = 8 then va_up (va_up D.1 9 v) 10 u else if i = 9 then va_up (va_up D.1 11 v) 12 u else va_up D.1 13 v, D.2.1, D.2.2.1, D.2.2.2.1, D.2.2.2.2.1, D.2.2.2.2.2.1, va_up D.2.2.2.2.2.2 (i - 4) true)
def updW (D : DR) (c : List Nat) : DR := (D.1, D.2.1, D.2.2.1, D.2.2.2.1, D.2.2.2.2.1, c, va_up D.2.2.2.2.2.2 7 true)
def fin1 (b : Nat → Nat) (n : Nat) (t : TK) (D : DR) : SR := if sgP t 59 then .inr (nxt b n t, D) else .inl (1, t.2.1)
def stc' (b : Nat → Nat) (n : Nat) (t : TK) (D : DR) : SR := match stw b t with
  | none => .inl (1, t.2.1)
  | some i => if adm D i = 0 then (if i = 11 then (match sumN b n 5 (nxt b n t) [] with
    | .inl e => .inl e
    | .inr q => fin1 b n q.1 (updW D q.2)) else (match rdN b n D i (nxt b n t) with
    | .inl e => .inl e
    | .inr q => fin1 b n q.1 (uDr D i q.2.1 q.2.2))) else .inl (adm D i, t.2.1)
def aft (b : Nat → Nat) (n : Nat) (r : SR) : SR := match r with
  | .inl e => .inl e
  | .inr q => fin1 b n q.1 q.2
theorem aft_one {b : Nat → Nat} {n lo hi : Nat} {t : TK} {k : Nat → DR} : aft b n (one b n lo hi t (fun v t' => .inr (t', k v))) = (match rd1 b n lo hi t with
    | .inl e => .inl e
    | .inr q => fin1 b n q.1 (k q.2.1)) := by
  unfold one rd1
  by_cases c : t.1 ≠ 2
  · rw [if_pos c, if_pos c]; rfl
  · rw [if_neg c, if_neg c]
    by_cases d : lo ≤ t.2.2.2 ∧ t.2.2.2 < hi
    · rw [if_pos d, if_pos d]; rfl
    · rw [if_neg d, if_neg d]; rfl
theorem aft_two {b : Nat → Nat} {n lo hi lo' hi' : Nat} {t : TK} {k : Nat → Nat → DR} : aft b n (two b n lo hi lo' hi' t (fun v u t' => .inr (t', k v u))) = (match rd2 b n lo hi lo' hi' t with
    | .inl e => .inl e
    | .inr q => fin1 b n q.1 (k q.2.1 q.2.2)) := by
  unfold two rd2
  rw [one, rd1]
  by_cases c : t.1 ≠ 2
  · rw [if_pos c, if_pos c]; rfl
  · rw [if_neg c, if_neg c]
    by_cases d : lo ≤ t.2.2.2 ∧ t.2.2.2 < hi
    · rw [if_pos d, if_pos d]
      simp only []
      rw [one, rd1]
      by_cases c : (nxt b n t).1 ≠ 2
      · rw [if_pos c, if_pos c]; rfl
      · rw [if_neg c, if_neg c]
        by_cases d : lo' ≤ (nxt b n t).2.2.2 ∧ (nxt b n t).2.2.2 < hi'
        · rw [if_pos d, if_pos d]; rfl
        · rw [if_neg d, if_neg d]; rfl
    · rw [if_neg d, if_neg d]; rfl
theorem stc_eq (b : Nat → Nat) (n : Nat) (t : TK) (D : DR) : stc b n t D = stc' b n t D := by
  have h : stc b n t D = aft b n (stm b n t D) := by
    unfold stc aft
    cases stm b n t D with
    | inl e => rfl
    | inr q => rfl
  rw [h]
  unfold stm stc' stw
  by_cases w0 : isw b t 0 = true
  · simp only [if_pos w0]
    by_cases c : D.1 0 < 8
    · rw [if_pos c, aft_one]
      simp only [adm, ↓reduceIte, if_pos c, Nat.reduceEqDiff, rdN, uDr]
    · rw [if_neg c]
      simp only [adm, ↓reduceIte, if_neg c, Nat.reduceEqDiff]; rfl
  simp only [if_neg w0]
  by_cases w1 : isw b t 1 = true
  · simp only [if_pos w1]
    by_cases c : D.1 1 < 4
    · rw [if_pos c, aft_two]
      simp only [adm, ↓reduceIte, if_pos c, Nat.reduceEqDiff, rdN, uDr]
    · rw [if_neg c]
      simp only [adm, ↓reduceIte, if_neg c, Nat.reduceEqDiff]; rfl
  simp only [if_neg w1]
  by_cases w2 : isw b t 2 = true
  · simp only [if_pos w2]
    by_cases c : D.1 2 < 16
    · rw [if_pos c, aft_two]
      simp only [adm, ↓reduceIte, if_pos c, Nat.reduceEqDiff, rdN, uDr]
    · rw [if_neg c]
      simp only [adm, ↓reduceIte, if_neg c, Nat.reduceEqDiff]; rfl
  simp only [if_neg w2]
  by_cases w3 : isw b t 3 = true
  · simp only [if_pos w3]
    by_cases c : D.1 3 < 6
    · rw [if_pos c, aft_one]
      simp only [adm, ↓reduceIte, if_pos c, Nat.reduceEqDiff, rdN, uDr]
    · rw [if_neg c]
      simp only [adm, ↓reduceIte, if_neg c, Nat.reduceEqDiff]; rfl
  simp only [if_neg w3]
  have S1 : ∀ i j x lo hi, adm D j = (if D.2.2.2.2.2.2 i = true then 2 else 0) → (∀ t, rdN b n D j t = rd1 b n lo hi t) → (∀ v u, uDr D j v u = (va_up D.1 x v, D.2.1, D.2.2.1, D.2.2.2.1, D.2.2.2.2.1, D.2.2.2.2.2.1, va_up D.2.2.2.2.2.2 i true)) → aft b n (oneS b n i x lo hi t D) = if adm D j = 0 then (match rdN b n D j (nxt b n t) with
    | .inl e => .inl e
    | .inr q => fin1 b n q.1 (uDr D j q.2.1 q.2.2)) else .inl (adm D j, t.2.1) := by
    intro i j x lo hi a1 a2 a3
    rw [a1, a2, oneS]
    simp only [a3]
    by_cases c : D.2.2.2.2.2.2 i = true
    · rw [if_pos c, if_pos c, if_neg (by omega)]; rfl
    · rw [if_neg c, if_neg c, if_pos rfl, aft_one]
  have S2 : ∀ i j x lo hi lo' hi', adm D j = (if D.2.2.2.2.2.2 i = true then 2 else 0) → (∀ t, rdN b n D j t = rd2 b n lo hi lo' hi' t) → (∀ v u, uDr D j v u = (va_up (va_up D.1 x v) (x + 1) u, D.2.1, D.2.2.1, D.2.2.2.1, D.2.2.2.2.1, D.2.2.2.2.2.1, va_up D.2.2.2.2.2.2 i true)) → aft b n (twoS b n i x lo hi lo' hi' t D) = if adm D j = 0 then (match rdN b n D j (nxt b n t) with
    | .inl e => .inl e
    | .inr q => fin1 b n q.1 (uDr D j q.2.1 q.2.2)) else .inl (adm D j, t.2.1) := by
    intro i j x lo hi lo' hi' a1 a2 a3
    rw [a1, a2, twoS]
    simp only [a3]
    by_cases c : D.2.2.2.2.2.2 i = true
    · rw [if_pos c, if_pos c, if_neg (by omega)]; rfl
    · rw [if_neg c, if_neg c, if_pos rfl, aft_two]
  by_cases w4 : isw b t 4 = true
  · simp only [if_pos w4, Nat.reduceEqDiff, ↓reduceIte]
    exact S2 0 4 4 1 6 1 101 rfl (fun _ => rfl) (fun _ _ => rfl)
  simp only [if_neg w4]
  by_cases w5 : isw b t 5 = true
  · simp only [if_pos w5, Nat.reduceEqDiff, ↓reduceIte]
    exact S1 1 5 6 1 101 rfl (fun _ => rfl) (fun _ _ => rfl)
  simp only [if_neg w5]
  by_cases w6 : isw b t 6 = true
  · simp only [if_pos w6, Nat.reduceEqDiff, ↓reduceIte]
    exact S1 2 6 7 0 51 rfl (fun _ => rfl) (fun _ _ => rfl)
  simp only [if_neg w6]
  by_cases w7 : isw b t 7 = true
  · simp only [if_pos w7, Nat.reduceEqDiff, ↓reduceIte]
    exact S1 3 7 8 0 41 rfl (fun _ => rfl) (fun _ _ => rfl)
  simp only [if_neg w7]
  by_cases w8 : isw b t 8 = true
  · simp only [if_pos w8, Nat.reduceEqDiff, ↓reduceIte]
    exact S2 4 8 9 0 10000 0 101 rfl (fun _ => rfl) (fun _ _ => rfl)
  simp only [if_neg w8]
  by_cases w9 : isw b t 9 = true
  · simp only [if_pos w9, Nat.reduceEqDiff, ↓reduceIte]
    exact S2 5 9 11 0 10000 0 101 rfl (fun _ => rfl) (fun _ _ => rfl)
  simp only [if_neg w9]
  by_cases w10 : isw b t 10 = true
  · simp only [if_pos w10, Nat.reduceEqDiff, ↓reduceIte]
    exact S1 6 10 13 0 401 rfl (fun _ => rfl) (fun _ _ => rfl)
  simp only [if_neg w10]
  by_cases w11 : isw b t 11 = true
  · simp only [if_pos w11, Nat.reduceEqDiff, ↓reduceIte]
    have a1 : adm D 11 = (if D.2.2.2.2.2.2 7 = true then 2 else 0) := rfl
    rw [a1, wgh]
    by_cases c : D.2.2.2.2.2.2 7 = true
    · rw [if_pos c, if_pos c, if_neg (by omega)]; rfl
    · rw [if_neg c, if_neg c, if_pos rfl]
      cases sumN b n 5 (nxt b n t) [] with
      | inl e => rfl
      | inr q => rfl
  simp only [if_neg w11]
  rfl
