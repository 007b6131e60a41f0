/-! A POOL TEXT AS NUMBERS -/
set_option maxHeartbeats 1000000
set_option maxRecDepth 1000000
def cod (B : Nat → Int8) (i : Nat) : Nat := (B i).toUInt8.toNat
theorem cod_lt (B : Nat → Int8) (i : Nat) : cod B i < 256 := UInt8.toNat_lt (B i).toUInt8
def sgn8 (c : Nat) : Int32 := (Int8.ofNat c).toInt32
theorem cod_sgn (B : Nat → Int8) (i : Nat) : (B i).toInt32 = sgn8 (cod B i) := by
  unfold sgn8 cod
  congr 1
  have : Int8.ofNat (B i).toUInt8.toNat = (UInt8.ofNat (B i).toUInt8.toNat).toInt8 := rfl
  rw [this, UInt8.ofNat_toNat]
  rfl
theorem sgn_tab : ∀ c, c < 256 → sgn8 c = (if c < 128 then Int32.ofNat c else Int32.ofInt ((c : Int) - 256)) ∧ sgn8 c &&& Int32.ofNat 255 = Int32.ofNat c := by decide
theorem sgn_int (c : Nat) (h : c < 256) : (sgn8 c).toInt = if c < 128 then (c : Int) else (c : Int) - 256 := by
  rw [(sgn_tab c h).1]
  split
  · rw [n_i.2.2.2 _ (by omega)]
  · rw [n_i.2.2.1 _ (by omega) (by omega)]
theorem sgn_le (c k : Nat) (h : c < 256) (hk : k < 128) : (Int32.ofNat k ≤ sgn8 c) = (k ≤ c ∧ c < 128) ∧ (sgn8 c ≤ Int32.ofNat k) = (c ≤ k ∨ 128 ≤ c) ∧ (sgn8 c < Int32.ofNat k) = (c < k ∨ 128 ≤ c) ∧ (Int32.ofNat k < sgn8 c) = (k < c ∧ c < 128) ∧ (sgn8 c = Int32.ofNat k) = (c = k) := by
  have e := sgn_int c h
  have f : (Int32.ofNat k).toInt = (k : Int) := n_i.2.2.2 _ (by omega)
  refine ⟨?_, ?_, ?_, ?_, ?_⟩
  · rw [Int32.le_iff_toInt_le, e, f]
    apply propext
    split <;> constructor <;> intro _ <;> omega
  · rw [Int32.le_iff_toInt_le, e, f]
    apply propext
    split <;> constructor <;> intro _ <;> omega
  · rw [Int32.lt_iff_toInt_lt, e, f]
    apply propext
    split <;> constructor <;> intro _ <;> omega
  · rw [Int32.lt_iff_toInt_lt, e, f]
    apply propext
    split <;> constructor <;> intro _ <;> omega
  · rw [← Int32.toInt_inj, e, f]
    apply propext
    split <;> constructor <;> intro _ <;> omega
/-- a token: its kind (0 the end, 1 a word, 2 a number, 3 a sign, 4 else), its place, the place behind it, its value -/
abbrev TK : Type := Nat × Nat × Nat × Nat
def skp (b : Nat → Nat) (n : Nat) : Nat → Nat → Nat
  | 0, p => p
  | f + 1, p => if p < n ∧ (b p = 32 ∨ b p = 10) then skp b n f (p + 1) else p
def rnn (lo hi : Nat) (b : Nat → Nat) (n : Nat) : Nat → Nat → Nat
  | 0, p => p
  | f + 1, p => if p < n ∧ lo ≤ b p ∧ b p ≤ hi then rnn lo hi b n f (p + 1) else p
def num (b : Nat → Nat) (s : Nat) : Nat → Nat
  | 0 => 0
  | k + 1 => 10 * num b s k + (b (s + k) - 48)
abbrev sgc (c : Nat) : Prop := c = 59 ∨ c = 40 ∨ c = 41 ∨ c = 43 ∨ c = 45 ∨ c = 42 ∨ c = 47
def tokA (b : Nat → Nat) (n s : Nat) : TK :=
  if n ≤ s then (0, s, s, 0)
  else if 97 ≤ b s ∧ b s ≤ 122 then (if rnn 97 122 b n (n - s) s - s ≤ 8 then 1 else 4, s, rnn 97 122 b n (n - s) s, 0)
  else if 48 ≤ b s ∧ b s ≤ 57 then (if rnn 48 57 b n (n - s) s - s ≤ 4 then 2 else 4, s, rnn 48 57 b n (n - s) s, if rnn 48 57 b n (n - s) s - s ≤ 4 then num b s (rnn 48 57 b n (n - s) s - s) else 0)
  else (if sgc (b s) then 3 else 4, s, s + 1, b s)
def tok (b : Nat → Nat) (n p : Nat) : TK := tokA b n (skp b n (n - p) p)
section
variable {b : Nat → Nat} {n : Nat}
theorem skp_b : ∀ f p, p ≤ skp b n f p ∧ (p ≤ n → skp b n f p ≤ n) := by
  intro f
  induction f with
  | zero => intro p; exact ⟨Nat.le_refl _, fun h => h⟩
  | succ f ih =>
    intro p
    rw [skp]
    split
    · have := ih (p + 1)
      exact ⟨by omega, fun _ => this.2 (by omega)⟩
    · exact ⟨Nat.le_refl _, fun h => h⟩
theorem rnn_b {lo hi : Nat} : ∀ f p, p ≤ rnn lo hi b n f p ∧ (p ≤ n → rnn lo hi b n f p ≤ n) ∧ ∀ i, p ≤ i → i < rnn lo hi b n f p → lo ≤ b i ∧ b i ≤ hi := by
  intro f
  induction f with
  | zero => intro p; exact ⟨Nat.le_refl _, fun h => h, fun i h1 h2 => absurd h2 (by rw [rnn]; omega)⟩
  | succ f ih =>
    intro p
    rw [rnn]
    split
    · have := ih (p + 1)
      refine ⟨by omega, fun _ => this.2.1 (by omega), fun i h1 h2 => ?_⟩
      by_cases e : i = p
      · subst e; omega
      · exact this.2.2 i (by omega) h2
    · exact ⟨Nat.le_refl _, fun h => h, fun i h1 h2 => absurd h2 (by omega)⟩
theorem rnn_pos {lo hi f p : Nat} (hf : 0 < f) (hp : p < n) (h : lo ≤ b p ∧ b p ≤ hi) : p < rnn lo hi b n f p := by
  cases f with
  | zero => omega
  | succ f =>
    rw [rnn, if_pos ⟨hp, h⟩]
    have := (rnn_b (b := b) (n := n) (lo := lo) (hi := hi) f (p + 1)).1
    omega
theorem num_lt {s : Nat} : ∀ k, (∀ i, s ≤ i → i < s + k → 48 ≤ b i ∧ b i ≤ 57) → num b s k < 10 ^ k := by
  intro k
  induction k with
  | zero => intro _; exact Nat.one_pos
  | succ k ih =>
    intro h
    have h1 := ih (fun i a c => h i a (by omega))
    have h2 := h (s + k) (by omega) (by omega)
    rw [num, Nat.pow_succ]
    omega
/-- what is right of a token -/
theorem tokA_b {s : Nat} (hs : s ≤ n) : (tokA b n s).2.1 = s ∧ s ≤ (tokA b n s).2.2.1 ∧ (tokA b n s).2.2.1 ≤ n ∧ ((tokA b n s).1 ≠ 0 → s < (tokA b n s).2.2.1 ∧ s < n) ∧ ((tokA b n s).1 = 0 → s = n) ∧ (tokA b n s).1 ≤ 4 ∧ ((tokA b n s).1 = 2 → (tokA b n s).2.2.2 < 10000) ∧ ((tokA b n s).1 = 3 → sgc (tokA b n s).2.2.2) := by
  unfold tokA
  split
  · exact ⟨rfl, Nat.le_refl _, by show s ≤ n; omega, fun h => absurd rfl h, fun _ => by omega, by show 0 ≤ 4; omega, fun h => absurd (show (0 : Nat) = 2 from h) (by omega), fun h => absurd (show (0 : Nat) = 3 from h) (by omega)⟩
  · split
    · rename_i h1 h2
      have a := rnn_b (b := b) (n := n) (lo := 97) (hi := 122) (n - s) s
      have c := rnn_pos (b := b) (n := n) (lo := 97) (hi := 122) (f := n - s) (p := s) (by omega) (by omega) h2
      refine ⟨rfl, a.1, a.2.1 hs, fun _ => ⟨c, by omega⟩, fun z => ?_, ?_, fun z => ?_, fun z => ?_⟩
      · exfalso; revert z; dsimp only; split <;> omega
      · dsimp only; split <;> omega
      · exfalso; revert z; dsimp only; split <;> omega
      · exfalso; revert z; dsimp only; split <;> omega
    · split
      · rename_i h1 h2 h3
        have a := rnn_b (b := b) (n := n) (lo := 48) (hi := 57) (n - s) s
        have c := rnn_pos (b := b) (n := n) (lo := 48) (hi := 57) (f := n - s) (p := s) (by omega) (by omega) h3
        refine ⟨rfl, a.1, a.2.1 hs, fun _ => ⟨c, by omega⟩, fun z => ?_, ?_, fun z => ?_, fun z => ?_⟩
        · exfalso; revert z; dsimp only; split <;> omega
        · dsimp only; split <;> omega
        · dsimp only
          split
          · rename_i h4
            have := num_lt (b := b) (s := s) (rnn 48 57 b n (n - s) s - s) (fun i i1 i2 => a.2.2 i i1 (by omega))
            exact Nat.lt_of_lt_of_le this (Nat.pow_le_pow_right (by omega) h4)
          · omega
        · exfalso; revert z; dsimp only; split <;> omega
      · rename_i h1 h2 h3
        refine ⟨rfl, by show s ≤ s + 1; omega, by show s + 1 ≤ n; omega, fun _ => ⟨by show s < s + 1; omega, by omega⟩, fun z => ?_, ?_, fun z => ?_, fun z => ?_⟩
        · exfalso; revert z; dsimp only; split <;> omega
        · dsimp only; split <;> omega
        · exfalso; revert z; dsimp only; split <;> omega
        · revert z; dsimp only; split
          · intro _; assumption
          · intro z; omega
end
/-- a token of the text -/
def tkok (b : Nat → Nat) (n : Nat) (t : TK) : Prop := ∃ p, p ≤ n ∧ t = tokA b n p
theorem tok_ok {b : Nat → Nat} {n p : Nat} (hp : p ≤ n) : tkok b n (tok b n p) ∧ p ≤ (tok b n p).2.1 := by
  have h := skp_b (b := b) (n := n) (n - p) p
  exact ⟨⟨_, h.2 hp, rfl⟩, by rw [tok, (tokA_b (h.2 hp)).1]; exact h.1⟩
theorem tk_b {b : Nat → Nat} {n : Nat} {t : TK} (h : tkok b n t) : t.2.1 ≤ t.2.2.1 ∧ t.2.2.1 ≤ n ∧ (t.1 ≠ 0 → t.2.1 < t.2.2.1 ∧ t.2.1 < n) ∧ (t.1 = 0 → t.2.1 = n) ∧ t.1 ≤ 4 ∧ (t.1 = 2 → t.2.2.2 < 10000) ∧ (t.1 = 3 → sgc t.2.2.2) := by
  obtain ⟨p, hp, rfl⟩ := h
  have a := tokA_b (b := b) hp
  rw [a.1]
  exact a.2
/-- the token behind -/
def nxt (b : Nat → Nat) (n : Nat) (t : TK) : TK := tok b n t.2.2.1
theorem nxt_ok {b : Nat → Nat} {n : Nat} {t : TK} (h : tkok b n t) : tkok b n (nxt b n t) ∧ t.2.2.1 ≤ (nxt b n t).2.1 := tok_ok (tk_b h).2.1
def mtc (b : Nat → Nat) : Nat → List Nat → Bool
  | _, [] => true
  | s, c :: l => b s == c && mtc b (s + 1) l
def isw (b : Nat → Nat) (t : TK) (i : Nat) : Bool := t.1 == 1 && (t.2.2.1 - t.2.1 == (wtx.getD i []).length && mtc b t.2.1 (wtx.getD i []))
theorem isw_1 {b : Nat → Nat} {t : TK} {i : Nat} (h : isw b t i = true) : t.1 = 1 := by
  simp only [isw, Bool.and_eq_true, beq_iff_eq] at h
  exact h.1
abbrev sgP (t : TK) (c : Nat) : Prop := t.1 = 3 ∧ t.2.2.2 = c
/-! the formula -/
abbrev ER : Type := Nat × Nat
abbrev PR : Type := ER ⊕ (TK × List Nat)
def fac (b : Nat → Nat) (n : Nat) (op : Option (TK → List Nat → PR)) (t : TK) (c : List Nat) : PR :=
  if sgP t 40 then (match op with
    | none => .inl (4, t.2.1)
    | some s => match s (nxt b n t) c with
      | .inl e => .inl e
      | .inr (t', c') => if sgP t' 41 then .inr (nxt b n t', c') else .inl (1, t'.2.1))
  else if t.1 = 2 then .inr (nxt b n t, c ++ [100 + t.2.2.2])
  else if isw b t 12 then .inr (nxt b n t, c ++ [1])
  else if isw b t 13 then .inr (nxt b n t, c ++ [2])
  else if isw b t 14 then .inr (nxt b n t, c ++ [3])
  else .inl (1, t.2.1)
/-- what is joined by two signs -/
def lop (b : Nat → Nat) (n x y kx ky : Nat) (F : TK → List Nat → PR) : Nat → TK → List Nat → PR
  | 0, t, c => .inr (t, c)
  | f + 1, t, c => if sgP t x ∨ sgP t y then (match F (nxt b n t) c with
    | .inl e => .inl e
    | .inr (t', c') => lop b n x y kx ky F f t' (c' ++ [if t.2.2.2 = x then kx else ky])) else .inr (t, c)
def jnd (b : Nat → Nat) (n x y kx ky : Nat) (F : TK → List Nat → PR) (t : TK) (c : List Nat) : PR := match F t c with
  | .inl e => .inl e
  | .inr (t', c') => lop b n x y kx ky F 700 t' c'
def trm (b : Nat → Nat) (n : Nat) (op : Option (TK → List Nat → PR)) : TK → List Nat → PR := jnd b n 42 47 6 7 (fac b n op)
def sumO (b : Nat → Nat) (n : Nat) (op : Option (TK → List Nat → PR)) : TK → List Nat → PR := jnd b n 43 45 4 5 (trm b n op)
def opN (b : Nat → Nat) (n : Nat) : Nat → Option (TK → List Nat → PR)
  | 0 => none
  | r + 1 => some (sumO b n (opN b n r))
def sumN (b : Nat → Nat) (n r : Nat) : TK → List Nat → PR := sumO b n (opN b n r)
/-! statements. A draft: told numbers, members, versions, patents, discounts, formula, what was seen -/
abbrev DR : Type := (Nat → Nat) × (Nat → Nat) × (Nat → Nat) × (Nat → Nat) × (Nat → Nat) × List Nat × (Nat → Bool)
abbrev SR : Type := ER ⊕ (TK × DR)
def one (b : Nat → Nat) (n lo hi : Nat) (t : TK) (k : Nat → TK → SR) : SR := if t.1 ≠ 2 then .inl (1, t.2.1) else if lo ≤ t.2.2.2 ∧ t.2.2.2 < hi then k t.2.2.2 (nxt b n t) else .inl (3, t.2.1)
def two (b : Nat → Nat) (n lo hi lo' hi' : Nat) (t : TK) (k : Nat → Nat → TK → SR) : SR := one b n lo hi t (fun v t' => one b n lo' hi' t' (fun u t'' => k v u t''))
def oneS (b : Nat → Nat) (n i x lo hi : Nat) (t : TK) (D : DR) : SR := if D.2.2.2.2.2.2 i then .inl (2, t.2.1) else one b n lo hi (nxt b n t) (fun v t' => .inr (t', va_up D.1 x v, D.2.1, D.2.2.1, D.2.2.2.1, D.2.2.2.2.1, D.2.2.2.2.2.1, va_up D.2.2.2.2.2.2 i true))
def twoS (b : Nat → Nat) (n i x lo hi lo' hi' : Nat) (t : TK) (D : DR) : SR := if D.2.2.2.2.2.2 i then .inl (2, t.2.1) else two b n lo hi lo' hi' (nxt b n t) (fun v u t' => .inr (t', va_up (va_up D.1 x v) (x + 1) u, D.2.1, D.2.2.1, D.2.2.2.1, D.2.2.2.2.1, D.2.2.2.2.2.1, va_up D.2.2.2.2.2.2 i true))
def wgh (b : Nat → Nat) (n : Nat) (t : TK) (D : DR) : SR := if D.2.2.2.2.2.2 7 then .inl (2, t.2.1) else match sumN b n 5 (nxt b n t) [] with
  | .inl e => .inl e
  | .inr (t', c) => .inr (t', D.1, D.2.1, D.2.2.1, D.2.2.2.1, D.2.2.2.2.1, c, va_up D.2.2.2.2.2.2 7 true)
def stm (b : Nat → Nat) (n : Nat) (t : TK) (D : DR) : SR :=
  if isw b t 0 then (if D.1 0 < 8 then one b n 0 10000 (nxt b n t) (fun v t' => .inr (t', va_up D.1 0 (D.1 0 + 1), va_up D.2.1 (D.1 0) v, D.2.2)) else .inl (4, t.2.1))
  else if isw b t 1 then (if D.1 1 < 4 then two b n 0 10000 1 10000 (nxt b n t) (fun v u t' => .inr (t', va_up D.1 1 (D.1 1 + 1), D.2.1, va_up (va_up D.2.2.1 (2 * D.1 1) v) (2 * D.1 1 + 1) u, D.2.2.2)) else .inl (4, t.2.1))
  else if isw b t 2 then (if D.1 2 < 16 then two b n 0 (D.1 0) 1 10000 (nxt b n t) (fun v u t' => .inr (t', va_up D.1 2 (D.1 2 + 1), D.2.1, D.2.2.1, va_up (va_up D.2.2.2.1 (2 * D.1 2) v) (2 * D.1 2 + 1) u, D.2.2.2.2)) else .inl (4, t.2.1))
  else if isw b t 3 then (if D.1 3 < 6 then one b n 0 101 (nxt b n t) (fun v t' => .inr (t', va_up D.1 3 (D.1 3 + 1), D.2.1, D.2.2.1, D.2.2.2.1, va_up D.2.2.2.2.1 (D.1 3) v, D.2.2.2.2.2)) else .inl (4, t.2.1))
  else if isw b t 4 then twoS b n 0 4 1 6 1 101 t D
  else if isw b t 5 then oneS b n 1 6 1 101 t D
  else if isw b t 6 then oneS b n 2 7 0 51 t D
  else if isw b t 7 then oneS b n 3 8 0 41 t D
  else if isw b t 8 then twoS b n 4 9 0 10000 0 101 t D
  else if isw b t 9 then twoS b n 5 11 0 10000 0 101 t D
  else if isw b t 10 then oneS b n 6 13 0 401 t D
  else if isw b t 11 then wgh b n t D
  else .inl (1, t.2.1)
def stc (b : Nat → Nat) (n : Nat) (t : TK) (D : DR) : SR := match stm b n t D with
  | .inl e => .inl e
  | .inr (t', D') => if sgP t' 59 then .inr (nxt b n t', D') else .inl (1, t'.2.1)
def lps (b : Nat → Nat) (n : Nat) : Nat → TK → DR → SR
  | 0, t, D => .inr (t, D)
  | f + 1, t, D => if t.1 = 0 then .inr (t, D) else match stc b n t D with
    | .inl e => .inl e
    | .inr (t', D') => lps b n f t' D'
def t00 (i : Nat) : Nat := if i = 4 then 3 else if i = 5 then 50 else if i = 6 then 100 else if i = 7 then 10 else if i = 8 then 5 else if i = 10 then 100 else if i = 11 then 1000 else if i = 12 then 20 else if i = 13 then 50 else 0
def D00 : DR := (t00, fun _ => 0, fun _ => 0, fun _ => 0, fun _ => 0, [1], fun _ => false)
def txt (b : Nat → Nat) (n : Nat) : ER ⊕ DR := match lps b n 700 (tok b n 0) D00 with
  | .inl e => .inl e
  | .inr (_, D) => .inr D
def dT (D : DR) : TM := (D.1, D.2.2.1, D.2.2.2.2.1, D.2.2.2.2.2.1)
def dG (D : DR) : LG := (fun i => if i = 7 then D.1 0 else if i = 8 then D.1 2 else if 9 ≤ i ∧ i < 9 + D.1 0 then D.2.1 (i - 9) else if 17 ≤ i ∧ i < 17 + D.1 2 then D.2.2.2.1 (2 * (i - 17)) else if 33 ≤ i ∧ i < 33 + D.1 2 then D.2.2.2.1 (2 * (i - 33) + 1) else 0, fun _ => Int64.ofNat 0)
def o_parse (A : AS) (p : Int32) : Nat × Int32 × AS := match idx p (aN A + 1) with
  | none => (1, 0, A)
  | some n => match txt (cod (aB A)) n with
    | .inl e => (0, Int32.ofNat e.1, (aB A, 0, Int32.ofNat e.2, aT A, aG A, aU A, aS A))
    | .inr D => (0, 0, (aB A, 0, -1, dT D, dG D, (0, (aU A).2), fun _ => none))
