/-! THE POOL AS NUMBERS. A ledger: small numbers and longs in the model's order of 229; terms: the 14 told numbers, versions, discounts, the formula (100 + n a number; 1, 2, 3 the facts; 4 to 7 the operators); the pool: bytes, their number, the error's place, terms, ledger, what undo has (the newest first), slots. -/
abbrev LG : Type := (Nat → Nat) × (Nat → Int64)
abbrev TM : Type := (Nat → Nat) × (Nat → Nat) × (Nat → Nat) × List Nat
abbrev AS : Type := (Nat → Int8) × Nat × Int32 × TM × LG × (Nat × (Nat → LG)) × (Nat → Option LG)
abbrev aB (A : AS) : Nat → Int8 := A.1
abbrev aN (A : AS) : Nat := A.2.1
abbrev aE (A : AS) : Int32 := A.2.2.1
abbrev aT (A : AS) : TM := A.2.2.2.1
abbrev aG (A : AS) : LG := A.2.2.2.2.1
abbrev aU (A : AS) : Nat × (Nat → LG) := A.2.2.2.2.2.1
abbrev aS (A : AS) : Nat → Option LG := A.2.2.2.2.2.2
abbrev isI (i : Nat) : Prop := i < 2 ∨ 7 ≤ i ∧ i < 177 ∨ 183 ≤ i ∧ i < 213
abbrev isQ (i : Nat) : Prop := 2 ≤ i ∧ i < 7 ∨ 177 ≤ i ∧ i < 183 ∨ 213 ≤ i ∧ i < 229
/-- a sum over the first n -/
def sm (f : Nat → Nat) : Nat → Nat
  | 0 => 0
  | n + 1 => sm f n + f n
theorem sm_le {f : Nat → Nat} {c : Nat} (h : ∀ i, f i ≤ c) : ∀ n, sm f n ≤ c * n := by
  intro n
  induction n with
  | zero => exact Nat.zero_le _
  | succ n ih => have := h n; rw [sm, Nat.mul_succ]; omega
theorem sm_le' {f : Nat → Nat} {c : Nat} : ∀ n, (∀ i, i < n → f i ≤ c) → sm f n ≤ c * n := by
  intro n
  induction n with
  | zero => intro _; exact Nat.zero_le _
  | succ n ih => intro h; have := h n (by omega); have := ih (fun i hi => h i (by omega)); rw [sm, Nat.mul_succ]; omega
theorem sm_congr {f f' : Nat → Nat} : ∀ n, (∀ i, i < n → f i = f' i) → sm f n = sm f' n := by
  intro n
  induction n with
  | zero => intro _; rfl
  | succ n ih => intro h; rw [sm, sm, ih (fun i hi => h i (by omega)), h n (by omega)]
/-- a number of the script that stands for one of n -/
def idx (p : Int32) (n : Nat) : Option Nat := if 0 ≤ p.toInt ∧ p.toInt < n then some p.toInt.toNat else none
theorem idx_cases (p : Int32) (n : Nat) (hn : n < 2147483648) : (∃ k, k < n ∧ p = Int32.ofNat k ∧ idx p n = some k) ∨ ((p.toInt < 0 ∨ (n : Int) ≤ p.toInt) ∧ idx p n = none) := by
  by_cases hc : 0 ≤ p.toInt ∧ p.toInt < n
  · refine Or.inl ⟨p.toInt.toNat, by omega, ?_, if_pos hc⟩
    apply Int32.toInt_inj.mp
    rw [Int32.toInt_ofNat_of_lt (by omega)]
    omega
  · exact Or.inr ⟨by omega, if_neg hc⟩
theorem idx_of {k n : Nat} (h : k < n) (hn : n < 2147483648) : idx (Int32.ofNat k) n = some k := by
  have e : (Int32.ofNat k).toInt = k := Int32.toInt_ofNat_of_lt (by omega)
  rw [idx, e, if_pos (by omega)]
  rfl
/-! ### decisions -/
def dec (T : TM) (G : LG) (p v : Nat) : Nat :=
  if pop (G.1 (49 + (4 * p + v))) + pop (G.1 (113 + (4 * p + v))) < T.1 4 then 0
  else if T.1 5 * (pop (G.1 (49 + (4 * p + v))) + pop (G.1 (113 + (4 * p + v)))) ≤ pop (G.1 (49 + (4 * p + v))) * 100 then 1 else 2
abbrev ctd (T : TM) (G : LG) (p v day : Nat) : Prop := dec T G p v = 1 ∧ T.2.1 (2 * v) ≤ day ∧ day < G.1 (33 + p) ∧ G.1 (9 + G.1 (17 + p)) ≤ day
def vn (T : TM) (G : LG) (p day : Nat) : Nat := sm (fun v => if ctd T G p v day then 1 else 0) (T.1 1)
def prs (T : TM) (G : LG) (m day : Nat) (n : Nat) : Nat := sm (fun p => if G.1 (17 + p) = m then vn T G p day else 0) n
def pts (T : TM) (G : LG) (m day : Nat) (n : Nat) : Nat := sm (fun p => if G.1 (17 + p) = m ∧ 0 < vn T G p day then 1 else 0) n
/-! ### the formula -/
def jn (c : Nat) (a b : Int32) : Int32 := if c = 4 then a + b else if c = 5 then a - b else if c = 6 then a * b else if b = 0 then 0 else a / b
def ev (f : Nat → Int32) : List Nat → List Int32 → List Int32
  | [], s => s
  | c :: l, s => if 4 ≤ c ∧ c ≤ 7 then (match s with
    | b :: a :: s => ev f l (jn c a b :: s)
    | s => ev f l s) else ev f l ((if 100 ≤ c then Int32.ofNat (c - 100) else f c) :: s)
def okc : List Nat → Nat → Prop
  | [], n => n = 1
  | c :: l, n => if 4 ≤ c ∧ c ≤ 7 then 2 ≤ n ∧ okc l (n - 1) else (c = 1 ∨ c = 2 ∨ c = 3 ∨ (100 ≤ c ∧ c < 10100)) ∧ n < 16 ∧ okc l (n + 1)
def clamp (x : Int32) : Nat := if x < 0 then 0 else if 1000000 < x then 1000000 else x.toNatClampNeg
def fcts (a b c : Nat) : Nat → Int32 := fun i => if i = 1 then Int32.ofNat a else if i = 2 then Int32.ofNat b else Int32.ofNat c
def wth (T : TM) (a b c : Nat) : Nat := clamp ((ev (fcts a b c) T.2.2.2 []).headD 0)
def wt (T : TM) (G : LG) (m day : Nat) : Nat :=
  if day < G.1 (9 + m) then 0
  else if day - G.1 (9 + m) < T.1 9 then wth T (pts T G m day (G.1 8)) (prs T G m day (G.1 8)) (day - G.1 (9 + m)) * T.1 10 / 100
  else wth T (pts T G m day (G.1 8)) (prs T G m day (G.1 8)) (day - G.1 (9 + m))
def wts (T : TM) (G : LG) (m : Nat) : Nat := if m < G.1 7 then wt T G m (G.1 0) else 0
/-! ### sets -/
def bit (s k : Nat) : Bool := s / 2 ^ k % 2 = 1
def hvy (W : Nat → Nat) (s : Nat) : Nat := sm (fun m => if bit s m then W m else 0) 8
def maj (W : Nat → Nat) (s : Nat) : Bool := sm W 8 < 2 * hvy W s
def smj (W : Nat → Nat) : Nat → Option Nat
  | 0 => none
  | s + 1 => if maj W s then (match smj W s with
    | none => some s
    | some b => if pop s < pop b then some s else some b) else smj W s
def pwr (W : Nat → Nat) (m : Nat) (n : Nat) : Nat := sm (fun s => if bit s m = false ∧ maj W s = false ∧ maj W (s ||| 2 ^ m) = true then 1 else 0) n
/-- what is right of a ledger after n calls -/
abbrev wfL (n : Nat) (G : LG) : Prop := G.1 0 ≤ 9999 ∧ G.1 1 ≤ n ∧ G.1 7 ≤ 8 ∧ G.1 8 ≤ 16 ∧ (∀ m, m < 8 → G.1 (9 + m) ≤ 9999) ∧ (∀ p, p < 16 → G.1 (17 + p) < 8) ∧ (∀ p, p < 16 → G.1 (33 + p) ≤ 9999) ∧ (∀ k, k < 64 → G.1 (49 + k) < 32) ∧ (∀ k, k < 64 → G.1 (113 + k) < 32) ∧ (∀ k, k < 64 → G.1 (49 + k) &&& G.1 (113 + k) = 0) ∧ (∀ k, k < 24 → G.1 (183 + k) ≤ 99999 * (n + 1)) ∧ (∀ l, l < 6 → G.1 (207 + l) ≤ 1) ∧ (∀ l, l < 6 → 0 ≤ (G.2 (177 + l)).toInt ∧ (G.2 (177 + l)).toInt ≤ 5000000000 * n)
abbrev wfT (T : TM) : Prop := T.1 1 ≤ 4 ∧ T.1 3 ≤ 6 ∧ (1 ≤ T.1 4 ∧ T.1 4 ≤ 5) ∧ T.1 5 ≤ 100 ∧ T.1 6 ≤ 100 ∧ T.1 7 ≤ 50 ∧ T.1 8 ≤ 40 ∧ T.1 9 ≤ 9999 ∧ T.1 10 ≤ 100 ∧ T.1 11 ≤ 9999 ∧ T.1 12 ≤ 100 ∧ T.1 13 ≤ 400 ∧ (∀ i, i < 2 * T.1 1 → T.2.1 i ≤ 9999) ∧ (∀ i, i < T.1 3 → T.2.2.1 i ≤ 100) ∧ T.2.2.2.length ≤ 700 ∧ okc T.2.2.2 0
