/-! THE ENGINE, 1: a typed memory and its picture in the heap. A world: kinds of the cells (0..9 an object of the class with that number, 10 int[], 11 byte[], 12 boolean[], 13 long[], 14 Ledger[], 15 unseen), ints, longs, references. Cell k >= 64 lies at base + (k - 64); the first 64 are places outside (the script, Strings). -/
abbrev pp_M : Type := (Nat → Nat → Int32) × (Nat → Nat → Int64) × (Nat → Nat → Option Nat)
abbrev pp_W : Type := List (Nat × Nat) × pp_M
abbrev pp_R : Type := Option Value ⊕ String
abbrev pp_G : Type := Launch × Nat × (Nat → Nat) × va_G × (Nat → ClassId) × (Nat → Nat) × Nat × (Nat → Int32)
abbrev pp_l (g : pp_G) : Launch := g.1
abbrev pp_b (g : pp_G) : Nat := g.2.1
abbrev pp_x (g : pp_G) : Nat → Nat := g.2.2.1
abbrev pp_D (g : pp_G) : va_G := g.2.2.2.1
abbrev pp_d (g : pp_G) : Nat → ClassId := g.2.2.2.2.1
abbrev pp_sv (g : pp_G) : Nat → Nat := g.2.2.2.2.2.1
abbrev pp_sL (g : pp_G) : Nat := g.2.2.2.2.2.2.1
abbrev pp_sx (g : pp_G) : Nat → Int32 := g.2.2.2.2.2.2.2
def pp_ft : Nat → List Nat
  | 0 => [2, 2]
  | 1 => [2, 2, 1, 2, 2]
  | 2 => [2, 0, 2]
  | 3 => [2, 0, 0]
  | 4 => [0, 0, 0, 2, 0, 2, 2, 2, 2, 2, 2, 0, 2, 2, 1, 1, 1, 1, 1]
  | 5 => [2, 2, 2, 2, 0, 0, 0]
  | 6 => [0, 2, 2, 0, 2, 0, 0, 0, 0, 0, 0, 0, 0, 0, 0, 2]
  | 7 => [2, 0, 0, 0, 0, 0]
  | 8 => [2, 0, 0, 2, 2, 2, 2, 2, 2, 2]
  | 9 => [0, 2, 2, 2, 2, 2, 2, 2, 2, 2, 0, 0, 0, 0, 0, 0, 0, 0, 0, 0, 0, 2, 2, 2, 2, 2, 2, 0, 2, 2, 2]
  | _ => []
abbrev pp_cl : List vw_C := [(RX0, TX0, 2), (RX1, TX1, 5), (RX2, TX2, 3), (RX3, TX3, 3), (RX4, TX4, 19), (RX5, TX5, 7), (RX6, TX6, 16), (RX7, TX7, 6), (RX8, TX8, 10), (RX9, TX9, 31)]
def pp_ad (g : pp_G) (k : Nat) : Nat := if k < 64 then pp_x g k else pp_b g + (k - 64)
def pp_A (g : pp_G) : Nat → Prop := fun q => pp_b g ≤ q
def pp_v (g : pp_G) : Value → Value
  | .ref k => .ref (pp_ad g k)
  | v => v
def pp_rf : Option Nat → Value
  | none => .null
  | some a => .ref a
theorem pp_v_rf (g : pp_G) (r : Option Nat) : pp_v g (pp_rf r) = va_rf (r.map (pp_ad g)) := by cases r <;> rfl
theorem pp_v_cat (g : pp_G) (v : Value) : (pp_v g v).category = v.category := by cases v <;> rfl
/-- row a replaced -/
def pp_s {α : Type} (f : Nat → α) (a : Nat) (r : α) : Nat → α := fun i => if i = a then r else f i
theorem pp_s_eq {α : Type} (f : Nat → α) (a : Nat) (r : α) : pp_s f a r a = r := if_pos rfl
theorem pp_s_ne {α : Type} (f : Nat → α) {a b : Nat} (r : α) (h : b ≠ a) : pp_s f a r b = f b := if_neg h
/-- the field k of an object at a, of the field kind t -/
def pp_fv (g : pp_G) (m : pp_M) (a t k : Nat) : Value := match t with
  | 0 => .int (m.1 a k)
  | 1 => .long (m.2.1 a k)
  | _ => va_rf ((m.2.2 a k).map (pp_ad g))
def pp_fk (c k : Nat) : Nat := (pp_ft c).getD k 9
def pp_at (g : pp_G) (m : pp_M) (a : Nat) (sh : Nat × Nat) (H : Heap) : Prop :=
  if sh.1 = 15 then True
  else if sh.1 = 10 then H[pp_ad g a]? = some (vp_cell (pp_d g 0) (sh.2, .inl (m.1 a)))
  else if sh.1 = 11 then H[pp_ad g a]? = some (vp_cell (pp_d g 1) (sh.2, .inl (m.1 a)))
  else if sh.1 = 12 then H[pp_ad g a]? = some (vp_cell (pp_d g 2) (sh.2, .inl (m.1 a)))
  else if sh.1 = 13 then H[pp_ad g a]? = some (vp_cell (pp_d g 3) (sh.2, .inr (.inl (m.2.1 a))))
  else if sh.1 = 14 then H[pp_ad g a]? = some (vp_cell (pp_d g 4) (sh.2, .inr (.inr (.inr (.inr (fun k => (m.2.2 a k).map (pp_ad g)))))))
  else ∃ r : vw_C, pp_cl[sh.1]? = some r ∧ t_OB (pp_ad g a) ((pp_D g).1 sh.1) r.2.2 ((pp_D g).2 sh.1) H (fun k => pp_fv g m a (pp_fk sh.1 k) k)
def pp_Rep (g : pp_G) (w : pp_W) (H : Heap) : Prop := 64 ≤ w.1.length ∧ H.size = pp_b g + (w.1.length - 64) ∧ (∀ i, i < 64 → w.1[i]? = some (15, 0)) ∧ ∀ (i : Nat) (sh : Nat × Nat), w.1[i]? = some sh → pp_at g w.2 i sh H
theorem pp_ad_hi (g : pp_G) {k : Nat} (h : 64 ≤ k) : pp_ad g k = pp_b g + (k - 64) := if_neg (by omega)
theorem pp_at.congr {g : pp_G} {m m' : pp_M} {a : Nat} {sh : Nat × Nat} {H H' : Heap} (h : pp_at g m a sh H) (h1 : m'.1 a = m.1 a) (h2 : m'.2.1 a = m.2.1 a) (h3 : m'.2.2 a = m.2.2 a) (hq : H'[pp_ad g a]? = H[pp_ad g a]?) : pp_at g m' a sh H' := by
  unfold pp_at at h ⊢
  rw [h1, h2, h3, hq]
  split
  · trivial
  · rename_i n15
    rw [if_neg n15] at h
    split
    · rename_i c; rw [if_pos c] at h; exact h
    · rename_i c; rw [if_neg c] at h
      split
      · rename_i c; rw [if_pos c] at h; exact h
      · rename_i c; rw [if_neg c] at h
        split
        · rename_i c; rw [if_pos c] at h; exact h
        · rename_i c; rw [if_neg c] at h
          split
          · rename_i c; rw [if_pos c] at h; exact h
          · rename_i c; rw [if_neg c] at h
            split
            · rename_i c; rw [if_pos c] at h; exact h
            · rename_i c; rw [if_neg c] at h
              obtain ⟨r, hr, hO⟩ := h
              refine ⟨r, hr, (hO.kept hq).to (fun k _ => ?_)⟩
              simp only [pp_fv, h1, h2, h3]
theorem pp_Rep.hi {g : pp_G} {w : pp_W} {H : Heap} (h : pp_Rep g w H) {i : Nat} {sh : Nat × Nat} (hi : w.1[i]? = some sh) (hk : sh.1 ≠ 15) : 64 ≤ i ∧ i < w.1.length ∧ pp_ad g i = pp_b g + (i - 64) ∧ pp_ad g i < H.size := by
  have hl : i < w.1.length := (List.getElem?_eq_some_iff.mp hi).1
  have h6 : 64 ≤ i := by
    rcases Nat.lt_or_ge i 64 with q | q
    · have := h.2.2.1 i q
      rw [hi] at this
      cases this
      exact absurd rfl hk
    · exact q
  refine ⟨h6, hl, pp_ad_hi g h6, ?_⟩
  rw [pp_ad_hi g h6, h.2.1]
  omega
/-- a cell is written: the others stay -/
theorem pp_Rep.store {g : pp_G} {w : pp_W} {H H' : Heap} (h : pp_Rep g w H) {a : Nat} {sh : Nat × Nat} (ha : w.1[a]? = some sh) (hk : sh.1 ≠ 15) {m' : pp_M} (h1 : ∀ i, i ≠ a → m'.1 i = w.2.1 i) (h2 : ∀ i, i ≠ a → m'.2.1 i = w.2.2.1 i) (h3 : ∀ i, i ≠ a → m'.2.2 i = w.2.2.2 i)
    (hz : H'.size = H.size) (oq : ∀ q : Nat, q ≠ pp_ad g a → H'[q]? = H[q]?) (hn : pp_at g m' a sh H') : pp_Rep g (w.1, m') H' := by
  obtain ⟨a6, al, aA, -⟩ := h.hi ha hk
  refine ⟨h.1, hz.trans h.2.1, h.2.2.1, fun i si hi => ?_⟩
  by_cases e : i = a
  · subst e
    cases ha.symm.trans hi
    exact hn
  · by_cases k15 : si.1 = 15
    · unfold pp_at; rw [if_pos k15]; trivial
    · obtain ⟨i6, il, iA, -⟩ := h.hi hi k15
      refine (h.2.2.2 i si hi).congr (h1 i e) (h2 i e) (h3 i e) (oq _ ?_)
      rw [iA, aA]
      omega
/-- a cell is new -/
theorem pp_Rep.push {g : pp_G} {w : pp_W} {H H' : Heap} (h : pp_Rep g w H) {sh : Nat × Nat} {m' : pp_M} (h1 : ∀ i, i ≠ w.1.length → m'.1 i = w.2.1 i) (h2 : ∀ i, i ≠ w.1.length → m'.2.1 i = w.2.2.1 i) (h3 : ∀ i, i ≠ w.1.length → m'.2.2 i = w.2.2.2 i)
    (hz : H'.size = H.size + 1) (oq : ∀ q : Nat, q < H.size → H'[q]? = H[q]?) (hn : pp_at g m' w.1.length sh H') : pp_Rep g (w.1 ++ [sh], m') H' := by
  have hl := h.1
  have hs := h.2.1
  refine ⟨by simp only [List.length_append, List.length_cons, List.length_nil]; omega, by simp only [List.length_append, List.length_cons, List.length_nil]; omega, fun i hi => ?_, fun i si hi => ?_⟩
  · show (w.1 ++ [sh])[i]? = _
    rw [List.getElem?_append_left (by omega)]
    exact h.2.2.1 i hi
  · by_cases e : i < w.1.length
    · have hi : (w.1 ++ [sh])[i]? = some si := hi
      rw [List.getElem?_append_left e] at hi
      by_cases k15 : si.1 = 15
      · unfold pp_at; rw [if_pos k15]; trivial
      · obtain ⟨i6, il, iA, iH⟩ := h.hi hi k15
        exact (h.2.2.2 i si hi).congr (h1 i (by omega)) (h2 i (by omega)) (h3 i (by omega)) (oq _ iH)
    · have hi : (w.1 ++ [sh])[i]? = some si := hi
      rw [List.getElem?_append_right (by omega)] at hi
      have hz : i - w.1.length < 1 := (List.getElem?_eq_some_iff.mp hi).1
      have hz0 : i = w.1.length := by omega
      subst hz0
      rw [Nat.sub_self] at hi
      cases hi
      exact hn
theorem pp_Rep.size {g : pp_G} {w : pp_W} {H : Heap} (h : pp_Rep g w H) : pp_ad g w.1.length = H.size := by
  rw [pp_ad_hi g h.1, h.2.1]
/-- cells that nobody sees come -/
theorem pp_Rep.grow {g : pp_G} {w : pp_W} {H H' : Heap} (h : pp_Rep g w H) (hz : H.size ≤ H'.size) (oq : ∀ q : Nat, q < H.size → H'[q]? = H[q]?) : pp_Rep g (w.1 ++ List.replicate (H'.size - H.size) (15, 0), w.2) H' := by
  have hl := h.1
  have hs := h.2.1
  refine ⟨by simp only [List.length_append, List.length_replicate]; omega, by simp only [List.length_append, List.length_replicate]; omega, fun i hi => ?_, fun i si hi => ?_⟩
  · show (w.1 ++ _)[i]? = _
    rw [List.getElem?_append_left (by omega)]
    exact h.2.2.1 i hi
  · by_cases k15 : si.1 = 15
    · unfold pp_at; rw [if_pos k15]; trivial
    · by_cases e : i < w.1.length
      · have hi : (w.1 ++ List.replicate (H'.size - H.size) (15, 0))[i]? = some si := hi
        rw [List.getElem?_append_left e] at hi
        obtain ⟨i6, il, iA, iH⟩ := h.hi hi k15
        exact (h.2.2.2 i si hi).congr rfl rfl rfl (oq _ iH)
      · have hi : (w.1 ++ List.replicate (H'.size - H.size) (15, 0))[i]? = some si := hi
        rw [List.getElem?_append_right (by omega)] at hi
        have := List.eq_of_mem_replicate (List.mem_of_getElem? hi)
        rw [this] at k15
        exact absurd rfl k15
theorem pp_Rep.same {g : pp_G} {w : pp_W} {H H' : Heap} (h : pp_Rep g w H) (e : H' = H) : pp_Rep g w H' := e ▸ h
theorem pp_Rep.Aa {g : pp_G} {w : pp_W} {H : Heap} (h : pp_Rep g w H) {i : Nat} {sh : Nat × Nat} (hi : w.1[i]? = some sh) (hk : sh.1 ≠ 15) : pp_A g (pp_ad g i) := by
  rw [(h.hi hi hk).2.2.1]
  exact Nat.le_add_right _ _
-- the kinds of a cell
theorem pp_at.i {g : pp_G} {m : pp_M} {a n : Nat} {H : Heap} : pp_at g m a (10, n) H ↔ H[pp_ad g a]? = some (vp_cell (pp_d g 0) (n, .inl (m.1 a))) := by simp [pp_at]
theorem pp_at.b {g : pp_G} {m : pp_M} {a n : Nat} {H : Heap} : pp_at g m a (11, n) H ↔ H[pp_ad g a]? = some (vp_cell (pp_d g 1) (n, .inl (m.1 a))) := by simp [pp_at]
theorem pp_at.z {g : pp_G} {m : pp_M} {a n : Nat} {H : Heap} : pp_at g m a (12, n) H ↔ H[pp_ad g a]? = some (vp_cell (pp_d g 2) (n, .inl (m.1 a))) := by simp [pp_at]
theorem pp_at.j {g : pp_G} {m : pp_M} {a n : Nat} {H : Heap} : pp_at g m a (13, n) H ↔ H[pp_ad g a]? = some (vp_cell (pp_d g 3) (n, .inr (.inl (m.2.1 a)))) := by simp [pp_at]
theorem pp_at.q {g : pp_G} {m : pp_M} {a n : Nat} {H : Heap} : pp_at g m a (14, n) H ↔ H[pp_ad g a]? = some (vp_cell (pp_d g 4) (n, .inr (.inr (.inr (.inr (fun k => (m.2.2 a k).map (pp_ad g))))))) := by simp [pp_at]
theorem pp_at.o {g : pp_G} {m : pp_M} {a c n : Nat} {H : Heap} (hc : c < 10) : pp_at g m a (c, n) H ↔ ∃ r : vw_C, pp_cl[c]? = some r ∧ t_OB (pp_ad g a) ((pp_D g).1 c) r.2.2 ((pp_D g).2 c) H (fun k => pp_fv g m a (pp_fk c k) k) := by
  unfold pp_at
  rw [if_neg (by show ¬ c = 15; omega), if_neg (by show ¬ c = 10; omega), if_neg (by show ¬ c = 11; omega), if_neg (by show ¬ c = 12; omega), if_neg (by show ¬ c = 13; omega), if_neg (by show ¬ c = 14; omega)]
