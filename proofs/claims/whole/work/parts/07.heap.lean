/-! THE ENGINE, 4: rows that look at the heap -/
def pp_ty (ci : Nat) : Nat → FieldType := match ci with
  | 0 => tyX0
  | 1 => tyX1
  | 2 => tyX2
  | 3 => tyX3
  | 4 => tyX4
  | 5 => tyX5
  | 6 => tyX6
  | 7 => tyX7
  | 8 => tyX8
  | _ => tyX9
theorem pp_sub {ws : List Cond} (h : ws.all (fun w => decide (w ∈ lw_tbl) && pp_ok w) = true) : ∀ w ∈ ws, w ∈ pp_T := fun w hw => by
  have := List.all_eq_true.mp h w hw
  simp only [Bool.and_eq_true, decide_eq_true_eq] at this
  exact List.mem_filter.mpr this
theorem pp_in0 : ∀ w ∈ u_ws RX0 TX0 2, w ∈ pp_T := pp_sub (by decide +kernel)
theorem pp_in1 : ∀ w ∈ u_ws RX1 TX1 5, w ∈ pp_T := pp_sub (by decide +kernel)
theorem pp_in2 : ∀ w ∈ u_ws RX2 TX2 3, w ∈ pp_T := pp_sub (by decide +kernel)
theorem pp_in3 : ∀ w ∈ u_ws RX3 TX3 3, w ∈ pp_T := pp_sub (by decide +kernel)
theorem pp_in4 : ∀ w ∈ u_ws RX4 TX4 19, w ∈ pp_T := pp_sub (by decide +kernel)
theorem pp_in5 : ∀ w ∈ u_ws RX5 TX5 7, w ∈ pp_T := pp_sub (by decide +kernel)
theorem pp_in6 : ∀ w ∈ u_ws RX6 TX6 16, w ∈ pp_T := pp_sub (by decide +kernel)
theorem pp_in7 : ∀ w ∈ u_ws RX7 TX7 6, w ∈ pp_T := pp_sub (by decide +kernel)
theorem pp_in8 : ∀ w ∈ u_ws RX8 TX8 10, w ∈ pp_T := pp_sub (by decide +kernel)
theorem pp_in9 : ∀ w ∈ u_ws RX9 TX9 31, w ∈ pp_T := pp_sub (by decide +kernel)
theorem pp_made : ∀ w ∈ pp_cl.flatMap (fun r => [Cond.instantiable r.1 r.2.2, Cond.initialized r.1]), w ∈ pp_T := pp_sub (by decide +kernel)
theorem pp_clOK {ci : Nat} {r : vw_C} (h : pp_cl[ci]? = some r) : ci < 10 ∧ (∀ w ∈ u_ws r.1 r.2.1 r.2.2, w ∈ pp_T) ∧ (∀ k, k < r.2.2 → parseFieldDescriptor (r.2.1 k).2.2.1 = some (pp_ty ci k)) ∧ (∀ a, a < r.2.2 → ∀ b, b < r.2.2 → a ≠ b → (r.2.1 a).2.1 ≠ (r.2.1 b).2.1) := by
  match ci, h with
  | 0, h => cases h; exact ⟨by decide, pp_in0, tyX0_ok, nmX0⟩
  | 1, h => cases h; exact ⟨by decide, pp_in1, tyX1_ok, nmX1⟩
  | 2, h => cases h; exact ⟨by decide, pp_in2, tyX2_ok, nmX2⟩
  | 3, h => cases h; exact ⟨by decide, pp_in3, tyX3_ok, nmX3⟩
  | 4, h => cases h; exact ⟨by decide, pp_in4, tyX4_ok, nmX4⟩
  | 5, h => cases h; exact ⟨by decide, pp_in5, tyX5_ok, nmX5⟩
  | 6, h => cases h; exact ⟨by decide, pp_in6, tyX6_ok, nmX6⟩
  | 7, h => cases h; exact ⟨by decide, pp_in7, tyX7_ok, nmX7⟩
  | 8, h => cases h; exact ⟨by decide, pp_in8, tyX8_ok, nmX8⟩
  | 9, h => cases h; exact ⟨by decide, pp_in9, tyX9_ok, nmX9⟩
  | n + 10, h => simp at h
section Heap
variable {g : pp_G} {R : Room} {mi : pp_MI} {Z : pp_CT → State → Prop} {cs : Nat × Nat} {pc : Nat} {L : List (Nat × Value)} {st : List Value} {w : pp_W}
theorem pr_get {ci k idx a : Nat} {r : vw_C} {v : Value} (hd : decode mi.by_ pc = .ok (.getfield idx, 3)) (hr : pp_cl[ci]? = some r) (hk : k < r.2.2) (hlk : Cond.fieldLink mi.y.cls idx (r.2.1 k).1 (r.2.1 k).2.1 (r.2.1 k).2.2.1 ∈ pp_T) (ha : w.1[a]? = some (ci, 0)) (hv : pp_v g v = pp_fv g w.2 a (pp_fk ci k) k)
    (kk : pp_ATc g R mi Z cs (pc + 3) L (v :: st) w) : pp_ATc g R mi Z cs pc L (.ref a :: st) w := by
  intro t C H locs ls cells slots hP hS hl h1 h2
  have kw := kk t C H locs ls cells slots hP hS hl h1 h2
  obtain ⟨hc10, hin, hty, hnm⟩ := pp_clOK hr
  obtain ⟨hx, hb, hml, hown, hts, hret, hlocks, hname, htab, hK, hE, hb0, htr⟩ := C
  obtain ⟨r', e1, cell, q1, q2, q3, q4⟩ := (pp_at.o hc10).mp (hP.2.2.2 a _ ha)
  cases Option.some.inj (e1.symm.trans hr)
  obtain ⟨hSl, hfc, kC, hkC, hkind⟩ := hK.1 ci _ hr
  obtain ⟨cf, kf, fi, f, hi, hsl⟩ := hSl k hk
  refine W.getf hx hb hown (hts _ hlk) hi (u_facts hfc hkC (u_lays hts hin hk) hi).1 q1 (by rw [q3]; exact fun h => by cases h) (v := pp_v g v) ?_ rfl rfl hd kw
  rw [hsl, q4 k hk, hv]
theorem pp_at_put {m m' : pp_M} {a ci k : Nat} {H' : Heap} {r : vw_C} {cell : Cell} {v : Value} (hr : pp_cl[ci]? = some r) (hc10 : ci < 10) (hk : k < r.2.2) (q2 : cell.cls = (pp_D g).1 ci) (q3 : cell.vm = .none) (q4 : ∀ j, j < r.2.2 → cell.slots[(pp_D g).2 ci j]? = some (pp_fv g m a (pp_fk ci j) j)) (hap : ∀ x y, x < r.2.2 → y < r.2.2 → x ≠ y → (pp_D g).2 ci x ≠ (pp_D g).2 ci y)
    (e1 : H'[pp_ad g a]? = some (cell.setSlot ((pp_D g).2 ci k) v)) (hv : v = pp_fv g m' a (pp_fk ci k) k) (ho : ∀ j, j ≠ k → pp_fv g m' a (pp_fk ci j) j = pp_fv g m a (pp_fk ci j) j) : pp_at g m' a (ci, 0) H' := by
  refine (pp_at.o hc10).mpr ⟨r, hr, t_OB.to (V := updV (fun j => pp_fv g m a (pp_fk ci j) j) k v) ⟨_, e1, q2, q3, t_set q4 hap hk v⟩ (fun j _ => ?_)⟩
  by_cases e : j = k
  · subst e
    simp [updV, hv]
  · simp only [updV, if_neg e]
    exact (ho j e).symm
theorem pr_put {ci k idx a : Nat} {r : vw_C} {v : Value} {m' : pp_M} (hd : decode mi.by_ pc = .ok (.putfield idx, 3)) (hr : pp_cl[ci]? = some r) (hk : k < r.2.2) (hlk : Cond.fieldLink mi.y.cls idx (r.2.1 k).1 (r.2.1 k).2.1 (r.2.1 k).2.2.1 ∈ pp_T) (hfin : (r.2.1 k).2.2.2 = false ∨ ((r.2.1 k).2.2.2 = true ∧ mi.y.name = "<init>" ∧ (r.2.1 k).1 = mi.y.cls))
    (hn : narrow (pp_ty ci k) (pp_v g v) = pp_v g v) (hfit : fits (pp_ty ci k) (pp_v g v) = true) (ha : w.1[a]? = some (ci, 0))
    (m1 : ∀ i, i ≠ a → m'.1 i = w.2.1 i) (m2 : ∀ i, i ≠ a → m'.2.1 i = w.2.2.1 i) (m3 : ∀ i, i ≠ a → m'.2.2 i = w.2.2.2 i) (hv : pp_v g v = pp_fv g m' a (pp_fk ci k) k) (ho : ∀ j, j ≠ k → pp_fv g m' a (pp_fk ci j) j = pp_fv g w.2 a (pp_fk ci j) j)
    (kk : pp_ATc g R mi Z cs (pc + 3) L st (w.1, m')) : pp_ATc g R mi Z cs pc L (v :: .ref a :: st) w := by
  intro t C H locs ls cells slots hP hS hl h1 h2
  have kw := kk t C
  obtain ⟨hc10, hin, hty, hnm⟩ := pp_clOK hr
  obtain ⟨hx, hb, hml, hown, hts, hret, hlocks, hname, htab, hK, hE, hb0, htr⟩ := C
  have hap := va_apart (own := mi.y.cls) hts hin (pp_ty ci) hty hnm hK hr
  have h15 : ((ci, 0) : Nat × Nat).1 ≠ 15 := by show ci ≠ 15; omega
  obtain ⟨r', e1, cell, q1, q2, q3, q4⟩ := (pp_at.o hc10).mp (hP.2.2.2 a _ ha)
  cases Option.some.inj (e1.symm.trans hr)
  obtain ⟨hSl, hfc, kC, hkC, hkind⟩ := hK.1 ci _ hr
  obtain ⟨cf, kf, fi, f, hi, hsl⟩ := hSl k hk
  have hlay := hts _ (hin _ (u_in_lay hk))
  have hst := (u_facts hfc hkC (u_lays hts hin hk) hi).1
  unfold u_lay at hlay
  rcases hfin with hfin | ⟨hfin, hin2, hdecl⟩
  · rw [if_neg (by rw [hfin]; decide)] at hlay
    have h6 := u_store hfc hkC hkind hlay hi (hty k hk) hn hfit
    refine W.putK hx hb (f := f) ⟨hown, hts _ hlk, ⟨_, _, _, hi⟩, hst⟩ (by rw [q2]; exact h6) q1 q3 (by rw [hsl]; exact k2_hasslot (q4 k hk)) rfl rfl hd fun H' e1 e2 e3 => ?_
    rw [hsl] at e1
    exact kw H' _ ls cells slots (hP.store ha h15 m1 m2 m3 e2 e3 (pp_at_put hr hc10 hk q2 q3 q4 hap e1 hv ho)) (hS.put e2 e3 (hP.Aa ha h15)) hl h1 h2
  · rw [if_pos hfin] at hlay
    have hcf : t.m.cls = cf := by
      obtain ⟨_, _, c', _, _, _, -, -, hf', -, -, -, hown2, -⟩ := Cond.laysFinal_spec hlay
      have e1 : c' = cf := by have := hi.symm.trans hf'; simp at this; exact this.1.symm
      rw [hdecl] at hown2
      rw [← e1]; exact Option.some.inj (hown.symm.trans hown2)
    have h6 := u_fits hfc hkC hkind (Or.inr hlay) hi (hty k hk) hn hfit
    refine W.putFinK hx hb hown (hts _ hlk) hi hst hcf (hname.trans hin2) (by rw [q2]; exact h6) q1 q3 (by rw [hsl]; exact k2_hasslot (q4 k hk)) rfl rfl hd fun H' e1 e2 e3 => ?_
    rw [hsl] at e1
    exact kw H' _ ls cells slots (hP.store ha h15 m1 m2 m3 e2 e3 (pp_at_put hr hc10 hk q2 q3 q4 hap e1 hv ho)) (hS.put e2 e3 (hP.Aa ha h15)) hl h1 h2
-- arrays: looking
theorem pr_iald {a n : Nat} {j : Int32} (hd : decode mi.by_ pc = .ok (.iaload, 1)) (ha : w.1[a]? = some (10, n)) (hin : vp_in j n) (kk : pp_ATc g R mi Z cs (pc + 1) L (.int (w.2.1 a j.toNatClampNeg) :: st) w) : pp_ATc g R mi Z cs pc L (.int j :: .ref a :: st) w :=
  fun t C H locs ls cells slots hP hS hl h1 h2 => va_iald (ws := [(pp_ad g a, .inl (pp_d g 0, n, .inl (w.2.1 a)))]) C.1 C.2.1 C.2.2.2.2.2.2.2.2.2.1 (fun k q hq => by cases k with
    | zero => cases hq; exact pp_at.i.mp (hP.2.2.2 a _ ha)
    | succ k => simp at hq) 0 0 rfl rfl hin hd (kk t C H locs ls cells slots hP hS hl h1 h2)
theorem pr_bald {a n : Nat} {j : Int32} (hd : decode mi.by_ pc = .ok (.baload, 1)) (ha : w.1[a]? = some (11, n)) (hin : vp_in j n) (kk : pp_ATc g R mi Z cs (pc + 1) L (.int (w.2.1 a j.toNatClampNeg) :: st) w) : pp_ATc g R mi Z cs pc L (.int j :: .ref a :: st) w :=
  fun t C H locs ls cells slots hP hS hl h1 h2 => va_bald (ws := [(pp_ad g a, .inl (pp_d g 1, n, .inl (w.2.1 a)))]) C.1 C.2.1 C.2.2.2.2.2.2.2.2.2.1 (fun k q hq => by cases k with
    | zero => cases hq; exact pp_at.b.mp (hP.2.2.2 a _ ha)
    | succ k => simp at hq) 0 1 rfl rfl hin hd (kk t C H locs ls cells slots hP hS hl h1 h2)
theorem pr_zald {a n : Nat} {j : Int32} (hd : decode mi.by_ pc = .ok (.baload, 1)) (ha : w.1[a]? = some (12, n)) (hin : vp_in j n) (kk : pp_ATc g R mi Z cs (pc + 1) L (.int (w.2.1 a j.toNatClampNeg) :: st) w) : pp_ATc g R mi Z cs pc L (.int j :: .ref a :: st) w :=
  fun t C H locs ls cells slots hP hS hl h1 h2 => va_zald (ws := [(pp_ad g a, .inl (pp_d g 2, n, .inl (w.2.1 a)))]) C.1 C.2.1 C.2.2.2.2.2.2.2.2.2.1 (fun k q hq => by cases k with
    | zero => cases hq; exact pp_at.z.mp (hP.2.2.2 a _ ha)
    | succ k => simp at hq) 0 2 rfl rfl hin hd (kk t C H locs ls cells slots hP hS hl h1 h2)
theorem pr_lald {a n : Nat} {j : Int32} (hd : decode mi.by_ pc = .ok (.laload, 1)) (ha : w.1[a]? = some (13, n)) (hin : vp_in j n) (kk : pp_ATc g R mi Z cs (pc + 1) L (.long (w.2.2.1 a j.toNatClampNeg) :: st) w) : pp_ATc g R mi Z cs pc L (.int j :: .ref a :: st) w :=
  fun t C H locs ls cells slots hP hS hl h1 h2 => va_lald (ws := [(pp_ad g a, .inl (pp_d g 3, n, .inr (.inl (w.2.2.1 a))))]) C.1 C.2.1 C.2.2.2.2.2.2.2.2.2.1 (fun k q hq => by cases k with
    | zero => cases hq; exact pp_at.j.mp (hP.2.2.2 a _ ha)
    | succ k => simp at hq) 0 3 rfl rfl hin hd (kk t C H locs ls cells slots hP hS hl h1 h2)
theorem pr_aald {a n : Nat} {j : Int32} (hd : decode mi.by_ pc = .ok (.aaload, 1)) (ha : w.1[a]? = some (14, n)) (hin : vp_in j n) (kk : pp_ATc g R mi Z cs (pc + 1) L (pp_rf (w.2.2.2 a j.toNatClampNeg) :: st) w) : pp_ATc g R mi Z cs pc L (.int j :: .ref a :: st) w :=
  fun t C H locs ls cells slots hP hS hl h1 h2 => va_aldq (ws := [(pp_ad g a, .inl (pp_d g 4, n, .inr (.inr (.inr (.inr (fun k => (w.2.2.2 a k).map (pp_ad g)))))))]) C.1 C.2.1 C.2.2.2.2.2.2.2.2.2.1 (fun k q hq => by cases k with
    | zero => cases hq; exact pp_at.q.mp (hP.2.2.2 a _ ha)
    | succ k => simp at hq) 0 4 rfl rfl hin hd (by
      have := kk t C H locs ls cells slots hP hS hl h1 h2
      simp only [List.map_cons, pp_v_rf] at this
      exact this)
theorem pr_alen {a t9 n : Nat} {v : Int32} (hd : decode mi.by_ pc = .ok (.arraylength, 1)) (ha : w.1[a]? = some (t9, n)) (ht : 10 ≤ t9 ∧ t9 ≤ 14) (hv : Int32.ofNat n = v) (kk : pp_ATc g R mi Z cs (pc + 1) L (.int v :: st) w) : pp_ATc g R mi Z cs pc L (.ref a :: st) w := by
  intro t C H locs ls cells slots hP hS hl h1 h2
  have hc := hP.2.2.2 a _ ha
  rcases (by omega : t9 = 10 ∨ t9 = 11 ∨ t9 = 12 ∨ t9 = 13 ∨ t9 = 14) with rfl | rfl | rfl | rfl | rfl
  · exact va_alen (ws := [(pp_ad g a, .inl (pp_d g 0, n, .inl (w.2.1 a)))]) C.1 C.2.1 C.2.2.2.2.2.2.2.2.2.1 (fun k q hq => by cases k with
      | zero => cases hq; exact pp_at.i.mp hc
      | succ k => simp at hq) 0 0 rfl rfl hv hd (kk t C H locs ls cells slots hP hS hl h1 h2)
  · exact va_alen (ws := [(pp_ad g a, .inl (pp_d g 1, n, .inl (w.2.1 a)))]) C.1 C.2.1 C.2.2.2.2.2.2.2.2.2.1 (fun k q hq => by cases k with
      | zero => cases hq; exact pp_at.b.mp hc
      | succ k => simp at hq) 0 1 rfl rfl hv hd (kk t C H locs ls cells slots hP hS hl h1 h2)
  · exact va_alen (ws := [(pp_ad g a, .inl (pp_d g 2, n, .inl (w.2.1 a)))]) C.1 C.2.1 C.2.2.2.2.2.2.2.2.2.1 (fun k q hq => by cases k with
      | zero => cases hq; exact pp_at.z.mp hc
      | succ k => simp at hq) 0 2 rfl rfl hv hd (kk t C H locs ls cells slots hP hS hl h1 h2)
  · exact va_alen (ws := [(pp_ad g a, .inl (pp_d g 3, n, .inr (.inl (w.2.2.1 a))))]) C.1 C.2.1 C.2.2.2.2.2.2.2.2.2.1 (fun k q hq => by cases k with
      | zero => cases hq; exact pp_at.j.mp hc
      | succ k => simp at hq) 0 3 rfl rfl hv hd (kk t C H locs ls cells slots hP hS hl h1 h2)
  · exact va_alen (ws := [(pp_ad g a, .inl (pp_d g 4, n, .inr (.inr (.inr (.inr (fun k => (w.2.2.2 a k).map (pp_ad g)))))))]) C.1 C.2.1 C.2.2.2.2.2.2.2.2.2.1 (fun k q hq => by cases k with
      | zero => cases hq; exact pp_at.q.mp hc
      | succ k => simp at hq) 0 4 rfl rfl hv hd (kk t C H locs ls cells slots hP hS hl h1 h2)
-- arrays: writing
theorem pp_up_arr {α : Type} (mk : α → Value) (cA : ClassId) (n k : Nat) (f : Nat → α) (x : α) : (arrV cA n (fun j => mk (f j))).setSlot k (mk x) = arrV cA n (fun j => mk (va_up f k x j)) := by
  rw [arrV_store]
  congr 1
  funext q
  by_cases hq : q = k
  · simp [updV, va_up, hq]
  · simp [updV, va_up, hq]
theorem pr_iast {a n : Nat} {j x : Int32} (hd : decode mi.by_ pc = .ok (.iastore, 1)) (ha : w.1[a]? = some (10, n)) (hin : vp_in j n) (kk : pp_ATc g R mi Z cs (pc + 1) L st (w.1, pp_s w.2.1 a (va_up (w.2.1 a) j.toNatClampNeg x), w.2.2)) : pp_ATc g R mi Z cs pc L (.int x :: .int j :: .ref a :: st) w := by
  intro t C H locs ls cells slots hP hS hl h1 h2
  have hc := pp_at.i.mp (hP.2.2.2 a _ ha)
  refine W.iast C.1 C.2.1 hc ((C.2.2.2.2.2.2.2.2.2.1.2 0 _ rfl).1 n (fun j => .int (w.2.1 a j))) (fun q => by cases q) (by show ¬ (j < 0 ∨ (arrV _ _ _).slots.size ≤ _); rw [arrV_size]; exact hin) rfl rfl hd fun H1 e z oq => ?_
  refine kk t C H1 _ ls cells slots (hP.store ha (fun q => nomatch q) (fun i hi => pp_s_ne _ _ hi) (fun i hi => rfl) (fun i hi => rfl) z oq (pp_at.i.mpr ?_)) (hS.put z oq (hP.Aa ha (fun q => nomatch q))) hl h1 h2
  rw [e, vp_cell_i, vp_cell_i, pp_up_arr (fun z => Value.int z)]
  simp only [pp_s_eq]
theorem pr_last {a n : Nat} {j : Int32} {x : Int64} (hd : decode mi.by_ pc = .ok (.lastore, 1)) (ha : w.1[a]? = some (13, n)) (hin : vp_in j n) (kk : pp_ATc g R mi Z cs (pc + 1) L st (w.1, w.2.1, pp_s w.2.2.1 a (va_up (w.2.2.1 a) j.toNatClampNeg x), w.2.2.2)) : pp_ATc g R mi Z cs pc L (.long x :: .int j :: .ref a :: st) w := by
  intro t C H locs ls cells slots hP hS hl h1 h2
  have hc := pp_at.j.mp (hP.2.2.2 a _ ha)
  refine W.last C.1 C.2.1 hc ((C.2.2.2.2.2.2.2.2.2.1.2 3 _ rfl).1 n (fun j => .long (w.2.2.1 a j))) (fun q => by cases q) (by show ¬ (j < 0 ∨ (arrV _ _ _).slots.size ≤ _); rw [arrV_size]; exact hin) rfl rfl hd fun H1 e z oq => ?_
  refine kk t C H1 _ ls cells slots (hP.store ha (fun q => nomatch q) (fun i hi => rfl) (fun i hi => pp_s_ne _ _ hi) (fun i hi => rfl) z oq (pp_at.j.mpr ?_)) (hS.put z oq (hP.Aa ha (fun q => nomatch q))) hl h1 h2
  rw [e, vp_cell_l, vp_cell_l, pp_up_arr (fun z => Value.long z)]
  simp only [pp_s_eq]
theorem pr_bast {a n : Nat} {j x : Int32} (hd : decode mi.by_ pc = .ok (.bastore, 1)) (ha : w.1[a]? = some (11, n)) (hin : vp_in j n) (kk : pp_ATc g R mi Z cs (pc + 1) L st (w.1, pp_s w.2.1 a (va_up (w.2.1 a) j.toNatClampNeg x.toInt8.toInt32), w.2.2)) : pp_ATc g R mi Z cs pc L (.int x :: .int j :: .ref a :: st) w := by
  intro t C H locs ls cells slots hP hS hl h1 h2
  have hc := pp_at.b.mp (hP.2.2.2 a _ ha)
  refine W.bast C.1 C.2.1 hc ((C.2.2.2.2.2.2.2.2.2.1.2 1 _ rfl).1 n (fun j => .int (w.2.1 a j))) (fun q => by cases q) (by show ¬ (j < 0 ∨ (arrV _ _ _).slots.size ≤ _); rw [arrV_size]; exact hin) rfl rfl hd fun H1 e z oq => ?_
  refine kk t C H1 _ ls cells slots (hP.store ha (fun q => nomatch q) (fun i hi => pp_s_ne _ _ hi) (fun i hi => rfl) (fun i hi => rfl) z oq (pp_at.b.mpr ?_)) (hS.put z oq (hP.Aa ha (fun q => nomatch q))) hl h1 h2
  rw [e, vp_cell_i, vp_cell_i, show narrow .byte (.int x) = Value.int x.toInt8.toInt32 from rfl, pp_up_arr (fun z => Value.int z)]
  simp only [pp_s_eq]
theorem pr_zast {a n : Nat} {j x : Int32} (hd : decode mi.by_ pc = .ok (.bastore, 1)) (ha : w.1[a]? = some (12, n)) (hin : vp_in j n) (hx : x = 0 ∨ x = 1) (kk : pp_ATc g R mi Z cs (pc + 1) L st (w.1, pp_s w.2.1 a (va_up (w.2.1 a) j.toNatClampNeg x), w.2.2)) : pp_ATc g R mi Z cs pc L (.int x :: .int j :: .ref a :: st) w := by
  intro t C H locs ls cells slots hP hS hl h1 h2
  have hc := pp_at.z.mp (hP.2.2.2 a _ ha)
  refine W.zast C.1 C.2.1 hc ((C.2.2.2.2.2.2.2.2.2.1.2 2 _ rfl).1 n (fun j => .int (w.2.1 a j))) (fun q => by cases q) (by show ¬ (j < 0 ∨ (arrV _ _ _).slots.size ≤ _); rw [arrV_size]; exact hin) rfl rfl hd fun H1 e z oq => ?_
  refine kk t C H1 _ ls cells slots (hP.store ha (fun q => nomatch q) (fun i hi => pp_s_ne _ _ hi) (fun i hi => rfl) (fun i hi => rfl) z oq (pp_at.z.mpr ?_)) (hS.put z oq (hP.Aa ha (fun q => nomatch q))) hl h1 h2
  have hnar : narrow .boolean (.int x) = Value.int x := by rcases hx with rfl | rfl <;> rfl
  rw [e, vp_cell_i, vp_cell_i, hnar, pp_up_arr (fun z => Value.int z)]
  simp only [pp_s_eq]
theorem pr_aast {a b n : Nat} {j : Int32} (hd : decode mi.by_ pc = .ok (.aastore, 1)) (ha : w.1[a]? = some (14, n)) (hb9 : w.1[b]? = some (4, 0)) (hin : vp_in j n) (kk : pp_ATc g R mi Z cs (pc + 1) L st (w.1, w.2.1, w.2.2.1, pp_s w.2.2.2 a (va_up (w.2.2.2 a) j.toNatClampNeg (some b)))) : pp_ATc g R mi Z cs pc L (.ref b :: .int j :: .ref a :: st) w := by
  intro t C H locs ls cells slots hP hS hl h1 h2
  have kw := kk t C
  obtain ⟨hx, hb, hml, hown, hts, hret, hlocks, hname, htab, hK, hE, hb0, htr⟩ := C
  have hc := pp_at.q.mp (hP.2.2.2 a _ ha)
  obtain ⟨r', e1, cell, q1, q2, q3, q4⟩ := (pp_at.o (by decide)).mp (hP.2.2.2 b _ hb9)
  obtain ⟨hSl, hfc, kC, hkC, hkind⟩ := hK.1 4 _ rfl
  obtain ⟨kA, comp, g1, g2, g3, g4⟩ := (hK.2 4 _ rfl).2
  have g3' : t.s.vm.findClass RX4 = some comp := g3
  cases Option.some.inj (g3'.symm.trans hfc)
  have hlt : j.toNatClampNeg < n := Nat.not_le.mp fun q => hin (Or.inr q)
  intro T hT X
  obtain ⟨X', step⟩ := X.aastoreRefT hx (a := pp_ad g a) (v := pp_ad g b) (cell := vp_cell (pp_d g 4) (n, .inr (.inr (.inr (.inr (fun k => (w.2.2.2 a k).map (pp_ad g))))))) (cv := cell) (j := j) (k := kA) (kv := kC) (kcomp := kC) (comp := (pp_D g).1 4) (t := .object RX4)
    (by rw [hT]; exact hc) (fun q h => by cases h) (fun h => by cases h) g1 g2 rfl hkC ⟨fun q => hin (Or.inl q), by rw [vp_cell_q, arrV_size]; exact hlt⟩ (by rw [hT]; exact q1) (fun q h => by rw [q3] at h; cases h) (by rw [q2]; exact hkC) (by rw [q2]; exact va_asg _ _) (g := F0 t.m pc ls (.ref (pp_ad g b) :: .int j :: .ref (pp_ad g a) :: st.map (pp_v g))) rfl rfl (by rw [hb]; exact hd)
  have hl9 : pp_ad g a < H.size := (Array.getElem?_eq_some_iff.mp hc).1
  have e9 : (vp_cell (pp_d g 4) (n, .inr (.inr (.inr (.inr (fun k => (w.2.2.2 a k).map (pp_ad g))))))).setSlot j.toNatClampNeg (.ref (pp_ad g b)) = vp_cell (pp_d g 4) (n, .inr (.inr (.inr (.inr (fun k => (pp_s w.2.2.2 a (va_up (w.2.2.2 a) j.toNatClampNeg (some b)) a k).map (pp_ad g)))))) := by
    rw [vp_cell_q, vp_cell_q, show Value.ref (pp_ad g b) = va_rf (some (pp_ad g b)) from rfl, pp_up_arr va_rf]
    congr 1
    funext q
    simp only [pp_s_eq, va_up]
    by_cases hq : q = j.toNatClampNeg
    · simp [hq]
    · simp [hq]
  rw [e9] at X' step
  obtain ⟨H1, hH1⟩ : ∃ z, z = (T.setCell (pp_ad g a) (vp_cell (pp_d g 4) (n, .inr (.inr (.inr (.inr (fun k => (pp_s w.2.2.2 a (va_up (w.2.2.2 a) j.toNatClampNeg (some b)) a k).map (pp_ad g)))))))).heap := ⟨_, rfl⟩
  have z : H1.size = H.size := by rw [hH1, size_setCell, hT]
  have oq : ∀ q : Nat, q ≠ pp_ad g a → H1[q]? = H[q]? := fun q hq => by rw [hH1, heapAt_setCell_ne _ (Ne.symm hq), hT]
  obtain ⟨t2, a1, b1⟩ := kw H1 _ ls cells slots (hP.store ha (fun q => nomatch q) (fun i hi => rfl) (fun i hi => rfl) (fun i hi => pp_s_ne _ _ hi) z oq (pp_at.q.mpr (by rw [hH1]; exact heapAt_setCell_self _ (by rw [hT]; exact hl9)))) (hS.put z oq (hP.Aa ha (fun q => nomatch q))) hl h1 h2 _ hH1.symm X'
  exact ⟨t2, step t2 a1, b1⟩
theorem pr_aastN {a n : Nat} {j : Int32} (hd : decode mi.by_ pc = .ok (.aastore, 1)) (ha : w.1[a]? = some (14, n)) (hin : vp_in j n) (kk : pp_ATc g R mi Z cs (pc + 1) L st (w.1, w.2.1, w.2.2.1, pp_s w.2.2.2 a (va_up (w.2.2.2 a) j.toNatClampNeg none))) : pp_ATc g R mi Z cs pc L (.null :: .int j :: .ref a :: st) w := by
  intro t C H locs ls cells slots hP hS hl h1 h2
  have kw := kk t C
  obtain ⟨hx, hb, hml, hown, hts, hret, hlocks, hname, htab, hK, hE, hb0, htr⟩ := C
  have hc := pp_at.q.mp (hP.2.2.2 a _ ha)
  obtain ⟨kA, comp, g1, g2, g3, g4⟩ := (hK.2 4 _ rfl).2
  have hlt : j.toNatClampNeg < n := Nat.not_le.mp fun q => hin (Or.inr q)
  intro T hT X
  obtain ⟨X', step⟩ := X.aastoreNullIn hx (a := pp_ad g a) (cell := vp_cell (pp_d g 4) (n, .inr (.inr (.inr (.inr (fun k => (w.2.2.2 a k).map (pp_ad g))))))) (j := j) (k := kA) (comp := comp) (t := .object RX4)
    (by rw [hT]; exact hc) (fun q h => by cases h) (fun h => by cases h) g1 g2 rfl ⟨fun q => hin (Or.inl q), by rw [vp_cell_q, arrV_size]; exact hlt⟩ (g := F0 t.m pc ls (.null :: .int j :: .ref (pp_ad g a) :: st.map (pp_v g))) rfl rfl (by rw [hb]; exact hd)
  have hl9 : pp_ad g a < H.size := (Array.getElem?_eq_some_iff.mp hc).1
  have e9 : (vp_cell (pp_d g 4) (n, .inr (.inr (.inr (.inr (fun k => (w.2.2.2 a k).map (pp_ad g))))))).setSlot j.toNatClampNeg .null = vp_cell (pp_d g 4) (n, .inr (.inr (.inr (.inr (fun k => (pp_s w.2.2.2 a (va_up (w.2.2.2 a) j.toNatClampNeg none) a k).map (pp_ad g)))))) := by
    rw [vp_cell_q, vp_cell_q, show Value.null = va_rf none from rfl, pp_up_arr va_rf]
    congr 1
    funext q
    simp only [pp_s_eq, va_up]
    by_cases hq : q = j.toNatClampNeg
    · simp [hq]
    · simp [hq]
  rw [e9] at X' step
  obtain ⟨H1, hH1⟩ : ∃ z, z = (T.setCell (pp_ad g a) (vp_cell (pp_d g 4) (n, .inr (.inr (.inr (.inr (fun k => (pp_s w.2.2.2 a (va_up (w.2.2.2 a) j.toNatClampNeg none) a k).map (pp_ad g)))))))).heap := ⟨_, rfl⟩
  have z : H1.size = H.size := by rw [hH1, size_setCell, hT]
  have oq : ∀ q : Nat, q ≠ pp_ad g a → H1[q]? = H[q]? := fun q hq => by rw [hH1, heapAt_setCell_ne _ (Ne.symm hq), hT]
  obtain ⟨t2, a1, b1⟩ := kw H1 _ ls cells slots (hP.store ha (fun q => nomatch q) (fun i hi => rfl) (fun i hi => rfl) (fun i hi => pp_s_ne _ _ hi) z oq (pp_at.q.mpr (by rw [hH1]; exact heapAt_setCell_self _ (by rw [hT]; exact hl9)))) (hS.put z oq (hP.Aa ha (fun q => nomatch q))) hl h1 h2 _ hH1.symm X'
  exact ⟨t2, step t2 a1, b1⟩
end Heap
