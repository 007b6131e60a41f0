/-! THE ENGINE, 5: making, copying -/
def pp_fkb (ci k : Nat) : Bool := match pp_fk ci k, pp_ty ci k with
  | 0, .int => true
  | 1, .long => true
  | 2, .object _ => true
  | 2, .array _ => true
  | _, _ => false
theorem pp_fkOK {ci : Nat} {r : vw_C} (h : pp_cl[ci]? = some r) : ∀ k, k < r.2.2 → pp_fkb ci k = true := by
  match ci, h with
  | 0, h => cases h; decide
  | 1, h => cases h; decide
  | 2, h => cases h; decide
  | 3, h => cases h; decide
  | 4, h => cases h; decide
  | 5, h => cases h; decide
  | 6, h => cases h; decide
  | 7, h => cases h; decide
  | 8, h => cases h; decide
  | 9, h => cases h; decide
  | n + 10, h => simp at h
theorem pp_fkD {ci k : Nat} (h : pp_fkb ci k = true) : (pp_fk ci k = 0 ∧ pp_ty ci k = .int) ∨ (pp_fk ci k = 1 ∧ pp_ty ci k = .long) ∨ (pp_fk ci k = 2 ∧ ((∃ C, pp_ty ci k = .object C) ∨ ∃ t, pp_ty ci k = .array t)) := by
  unfold pp_fkb at h
  split at h
  · rename_i a b; exact Or.inl ⟨a, b⟩
  · rename_i a b; exact Or.inr (Or.inl ⟨a, b⟩)
  · rename_i a b; exact Or.inr (Or.inr ⟨a, Or.inl ⟨_, b⟩⟩)
  · rename_i a b; exact Or.inr (Or.inr ⟨a, Or.inr ⟨_, b⟩⟩)
  · cases h
theorem pp_made_in {ci : Nat} {r : vw_C} (h : pp_cl[ci]? = some r) : Cond.instantiable r.1 r.2.2 ∈ pp_T ∧ Cond.initialized r.1 ∈ pp_T :=
  ⟨pp_made _ (List.mem_flatMap.mpr ⟨r, List.mem_of_getElem? h, by simp⟩), pp_made _ (List.mem_flatMap.mpr ⟨r, List.mem_of_getElem? h, by simp⟩)⟩
theorem pp_arrs : ∀ w ∈ [Cond.arrayClass .int, Cond.arrayClass .byte, Cond.arrayClass .boolean, Cond.arrayClass .long], w ∈ pp_T := pp_sub (by decide +kernel)
/-- a new cell of that kind: everything in it is 0 or null -/
def pp_nw (w : pp_W) (sh : Nat × Nat) : pp_W := (w.1 ++ [sh], pp_s w.2.1 w.1.length (fun _ => 0), pp_s w.2.2.1 w.1.length (fun _ => 0), pp_s w.2.2.2 w.1.length (fun _ => none))
section Make
variable {g : pp_G} {R : Room} {mi : pp_MI} {Z : pp_CT → State → Prop} {cs : Nat × Nat} {pc : Nat} {L : List (Nat × Value)} {st : List Value} {w : pp_W}
theorem pp_S_push {H0 H H1 : Heap} {locs : List Loc} (hS : va_S (pp_A g) H0 H locs) (z1 : H1.size = H.size + 1) (o1 : ∀ q : Nat, q < H.size → H1[q]? = H[q]?) : va_S (pp_A g) H0 H1 locs :=
  ⟨Nat.le_trans hS.1 (by omega), fun x h1 h2 => (o1 x (Nat.lt_of_lt_of_le h1 hS.1)).trans (hS.2.1 x h1 h2), hS.2.2⟩
theorem pr_new {ci idx : Nat} {r : vw_C} (hd : decode mi.by_ pc = .ok (.new idx, 3)) (hr : pp_cl[ci]? = some r) (hlk : Cond.classLink mi.y.cls idx r.1 ∈ pp_T) (hc : cs.1 + 1 ≤ R.cells) (hs : cs.2 + r.2.2 ≤ R.slots)
    (kk : pp_ATc g R mi Z (cs.1 + 1, cs.2 + r.2.2) (pc + 3) L (.ref w.1.length :: st) (pp_nw w (ci, 0))) : pp_ATc g R mi Z cs pc L st w := by
  intro t C H locs ls cells slots hP hS hl h1 h2
  have kw := kk t C
  obtain ⟨hc10, hin, hty, hnm⟩ := pp_clOK hr
  obtain ⟨hx, hb, hml, hown, hts, hret, hlocks, hname, htab, hK, hE, hb0, htr⟩ := C
  have hKn := hK.1 ci _ hr
  refine W.newcK hx hb hown (hts _ hlk) (hts _ (pp_made_in hr).1) (hts _ (pp_made_in hr).2) rfl hd (by omega) (by omega) hKn.2.1 rfl fun H1 kC hkC e1 z1 o1 => ?_
  have h9 : pp_Rep g (pp_nw w (ci, 0)) H1 := by
    refine hP.push (fun i hi => pp_s_ne _ _ hi) (fun i hi => pp_s_ne _ _ hi) (fun i hi => pp_s_ne _ _ hi) z1 o1 ((pp_at.o hc10).mpr ⟨r, hr, t_OB.to (u_born (pp_ty ci) hts hin hKn hkC (by rw [hP.size]; exact e1) hty) (fun k hk => ?_)⟩)
    simp only [pp_fv, pp_s_eq]
    rcases pp_fkD (pp_fkOK hr k hk) with ⟨a, b⟩ | ⟨a, b⟩ | ⟨a, ⟨_, b⟩ | ⟨_, b⟩⟩ <;> rw [a, b] <;> rfl
  have := kw H1 locs ls (cells + 1) (slots + r.2.2) h9 (pp_S_push hS z1 o1) hl (by show cells + 1 ≤ cs.1 + 1; omega) (by show slots + _ ≤ cs.2 + _; omega)
  simp only [List.map_cons, pp_v, hP.size] at this
  exact this
theorem pr_newarr {at9 : ArrayType} {t9 i9 N : Nat} {ty : FieldType} {n : Int32} (hd : decode mi.by_ pc = .ok (.newarray at9, 2)) (hty : newarray.typeOf at9 = ty) (hw : Cond.arrayClass ty ∈ pp_T) (hn : n = Int32.ofNat N) (hN : N < 100000) (hc : cs.1 + 1 ≤ R.cells) (hs : cs.2 + N ≤ R.slots)
    (hb8 : componentBytes ty ≤ 8) (hK9 : ∀ U : State, pp_K g U → U.vm.findClass ("[" ++ ty.toString) = some (pp_d g i9)) (hat : ∀ H1 : Heap, H1[pp_ad g w.1.length]? = some (arrV (pp_d g i9) N (fun _ => defaultValue ty)) → pp_at g (pp_nw w (t9, N)).2 w.1.length (t9, N) H1)
    (kk : pp_ATc g R mi Z (cs.1 + 1, cs.2 + N) (pc + 2) L (.ref w.1.length :: st) (pp_nw w (t9, N))) : pp_ATc g R mi Z cs pc L (.int n :: st) w := by
  intro t C H locs ls cells slots hP hS hl h1 h2
  have kw := kk t C
  obtain ⟨hx, hb, hml, hown, hts, hret, hlocks, hname, htab, hK, hE, hb0, htr⟩ := C
  subst hty
  have hcl : n.toNatClampNeg = N := by rw [hn]; exact nI_clamp (by omega)
  have hb8' : N * componentBytes (newarray.typeOf at9) ≤ 536870912 := by
    have := Nat.mul_le_mul_left N hb8
    omega
  refine va_newaK hx hb (hts _ hw) rfl hd rfl (by rw [hn]; exact nI_pos (by omega)) hcl hb8' (by omega) (by omega) rfl fun H1 cA e1 z1 o1 hAr hNm => ?_
  cases Option.some.inj (hNm.symm.trans (hK9 t.s hK))
  have h9 : pp_Rep g (pp_nw w (t9, N)) H1 := hP.push (fun i hi => pp_s_ne _ _ hi) (fun i hi => pp_s_ne _ _ hi) (fun i hi => pp_s_ne _ _ hi) z1 o1 (hat H1 (by rw [hP.size]; exact e1))
  have := kw H1 locs ls (cells + 1) (slots + N) h9 (pp_S_push hS z1 o1) hl (by show cells + 1 ≤ cs.1 + 1; omega) (by show slots + _ ≤ cs.2 + _; omega)
  simp only [List.map_cons, pp_v, hP.size] at this
  exact this
theorem pr_newi {N : Nat} {n : Int32} (hd : decode mi.by_ pc = .ok (.newarray .int, 2)) (hn : n = Int32.ofNat N) (hN : N < 100000) (hc : cs.1 + 1 ≤ R.cells) (hs : cs.2 + N ≤ R.slots) (kk : pp_ATc g R mi Z (cs.1 + 1, cs.2 + N) (pc + 2) L (.ref w.1.length :: st) (pp_nw w (10, N))) : pp_ATc g R mi Z cs pc L (.int n :: st) w :=
  pr_newarr (i9 := 0) (ty := .int) hd rfl (pp_arrs _ (by simp)) hn hN hc hs (by decide) (fun U hK => (hK.2 0 _ rfl).2) (fun H1 h => pp_at.i.mpr (by rw [h]; simp only [pp_nw, pp_s_eq]; rfl)) kk
theorem pr_newb {N : Nat} {n : Int32} (hd : decode mi.by_ pc = .ok (.newarray .byte, 2)) (hn : n = Int32.ofNat N) (hN : N < 100000) (hc : cs.1 + 1 ≤ R.cells) (hs : cs.2 + N ≤ R.slots) (kk : pp_ATc g R mi Z (cs.1 + 1, cs.2 + N) (pc + 2) L (.ref w.1.length :: st) (pp_nw w (11, N))) : pp_ATc g R mi Z cs pc L (.int n :: st) w :=
  pr_newarr (i9 := 1) (ty := .byte) hd rfl (pp_arrs _ (by simp)) hn hN hc hs (by decide) (fun U hK => (hK.2 1 _ rfl).2) (fun H1 h => pp_at.b.mpr (by rw [h]; simp only [pp_nw, pp_s_eq]; rfl)) kk
theorem pr_newz {N : Nat} {n : Int32} (hd : decode mi.by_ pc = .ok (.newarray .boolean, 2)) (hn : n = Int32.ofNat N) (hN : N < 100000) (hc : cs.1 + 1 ≤ R.cells) (hs : cs.2 + N ≤ R.slots) (kk : pp_ATc g R mi Z (cs.1 + 1, cs.2 + N) (pc + 2) L (.ref w.1.length :: st) (pp_nw w (12, N))) : pp_ATc g R mi Z cs pc L (.int n :: st) w :=
  pr_newarr (i9 := 2) (ty := .boolean) hd rfl (pp_arrs _ (by simp)) hn hN hc hs (by decide) (fun U hK => (hK.2 2 _ rfl).2) (fun H1 h => pp_at.z.mpr (by rw [h]; simp only [pp_nw, pp_s_eq]; rfl)) kk
theorem pr_newj {N : Nat} {n : Int32} (hd : decode mi.by_ pc = .ok (.newarray .long, 2)) (hn : n = Int32.ofNat N) (hN : N < 100000) (hc : cs.1 + 1 ≤ R.cells) (hs : cs.2 + N ≤ R.slots) (kk : pp_ATc g R mi Z (cs.1 + 1, cs.2 + N) (pc + 2) L (.ref w.1.length :: st) (pp_nw w (13, N))) : pp_ATc g R mi Z cs pc L (.int n :: st) w :=
  pr_newarr (i9 := 3) (ty := .long) hd rfl (pp_arrs _ (by simp)) hn hN hc hs (by decide) (fun U hK => (hK.2 3 _ rfl).2) (fun H1 h => pp_at.j.mpr (by rw [h]; simp only [pp_nw, pp_s_eq]; rfl)) kk
theorem pr_newq {idx N : Nat} {n : Int32} (hd : decode mi.by_ pc = .ok (.anewarray idx, 3)) (hlk : Cond.classLink mi.y.cls idx RX4 ∈ pp_T) (hn : n = Int32.ofNat N) (hN : N < 100000) (hc : cs.1 + 1 ≤ R.cells) (hs : cs.2 + N ≤ R.slots) (kk : pp_ATc g R mi Z (cs.1 + 1, cs.2 + N) (pc + 3) L (.ref w.1.length :: st) (pp_nw w (14, N))) : pp_ATc g R mi Z cs pc L (.int n :: st) w := by
  intro t C H locs ls cells slots hP hS hl h1 h2
  have kw := kk t C
  obtain ⟨hx, hb, hml, hown, hts, hret, hlocks, hname, htab, hK, hE, hb0, htr⟩ := C
  have hcl : n.toNatClampNeg = N := by rw [hn]; exact nI_clamp (by omega)
  refine W.anew hx hb hown (hts _ hlk) (va_AO.use hE.2.2.2.2.2.2.2.2.2) rfl hd rfl (by rw [hn]; exact nI_pos (by omega)) (by rw [hcl]; omega) (by omega) (by rw [hcl]; omega) fun cA kA comp f1 f2 f3 f4 => ?_
  rw [hcl]
  obtain ⟨kA', comp', g1, g2, g3, g4⟩ := (hK.2 4 _ rfl).2
  cases Option.some.inj (f1.symm.trans g4)
  generalize hH1 : H.push ({ cls := pp_d g 4, slots := Array.replicate N .null, vm := .none } : Cell) = H1
  have z1 : H1.size = H.size + 1 := by rw [← hH1, Array.size_push]
  have e1 : H1[H.size]? = some (arrV (pp_d g 4) N (fun _ => .null)) := by rw [← hH1, Array.getElem?_push_size, ← arrV_new]
  have o1 : ∀ q : Nat, q < H.size → H1[q]? = H[q]? := fun q hq => by rw [← hH1, Array.getElem?_push, if_neg (Nat.ne_of_lt hq)]
  have h9 : pp_Rep g (pp_nw w (14, N)) H1 := hP.push (fun i hi => pp_s_ne _ _ hi) (fun i hi => pp_s_ne _ _ hi) (fun i hi => pp_s_ne _ _ hi) z1 o1 (pp_at.q.mpr (by rw [hP.size, e1]; simp only [pp_nw, pp_s_eq]; rfl))
  have := kw H1 locs ls (cells + 1) (slots + N) h9 (pp_S_push hS z1 o1) hl (by show cells + 1 ≤ cs.1 + 1; omega) (by show slots + _ ≤ cs.2 + _; omega)
  simp only [List.map_cons, pp_v, hP.size] at this
  exact this
theorem pr_objInit {idx a : Nat} (hd : decode mi.by_ pc = .ok (.invokespecial idx, 3)) (hlk : Cond.methodLink mi.y.cls idx Lib.objectInit ∈ pp_T) (h1 : Cond.instanceMethod Lib.objectInit ∈ pp_T) (h2 : Cond.code Lib.objectInit ⟨#[0xb1]⟩ 1 none ∈ pp_T) (hf : 1 ≤ R.frames) (hlo : 40 ≤ R.locals) (hst : st.length ≤ 4)
    (kk : pp_ATc g R mi Z cs (pc + 3) L st w) : pp_ATc g R mi Z cs pc L (.ref a :: st) w := by
  intro t C H locs ls cells slots hP hS hl q1 q2
  have kw := kk t C H locs ls cells slots hP hS hl q1 q2
  refine W.objInit C.1 C.2.1 C.2.2.2.1 (C.2.2.2.2.1 _ hlk) (C.2.2.2.2.1 _ h1) (C.2.2.2.2.1 _ h2) rfl (by rw [C.2.2.1]; exact hl.1) rfl hd hf ?_ kw
  show 2 * 0 + ((st.map (pp_v g)).map fun v => v.category).sum + 12 ≤ R.locals
  have : ∀ (l : List Value), ((l.map (pp_v g)).map fun v => v.category).sum ≤ 2 * l.length := by
    intro l
    induction l with
    | nil => simp
    | cons v l ih =>
      have hv : (pp_v g v).category ≤ 2 := by rcases lv_cat (pp_v g v) with h | h <;> omega
      simp only [List.map_cons, List.sum_cons, List.length_cons]
      omega
  have := this st
  omega
end Make
