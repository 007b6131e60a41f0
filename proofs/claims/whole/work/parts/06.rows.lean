/-! THE ENGINE, 3: a row an instruction -/
def pp_wide : Value → Bool
  | .long _ => true
  | .double _ => true
  | _ => false
theorem pp_wide_eq (v : Value) : (v.category == 2) = pp_wide v := by cases v <;> rfl
def pp_ins (i : Nat) (v : Value) : List (Nat × Value) → List (Nat × Value)
  | [] => [(i, v)]
  | q :: L => if q.1 < i then q :: pp_ins i v L else (i, v) :: q :: L
def pp_put1 (i : Nat) (v : Value) (L : List (Nat × Value)) : List (Nat × Value) := pp_ins i v (L.filter (fun q => !(q.1 == i) && !(q.1 + 1 == i && pp_wide q.2)))
def pp_put2 (i : Nat) (v : Value) (L : List (Nat × Value)) : List (Nat × Value) := pp_ins i v (L.filter (fun q => !(q.1 == i) && (!(q.1 == i + 1) && !(q.1 + 1 == i && pp_wide q.2))))
theorem pp_ins_mem (i : Nat) (v : Value) (L : List (Nat × Value)) : ∀ q ∈ pp_ins i v L, q ∈ (i, v) :: L := by
  induction L with
  | nil => intro q hq; exact hq
  | cons a L ih =>
    intro q hq
    unfold pp_ins at hq
    split at hq
    · rcases List.mem_cons.mp hq with rfl | h
      · simp
      · rcases List.mem_cons.mp (ih q h) with rfl | h
        · simp
        · simp [h]
    · exact hq
theorem pp_put1_has {g : pp_G} {ls : Array Slot} {nL i : Nat} {v : Value} {L : List (Nat × Value)} (h : lv_has ls nL ((i, pp_v g v) :: (pp_ls g L).filter (fun q => !(q.1 == i) && !(q.1 + 1 == i && q.2.category == 2)))) : lv_has ls nL (pp_ls g (pp_put1 i v L)) := by
  refine ⟨h.1, h.2.1, fun q hq => ?_⟩
  obtain ⟨q', h1, rfl⟩ := List.mem_map.mp hq
  rcases List.mem_cons.mp (pp_ins_mem i v _ q' h1) with rfl | h2
  · exact h.2.2 _ List.mem_cons_self
  · obtain ⟨h3, h4⟩ := List.mem_filter.mp h2
    refine h.2.2 _ (List.mem_cons_of_mem _ (List.mem_filter.mpr ⟨List.mem_map.mpr ⟨q', h3, rfl⟩, ?_⟩))
    rw [pp_v_cat, pp_wide_eq]
    exact h4
theorem pp_put2_has {g : pp_G} {ls : Array Slot} {nL i : Nat} {v : Value} {L : List (Nat × Value)} (h : lv_has ls nL ((i, pp_v g v) :: (pp_ls g L).filter (fun q => !(q.1 == i) && (!(q.1 == i + 1) && !(q.1 + 1 == i && q.2.category == 2))))) : lv_has ls nL (pp_ls g (pp_put2 i v L)) := by
  refine ⟨h.1, h.2.1, fun q hq => ?_⟩
  obtain ⟨q', h1, rfl⟩ := List.mem_map.mp hq
  rcases List.mem_cons.mp (pp_ins_mem i v _ q' h1) with rfl | h2
  · exact h.2.2 _ List.mem_cons_self
  · obtain ⟨h3, h4⟩ := List.mem_filter.mp h2
    refine h.2.2 _ (List.mem_cons_of_mem _ (List.mem_filter.mpr ⟨List.mem_map.mpr ⟨q', h3, rfl⟩, ?_⟩))
    rw [pp_v_cat, pp_wide_eq]
    exact h4
theorem pp_look {g : pp_G} {ls : Array Slot} {nL i : Nat} {v : Value} {L : List (Nat × Value)} (hl : lv_has ls nL (pp_ls g L)) (h : L.lookup i = some v) : ls[i]? = some (.val (pp_v g v)) := by
  have hm : (i, v) ∈ L := by
    induction L with
    | nil => cases h
    | cons a L ih =>
      rw [List.lookup_cons] at h
      by_cases e : (i == a.1) = true
      · simp only [e] at h
        cases h
        have : i = a.1 := by simpa using e
        subst this
        simp
      · simp only [Bool.not_eq_true] at e
        simp only [e] at h
        exact List.mem_cons_of_mem _ (ih ⟨hl.1, hl.2.1, fun q hq => hl.2.2 q (List.mem_cons_of_mem _ hq)⟩ h)
  exact hl.2.2 _ (List.mem_map.mpr ⟨(i, v), hm, rfl⟩)
section Rows
variable {g : pp_G} {R : Room} {mi : pp_MI} {Z : pp_CT → State → Prop} {cs : Nat × Nat} {pc : Nat} {L : List (Nat × Value)} {st : List Value} {w : pp_W}
-- constants
theorem pr_iconst {n : Int} {v : Int32} (hd : decode mi.by_ pc = .ok (.iconst n, 1)) (hv : Int32.ofInt n = v) (k : pp_ATc g R mi Z cs (pc + 1) L (.int v :: st) w) : pp_ATc g R mi Z cs pc L st w :=
  fun t C H locs ls cells slots hP hS hl a b => lv_iconst C.1 C.2.1 hd hv (k t C H locs ls cells slots hP hS hl a b)
theorem pr_bipush {n : Int} {v : Int32} (hd : decode mi.by_ pc = .ok (.bipush n, 2)) (hv : (Int8.ofInt n).toInt32 = v) (k : pp_ATc g R mi Z cs (pc + 2) L (.int v :: st) w) : pp_ATc g R mi Z cs pc L st w :=
  fun t C H locs ls cells slots hP hS hl a b => lv_bipush C.1 C.2.1 hd hv (k t C H locs ls cells slots hP hS hl a b)
theorem pr_sipush {n : Int} {v : Int32} (hd : decode mi.by_ pc = .ok (.sipush n, 3)) (hv : (Int16.ofInt n).toInt32 = v) (k : pp_ATc g R mi Z cs (pc + 3) L (.int v :: st) w) : pp_ATc g R mi Z cs pc L st w :=
  fun t C H locs ls cells slots hP hS hl a b => lv_sipush C.1 C.2.1 hd hv (k t C H locs ls cells slots hP hS hl a b)
theorem pr_lconst {n : Fin 2} {v : Int64} (hd : decode mi.by_ pc = .ok (.lconst n, 1)) (hv : Int64.ofNat (n : Nat) = v) (k : pp_ATc g R mi Z cs (pc + 1) L (.long v :: st) w) : pp_ATc g R mi Z cs pc L st w :=
  fun t C H locs ls cells slots hP hS hl a b => lv_lconst C.1 C.2.1 hd hv (k t C H locs ls cells slots hP hS hl a b)
theorem pr_ldc {i : Nat} {v : Int32} (hd : decode mi.by_ pc = .ok (.ldc i, 2)) (hc : Cond.constant mi.y.cls i v ∈ pp_T) (k : pp_ATc g R mi Z cs (pc + 2) L (.int v :: st) w) : pp_ATc g R mi Z cs pc L st w :=
  fun t C H locs ls cells slots hP hS hl a b => lv_ldc C.1 C.2.1 C.2.2.2.1 (C.2.2.2.2.1 _ hc) hd (k t C H locs ls cells slots hP hS hl a b)
theorem pr_ldcw {i : Nat} {v : Int32} (hd : decode mi.by_ pc = .ok (.ldc_w i, 3)) (hc : Cond.constant mi.y.cls i v ∈ pp_T) (k : pp_ATc g R mi Z cs (pc + 3) L (.int v :: st) w) : pp_ATc g R mi Z cs pc L st w :=
  fun t C H locs ls cells slots hP hS hl a b => lv_ldcw C.1 C.2.1 C.2.2.2.1 (C.2.2.2.2.1 _ hc) hd (k t C H locs ls cells slots hP hS hl a b)
theorem pr_ldc2 {i : Nat} {v : Int64} (hd : decode mi.by_ pc = .ok (.ldc2_w i, 3)) (hc : Cond.constantLong mi.y.cls i v ∈ pp_T) (k : pp_ATc g R mi Z cs (pc + 3) L (.long v :: st) w) : pp_ATc g R mi Z cs pc L st w :=
  fun t C H locs ls cells slots hP hS hl a b => lv_ldc2 C.1 C.2.1 C.2.2.2.1 (C.2.2.2.2.1 _ hc) hd (k t C H locs ls cells slots hP hS hl a b)
theorem pr_ldcS {i n : Nat} {tx : String} (hd : decode mi.by_ pc = .ok (.ldc i, 2)) (hc : (mi.y.cls, i, tx, n) ∈ pp_strs) (hn : n < 64) (k : pp_ATc g R mi Z cs (pc + 2) L (.ref n :: st) w) : pp_ATc g R mi Z cs pc L st w :=
  fun t C H locs ls cells slots hP hS hl a b => va_ldcS C.1 C.2.1 C.2.2.2.1 (C.2.2.2.2.2.2.2.2.2.2.1.2.1 _ hc) hd (by
    have := k t C H locs ls cells slots hP hS hl a b
    simp only [List.map_cons, pp_v, pp_ad, if_pos hn] at this
    exact this)
theorem pr_null (hd : decode mi.by_ pc = .ok (.aconst_null, 1)) (k : pp_ATc g R mi Z cs (pc + 1) L (.null :: st) w) : pp_ATc g R mi Z cs pc L st w :=
  fun t C H locs ls cells slots hP hS hl a b => lv_null C.1 C.2.1 hd (k t C H locs ls cells slots hP hS hl a b)
-- loads
theorem pr_iload {i : Nat} {x : Int32} (hd : decode mi.by_ pc = .ok (.iload i, 2)) (h : L.lookup i = some (.int x)) (k : pp_ATc g R mi Z cs (pc + 2) L (.int x :: st) w) : pp_ATc g R mi Z cs pc L st w :=
  fun t C H locs ls cells slots hP hS hl a b => lv_iload C.1 C.2.1 hd (pp_look hl h) (k t C H locs ls cells slots hP hS hl a b)
theorem pr_iload_n {n : Fin 4} {x : Int32} (hd : decode mi.by_ pc = .ok (.iload_n n, 1)) (h : L.lookup n.val = some (.int x)) (k : pp_ATc g R mi Z cs (pc + 1) L (.int x :: st) w) : pp_ATc g R mi Z cs pc L st w :=
  fun t C H locs ls cells slots hP hS hl a b => lv_iload_n C.1 C.2.1 hd rfl (pp_look hl h) (k t C H locs ls cells slots hP hS hl a b)
theorem pr_lload {i : Nat} {x : Int64} (hd : decode mi.by_ pc = .ok (.lload i, 2)) (h : L.lookup i = some (.long x)) (k : pp_ATc g R mi Z cs (pc + 2) L (.long x :: st) w) : pp_ATc g R mi Z cs pc L st w :=
  fun t C H locs ls cells slots hP hS hl a b => lv_lload C.1 C.2.1 hd (pp_look hl h) (k t C H locs ls cells slots hP hS hl a b)
theorem pr_lload_n {n : Fin 4} {x : Int64} (hd : decode mi.by_ pc = .ok (.lload_n n, 1)) (h : L.lookup n.val = some (.long x)) (k : pp_ATc g R mi Z cs (pc + 1) L (.long x :: st) w) : pp_ATc g R mi Z cs pc L st w :=
  fun t C H locs ls cells slots hP hS hl a b => lv_lload_n C.1 C.2.1 hd rfl (pp_look hl h) (k t C H locs ls cells slots hP hS hl a b)
theorem pr_aload {i : Nat} {x : Nat} (hd : decode mi.by_ pc = .ok (.aload i, 2)) (h : L.lookup i = some (.ref x)) (k : pp_ATc g R mi Z cs (pc + 2) L (.ref x :: st) w) : pp_ATc g R mi Z cs pc L st w :=
  fun t C H locs ls cells slots hP hS hl a b => lv_aload C.1 C.2.1 hd (pp_look hl h) (k t C H locs ls cells slots hP hS hl a b)
theorem pr_aload_n {n : Fin 4} {x : Nat} (hd : decode mi.by_ pc = .ok (.aload_n n, 1)) (h : L.lookup n.val = some (.ref x)) (k : pp_ATc g R mi Z cs (pc + 1) L (.ref x :: st) w) : pp_ATc g R mi Z cs pc L st w :=
  fun t C H locs ls cells slots hP hS hl a b => lv_aload_n C.1 C.2.1 hd rfl (pp_look hl h) (k t C H locs ls cells slots hP hS hl a b)
theorem pr_aloadN {i : Nat} (hd : decode mi.by_ pc = .ok (.aload i, 2)) (h : L.lookup i = some .null) (k : pp_ATc g R mi Z cs (pc + 2) L (.null :: st) w) : pp_ATc g R mi Z cs pc L st w :=
  fun t C H locs ls cells slots hP hS hl a b => lv_aloadN C.1 C.2.1 hd (pp_look hl h) (k t C H locs ls cells slots hP hS hl a b)
theorem pr_aload_nN {n : Fin 4} (hd : decode mi.by_ pc = .ok (.aload_n n, 1)) (h : L.lookup n.val = some .null) (k : pp_ATc g R mi Z cs (pc + 1) L (.null :: st) w) : pp_ATc g R mi Z cs pc L st w :=
  fun t C H locs ls cells slots hP hS hl a b => lv_aload_nN C.1 C.2.1 hd rfl (pp_look hl h) (k t C H locs ls cells slots hP hS hl a b)
-- stores
theorem pr_istore {i : Nat} {x : Int32} (hd : decode mi.by_ pc = .ok (.istore i, 2)) (hn : i < mi.nL) (k : pp_ATc g R mi Z cs (pc + 2) (pp_put1 i (.int x) L) st w) : pp_ATc g R mi Z cs pc L (.int x :: st) w :=
  fun t C H locs ls cells slots hP hS hl a b => lv_istore C.1 C.2.1 hd hl hn rfl (fun ls' hl' => k t C H locs ls' cells slots hP hS (pp_put1_has hl') a b)
theorem pr_istore_n {n : Fin 4} {x : Int32} (hd : decode mi.by_ pc = .ok (.istore_n n, 1)) (hn : n.val < mi.nL) (k : pp_ATc g R mi Z cs (pc + 1) (pp_put1 n.val (.int x) L) st w) : pp_ATc g R mi Z cs pc L (.int x :: st) w :=
  fun t C H locs ls cells slots hP hS hl a b => lv_istore_n C.1 C.2.1 hd rfl hl hn rfl (fun ls' hl' => k t C H locs ls' cells slots hP hS (pp_put1_has hl') a b)
theorem pr_lstore {i : Nat} {x : Int64} (hd : decode mi.by_ pc = .ok (.lstore i, 2)) (hn : i + 1 < mi.nL) (k : pp_ATc g R mi Z cs (pc + 2) (pp_put2 i (.long x) L) st w) : pp_ATc g R mi Z cs pc L (.long x :: st) w :=
  fun t C H locs ls cells slots hP hS hl a b => lv_lstore C.1 C.2.1 hd hl hn rfl (fun ls' hl' => k t C H locs ls' cells slots hP hS (pp_put2_has hl') a b)
theorem pr_lstore_n {n : Fin 4} {x : Int64} (hd : decode mi.by_ pc = .ok (.lstore_n n, 1)) (hn : n.val + 1 < mi.nL) (k : pp_ATc g R mi Z cs (pc + 1) (pp_put2 n.val (.long x) L) st w) : pp_ATc g R mi Z cs pc L (.long x :: st) w :=
  fun t C H locs ls cells slots hP hS hl a b => lv_lstore_n C.1 C.2.1 hd rfl hl hn rfl (fun ls' hl' => k t C H locs ls' cells slots hP hS (pp_put2_has hl') a b)
theorem pr_astore {i : Nat} {x : Nat} (hd : decode mi.by_ pc = .ok (.astore i, 2)) (hn : i < mi.nL) (k : pp_ATc g R mi Z cs (pc + 2) (pp_put1 i (.ref x) L) st w) : pp_ATc g R mi Z cs pc L (.ref x :: st) w :=
  fun t C H locs ls cells slots hP hS hl a b => lv_astore C.1 C.2.1 hd hl hn rfl (fun ls' hl' => k t C H locs ls' cells slots hP hS (pp_put1_has (v := .ref x) hl') a b)
theorem pr_astore_n {n : Fin 4} {x : Nat} (hd : decode mi.by_ pc = .ok (.astore_n n, 1)) (hn : n.val < mi.nL) (k : pp_ATc g R mi Z cs (pc + 1) (pp_put1 n.val (.ref x) L) st w) : pp_ATc g R mi Z cs pc L (.ref x :: st) w :=
  fun t C H locs ls cells slots hP hS hl a b => lv_astore_n C.1 C.2.1 hd rfl hl hn rfl (fun ls' hl' => k t C H locs ls' cells slots hP hS (pp_put1_has (v := .ref x) hl') a b)
theorem pr_astoreN {i : Nat} (hd : decode mi.by_ pc = .ok (.astore i, 2)) (hn : i < mi.nL) (k : pp_ATc g R mi Z cs (pc + 2) (pp_put1 i .null L) st w) : pp_ATc g R mi Z cs pc L (.null :: st) w :=
  fun t C H locs ls cells slots hP hS hl a b => lv_astoreN C.1 C.2.1 hd hl hn rfl (fun ls' hl' => k t C H locs ls' cells slots hP hS (pp_put1_has (v := .null) hl') a b)
theorem pr_astore_nN {n : Fin 4} (hd : decode mi.by_ pc = .ok (.astore_n n, 1)) (hn : n.val < mi.nL) (k : pp_ATc g R mi Z cs (pc + 1) (pp_put1 n.val .null L) st w) : pp_ATc g R mi Z cs pc L (.null :: st) w :=
  fun t C H locs ls cells slots hP hS hl a b => lv_astore_nN C.1 C.2.1 hd rfl hl hn rfl (fun ls' hl' => k t C H locs ls' cells slots hP hS (pp_put1_has (v := .null) hl') a b)
theorem pr_iinc {i : Nat} {n : Int} {x c : Int32} (hd : decode mi.by_ pc = .ok (.iinc i n, 3)) (h : L.lookup i = some (.int x)) (hc : Int32.ofInt n = c) (hn : i < mi.nL) (k : pp_ATc g R mi Z cs (pc + 3) (pp_put1 i (.int (x + c)) L) st w) : pp_ATc g R mi Z cs pc L st w :=
  fun t C H locs ls cells slots hP hS hl a b => lv_iinc (lv := (i, .int x) :: pp_ls g L) (k := 0) C.1 C.2.1 hd ⟨hl.1, hl.2.1, fun q hq => by
    rcases List.mem_cons.mp hq with rfl | hq
    · exact pp_look hl h
    · exact hl.2.2 q hq⟩ rfl (by rw [hc]) hn rfl (fun ls' hl' => k t C H locs ls' cells slots hP hS (pp_put1_has (v := .int (x + c)) ⟨hl'.1, hl'.2.1, fun q hq => hl'.2.2 q (by
      rcases List.mem_cons.mp hq with rfl | hq
      · exact List.mem_cons_self
      · refine List.mem_cons_of_mem _ ?_
        obtain ⟨q1, q2⟩ := List.mem_filter.mp hq
        exact List.mem_filter.mpr ⟨List.mem_cons_of_mem _ q1, q2⟩)⟩) a b)
-- arithmetic
theorem pr_iadd {x y : Int32} (hd : decode mi.by_ pc = .ok (.iadd, 1)) (k : pp_ATc g R mi Z cs (pc + 1) L (.int (x + y) :: st) w) : pp_ATc g R mi Z cs pc L (.int y :: .int x :: st) w :=
  fun t C H locs ls cells slots hP hS hl a b => lv_iadd C.1 C.2.1 hd (k t C H locs ls cells slots hP hS hl a b)
theorem pr_isub {x y : Int32} (hd : decode mi.by_ pc = .ok (.isub, 1)) (k : pp_ATc g R mi Z cs (pc + 1) L (.int (x - y) :: st) w) : pp_ATc g R mi Z cs pc L (.int y :: .int x :: st) w :=
  fun t C H locs ls cells slots hP hS hl a b => lv_isub C.1 C.2.1 hd (k t C H locs ls cells slots hP hS hl a b)
theorem pr_imul {x y : Int32} (hd : decode mi.by_ pc = .ok (.imul, 1)) (k : pp_ATc g R mi Z cs (pc + 1) L (.int (x * y) :: st) w) : pp_ATc g R mi Z cs pc L (.int y :: .int x :: st) w :=
  fun t C H locs ls cells slots hP hS hl a b => lv_imul C.1 C.2.1 hd (k t C H locs ls cells slots hP hS hl a b)
theorem pr_iand {x y : Int32} (hd : decode mi.by_ pc = .ok (.iand, 1)) (k : pp_ATc g R mi Z cs (pc + 1) L (.int (x &&& y) :: st) w) : pp_ATc g R mi Z cs pc L (.int y :: .int x :: st) w :=
  fun t C H locs ls cells slots hP hS hl a b => lv_iand C.1 C.2.1 hd (k t C H locs ls cells slots hP hS hl a b)
theorem pr_ior {x y : Int32} (hd : decode mi.by_ pc = .ok (.ior, 1)) (k : pp_ATc g R mi Z cs (pc + 1) L (.int (x ||| y) :: st) w) : pp_ATc g R mi Z cs pc L (.int y :: .int x :: st) w :=
  fun t C H locs ls cells slots hP hS hl a b => lv_ior C.1 C.2.1 hd (k t C H locs ls cells slots hP hS hl a b)
theorem pr_ixor {x y : Int32} (hd : decode mi.by_ pc = .ok (.ixor, 1)) (k : pp_ATc g R mi Z cs (pc + 1) L (.int (x ^^^ y) :: st) w) : pp_ATc g R mi Z cs pc L (.int y :: .int x :: st) w :=
  fun t C H locs ls cells slots hP hS hl a b => lv_ixor C.1 C.2.1 hd (k t C H locs ls cells slots hP hS hl a b)
theorem pr_ishl {x y : Int32} (hd : decode mi.by_ pc = .ok (.ishl, 1)) (k : pp_ATc g R mi Z cs (pc + 1) L (.int (x <<< (y &&& 31)) :: st) w) : pp_ATc g R mi Z cs pc L (.int y :: .int x :: st) w :=
  fun t C H locs ls cells slots hP hS hl a b => lv_ishl C.1 C.2.1 hd (k t C H locs ls cells slots hP hS hl a b)
theorem pr_ishr {x y : Int32} (hd : decode mi.by_ pc = .ok (.ishr, 1)) (k : pp_ATc g R mi Z cs (pc + 1) L (.int (x >>> (y &&& 31)) :: st) w) : pp_ATc g R mi Z cs pc L (.int y :: .int x :: st) w :=
  fun t C H locs ls cells slots hP hS hl a b => lv_ishr C.1 C.2.1 hd (k t C H locs ls cells slots hP hS hl a b)
theorem pr_iushr {x y : Int32} (hd : decode mi.by_ pc = .ok (.iushr, 1)) (k : pp_ATc g R mi Z cs (pc + 1) L (.int (x.toUInt32 >>> (y.toUInt32 &&& Int32.toUInt32 31)).toInt32 :: st) w) : pp_ATc g R mi Z cs pc L (.int y :: .int x :: st) w :=
  fun t C H locs ls cells slots hP hS hl a b => lv_iushr C.1 C.2.1 hd rfl (k t C H locs ls cells slots hP hS hl a b)
theorem pr_idiv {x y : Int32} (hd : decode mi.by_ pc = .ok (.idiv, 1)) (hy : ¬ y = 0) (k : pp_ATc g R mi Z cs (pc + 1) L (.int (x / y) :: st) w) : pp_ATc g R mi Z cs pc L (.int y :: .int x :: st) w :=
  fun t C H locs ls cells slots hP hS hl a b => lv_idiv C.1 C.2.1 hd hy (k t C H locs ls cells slots hP hS hl a b)
theorem pr_ladd {x y : Int64} (hd : decode mi.by_ pc = .ok (.ladd, 1)) (k : pp_ATc g R mi Z cs (pc + 1) L (.long (x + y) :: st) w) : pp_ATc g R mi Z cs pc L (.long y :: .long x :: st) w :=
  fun t C H locs ls cells slots hP hS hl a b => lv_ladd C.1 C.2.1 hd (k t C H locs ls cells slots hP hS hl a b)
theorem pr_lsub {x y : Int64} (hd : decode mi.by_ pc = .ok (.lsub, 1)) (k : pp_ATc g R mi Z cs (pc + 1) L (.long (x - y) :: st) w) : pp_ATc g R mi Z cs pc L (.long y :: .long x :: st) w :=
  fun t C H locs ls cells slots hP hS hl a b => lv_lsub C.1 C.2.1 hd (k t C H locs ls cells slots hP hS hl a b)
theorem pr_lmul {x y : Int64} (hd : decode mi.by_ pc = .ok (.lmul, 1)) (k : pp_ATc g R mi Z cs (pc + 1) L (.long (x * y) :: st) w) : pp_ATc g R mi Z cs pc L (.long y :: .long x :: st) w :=
  fun t C H locs ls cells slots hP hS hl a b => lv_lmul C.1 C.2.1 hd (k t C H locs ls cells slots hP hS hl a b)
theorem pr_land {x y : Int64} (hd : decode mi.by_ pc = .ok (.land, 1)) (k : pp_ATc g R mi Z cs (pc + 1) L (.long (x &&& y) :: st) w) : pp_ATc g R mi Z cs pc L (.long y :: .long x :: st) w :=
  fun t C H locs ls cells slots hP hS hl a b => lv_land C.1 C.2.1 hd (k t C H locs ls cells slots hP hS hl a b)
theorem pr_lor {x y : Int64} (hd : decode mi.by_ pc = .ok (.lor, 1)) (k : pp_ATc g R mi Z cs (pc + 1) L (.long (x ||| y) :: st) w) : pp_ATc g R mi Z cs pc L (.long y :: .long x :: st) w :=
  fun t C H locs ls cells slots hP hS hl a b => lv_lor C.1 C.2.1 hd (k t C H locs ls cells slots hP hS hl a b)
theorem pr_lxor {x y : Int64} (hd : decode mi.by_ pc = .ok (.lxor, 1)) (k : pp_ATc g R mi Z cs (pc + 1) L (.long (x ^^^ y) :: st) w) : pp_ATc g R mi Z cs pc L (.long y :: .long x :: st) w :=
  fun t C H locs ls cells slots hP hS hl a b => lv_lxor C.1 C.2.1 hd (k t C H locs ls cells slots hP hS hl a b)
theorem pr_ldiv {x y : Int64} (hd : decode mi.by_ pc = .ok (.ldiv, 1)) (hy : ¬ y = 0) (k : pp_ATc g R mi Z cs (pc + 1) L (.long (x / y) :: st) w) : pp_ATc g R mi Z cs pc L (.long y :: .long x :: st) w :=
  fun t C H locs ls cells slots hP hS hl a b => lv_ldiv C.1 C.2.1 hd hy (k t C H locs ls cells slots hP hS hl a b)
theorem pr_lrem {x y : Int64} (hd : decode mi.by_ pc = .ok (.lrem, 1)) (hy : ¬ y = 0) (k : pp_ATc g R mi Z cs (pc + 1) L (.long (x - x / y * y) :: st) w) : pp_ATc g R mi Z cs pc L (.long y :: .long x :: st) w :=
  fun t C H locs ls cells slots hP hS hl a b => lv_lrem C.1 C.2.1 hd hy (k t C H locs ls cells slots hP hS hl a b)
theorem pr_lcmp {x y : Int64} (hd : decode mi.by_ pc = .ok (.lcmp, 1)) (k : pp_ATc g R mi Z cs (pc + 1) L (.int (lg_cmp x y) :: st) w) : pp_ATc g R mi Z cs pc L (.long y :: .long x :: st) w :=
  fun t C H locs ls cells slots hP hS hl a b => W.lcmp C.1 C.2.1 hd (k t C H locs ls cells slots hP hS hl a b)
theorem pr_lshl {x : Int64} {y : Int32} (hd : decode mi.by_ pc = .ok (.lshl, 1)) (k : pp_ATc g R mi Z cs (pc + 1) L (.long (x <<< (y.toInt64 &&& 63)) :: st) w) : pp_ATc g R mi Z cs pc L (.int y :: .long x :: st) w :=
  fun t C H locs ls cells slots hP hS hl a b => lv_lshl C.1 C.2.1 hd rfl (k t C H locs ls cells slots hP hS hl a b)
theorem pr_i2l {x : Int32} (hd : decode mi.by_ pc = .ok (.i2l, 1)) (k : pp_ATc g R mi Z cs (pc + 1) L (.long x.toInt64 :: st) w) : pp_ATc g R mi Z cs pc L (.int x :: st) w :=
  fun t C H locs ls cells slots hP hS hl a b => lv_i2l C.1 C.2.1 hd rfl (k t C H locs ls cells slots hP hS hl a b)
theorem pr_i2b {x : Int32} (hd : decode mi.by_ pc = .ok (.i2b, 1)) (k : pp_ATc g R mi Z cs (pc + 1) L (.int x.toInt8.toInt32 :: st) w) : pp_ATc g R mi Z cs pc L (.int x :: st) w :=
  fun t C H locs ls cells slots hP hS hl a b => lv_i2b C.1 C.2.1 hd rfl (k t C H locs ls cells slots hP hS hl a b)
theorem pr_l2i {x : Int64} (hd : decode mi.by_ pc = .ok (.l2i, 1)) (k : pp_ATc g R mi Z cs (pc + 1) L (.int x.toInt32 :: st) w) : pp_ATc g R mi Z cs pc L (.long x :: st) w :=
  fun t C H locs ls cells slots hP hS hl a b => lv_l2i C.1 C.2.1 hd rfl (k t C H locs ls cells slots hP hS hl a b)
-- the stack
theorem pr_dup {v : Value} (hd : decode mi.by_ pc = .ok (.dup, 1)) (hv : v.category = 1) (k : pp_ATc g R mi Z cs (pc + 1) L (v :: v :: st) w) : pp_ATc g R mi Z cs pc L (v :: st) w :=
  fun t C H locs ls cells slots hP hS hl a b => lv_dup C.1 C.2.1 hd ((pp_v_cat g v).trans hv) (k t C H locs ls cells slots hP hS hl a b)
theorem pr_pop {v : Value} (hd : decode mi.by_ pc = .ok (.pop, 1)) (hv : v.category = 1) (k : pp_ATc g R mi Z cs (pc + 1) L (st) w) : pp_ATc g R mi Z cs pc L (v :: st) w :=
  fun t C H locs ls cells slots hP hS hl a b => lv_pop C.1 C.2.1 hd ((pp_v_cat g v).trans hv) (k t C H locs ls cells slots hP hS hl a b)
theorem pr_pop2 {v : Value} (hd : decode mi.by_ pc = .ok (.pop2, 1)) (hv : v.category = 2) (k : pp_ATc g R mi Z cs (pc + 1) L (st) w) : pp_ATc g R mi Z cs pc L (v :: st) w :=
  fun t C H locs ls cells slots hP hS hl a b => lv_pop2_2 C.1 C.2.1 hd ((pp_v_cat g v).trans hv) (k t C H locs ls cells slots hP hS hl a b)
theorem pr_dup2 {v u : Value} (hd : decode mi.by_ pc = .ok (.dup2, 1)) (hv : v.category = 1) (hu : u.category = 1) (k : pp_ATc g R mi Z cs (pc + 1) L (v :: u :: v :: u :: st) w) : pp_ATc g R mi Z cs pc L (v :: u :: st) w :=
  fun t C H locs ls cells slots hP hS hl a b => lv_dup2_11 C.1 C.2.1 hd ((pp_v_cat g v).trans hv) ((pp_v_cat g u).trans hu) (k t C H locs ls cells slots hP hS hl a b)
-- branches
theorem pr_if_eq {x : Int32} {off : Int} {tgt : Nat} (hd : decode mi.by_ pc = .ok (.ifCond .eq off, 3)) (ht : (pc : Int) + off = (tgt : Int)) (k1 : x = 0 → pp_ATc g R mi Z cs tgt L st w) (k2 : ¬ x = 0 → pp_ATc g R mi Z cs (pc + 3) L st w) : pp_ATc g R mi Z cs pc L (.int x :: st) w :=
  fun t C H locs ls cells slots hP hS hl a b => lv_if_eq C.1 C.2.1 hd ht (fun q => k1 q t C H locs ls cells slots hP hS hl a b) (fun q => k2 q t C H locs ls cells slots hP hS hl a b)
theorem pr_icmp_eq {x y : Int32} {off : Int} {tgt : Nat} (hd : decode mi.by_ pc = .ok (.if_icmp .eq off, 3)) (ht : (pc : Int) + off = (tgt : Int)) (k1 : x = y → pp_ATc g R mi Z cs tgt L st w) (k2 : ¬ x = y → pp_ATc g R mi Z cs (pc + 3) L st w) : pp_ATc g R mi Z cs pc L (.int y :: .int x :: st) w :=
  fun t C H locs ls cells slots hP hS hl a b => lv_icmp_eq C.1 C.2.1 hd ht (fun q => k1 q t C H locs ls cells slots hP hS hl a b) (fun q => k2 q t C H locs ls cells slots hP hS hl a b)
theorem pr_if_ne {x : Int32} {off : Int} {tgt : Nat} (hd : decode mi.by_ pc = .ok (.ifCond .ne off, 3)) (ht : (pc : Int) + off = (tgt : Int)) (k1 : ¬ x = 0 → pp_ATc g R mi Z cs tgt L st w) (k2 : x = 0 → pp_ATc g R mi Z cs (pc + 3) L st w) : pp_ATc g R mi Z cs pc L (.int x :: st) w :=
  fun t C H locs ls cells slots hP hS hl a b => lv_if_ne C.1 C.2.1 hd ht (fun q => k1 q t C H locs ls cells slots hP hS hl a b) (fun q => k2 q t C H locs ls cells slots hP hS hl a b)
theorem pr_icmp_ne {x y : Int32} {off : Int} {tgt : Nat} (hd : decode mi.by_ pc = .ok (.if_icmp .ne off, 3)) (ht : (pc : Int) + off = (tgt : Int)) (k1 : ¬ x = y → pp_ATc g R mi Z cs tgt L st w) (k2 : x = y → pp_ATc g R mi Z cs (pc + 3) L st w) : pp_ATc g R mi Z cs pc L (.int y :: .int x :: st) w :=
  fun t C H locs ls cells slots hP hS hl a b => lv_icmp_ne C.1 C.2.1 hd ht (fun q => k1 q t C H locs ls cells slots hP hS hl a b) (fun q => k2 q t C H locs ls cells slots hP hS hl a b)
theorem pr_if_lt {x : Int32} {off : Int} {tgt : Nat} (hd : decode mi.by_ pc = .ok (.ifCond .lt off, 3)) (ht : (pc : Int) + off = (tgt : Int)) (k1 : x < 0 → pp_ATc g R mi Z cs tgt L st w) (k2 : ¬ x < 0 → pp_ATc g R mi Z cs (pc + 3) L st w) : pp_ATc g R mi Z cs pc L (.int x :: st) w :=
  fun t C H locs ls cells slots hP hS hl a b => lv_if_lt C.1 C.2.1 hd ht (fun q => k1 q t C H locs ls cells slots hP hS hl a b) (fun q => k2 q t C H locs ls cells slots hP hS hl a b)
theorem pr_icmp_lt {x y : Int32} {off : Int} {tgt : Nat} (hd : decode mi.by_ pc = .ok (.if_icmp .lt off, 3)) (ht : (pc : Int) + off = (tgt : Int)) (k1 : x < y → pp_ATc g R mi Z cs tgt L st w) (k2 : ¬ x < y → pp_ATc g R mi Z cs (pc + 3) L st w) : pp_ATc g R mi Z cs pc L (.int y :: .int x :: st) w :=
  fun t C H locs ls cells slots hP hS hl a b => lv_icmp_lt C.1 C.2.1 hd ht (fun q => k1 q t C H locs ls cells slots hP hS hl a b) (fun q => k2 q t C H locs ls cells slots hP hS hl a b)
theorem pr_if_ge {x : Int32} {off : Int} {tgt : Nat} (hd : decode mi.by_ pc = .ok (.ifCond .ge off, 3)) (ht : (pc : Int) + off = (tgt : Int)) (k1 : 0 ≤ x → pp_ATc g R mi Z cs tgt L st w) (k2 : ¬ 0 ≤ x → pp_ATc g R mi Z cs (pc + 3) L st w) : pp_ATc g R mi Z cs pc L (.int x :: st) w :=
  fun t C H locs ls cells slots hP hS hl a b => lv_if_ge C.1 C.2.1 hd ht (fun q => k1 q t C H locs ls cells slots hP hS hl a b) (fun q => k2 q t C H locs ls cells slots hP hS hl a b)
theorem pr_icmp_ge {x y : Int32} {off : Int} {tgt : Nat} (hd : decode mi.by_ pc = .ok (.if_icmp .ge off, 3)) (ht : (pc : Int) + off = (tgt : Int)) (k1 : y ≤ x → pp_ATc g R mi Z cs tgt L st w) (k2 : ¬ y ≤ x → pp_ATc g R mi Z cs (pc + 3) L st w) : pp_ATc g R mi Z cs pc L (.int y :: .int x :: st) w :=
  fun t C H locs ls cells slots hP hS hl a b => lv_icmp_ge C.1 C.2.1 hd ht (fun q => k1 q t C H locs ls cells slots hP hS hl a b) (fun q => k2 q t C H locs ls cells slots hP hS hl a b)
theorem pr_if_gt {x : Int32} {off : Int} {tgt : Nat} (hd : decode mi.by_ pc = .ok (.ifCond .gt off, 3)) (ht : (pc : Int) + off = (tgt : Int)) (k1 : 0 < x → pp_ATc g R mi Z cs tgt L st w) (k2 : ¬ 0 < x → pp_ATc g R mi Z cs (pc + 3) L st w) : pp_ATc g R mi Z cs pc L (.int x :: st) w :=
  fun t C H locs ls cells slots hP hS hl a b => lv_if_gt C.1 C.2.1 hd ht (fun q => k1 q t C H locs ls cells slots hP hS hl a b) (fun q => k2 q t C H locs ls cells slots hP hS hl a b)
theorem pr_icmp_gt {x y : Int32} {off : Int} {tgt : Nat} (hd : decode mi.by_ pc = .ok (.if_icmp .gt off, 3)) (ht : (pc : Int) + off = (tgt : Int)) (k1 : y < x → pp_ATc g R mi Z cs tgt L st w) (k2 : ¬ y < x → pp_ATc g R mi Z cs (pc + 3) L st w) : pp_ATc g R mi Z cs pc L (.int y :: .int x :: st) w :=
  fun t C H locs ls cells slots hP hS hl a b => lv_icmp_gt C.1 C.2.1 hd ht (fun q => k1 q t C H locs ls cells slots hP hS hl a b) (fun q => k2 q t C H locs ls cells slots hP hS hl a b)
theorem pr_if_le {x : Int32} {off : Int} {tgt : Nat} (hd : decode mi.by_ pc = .ok (.ifCond .le off, 3)) (ht : (pc : Int) + off = (tgt : Int)) (k1 : x ≤ 0 → pp_ATc g R mi Z cs tgt L st w) (k2 : ¬ x ≤ 0 → pp_ATc g R mi Z cs (pc + 3) L st w) : pp_ATc g R mi Z cs pc L (.int x :: st) w :=
  fun t C H locs ls cells slots hP hS hl a b => lv_if_le C.1 C.2.1 hd ht (fun q => k1 q t C H locs ls cells slots hP hS hl a b) (fun q => k2 q t C H locs ls cells slots hP hS hl a b)
theorem pr_icmp_le {x y : Int32} {off : Int} {tgt : Nat} (hd : decode mi.by_ pc = .ok (.if_icmp .le off, 3)) (ht : (pc : Int) + off = (tgt : Int)) (k1 : x ≤ y → pp_ATc g R mi Z cs tgt L st w) (k2 : ¬ x ≤ y → pp_ATc g R mi Z cs (pc + 3) L st w) : pp_ATc g R mi Z cs pc L (.int y :: .int x :: st) w :=
  fun t C H locs ls cells slots hP hS hl a b => lv_icmp_le C.1 C.2.1 hd ht (fun q => k1 q t C H locs ls cells slots hP hS hl a b) (fun q => k2 q t C H locs ls cells slots hP hS hl a b)
theorem pr_goto {off : Int} {tgt : Nat} (hd : decode mi.by_ pc = .ok (.goto off, 3)) (ht : (pc : Int) + off = (tgt : Int)) (k : pp_ATc g R mi Z cs tgt L st w) : pp_ATc g R mi Z cs pc L st w :=
  fun t C H locs ls cells slots hP hS hl a b => lv_goto C.1 C.2.1 hd ht (k t C H locs ls cells slots hP hS hl a b)
theorem pr_ifnull {x : Nat} {off : Int} (hd : decode mi.by_ pc = .ok (.ifnull off, 3)) (k : pp_ATc g R mi Z cs (pc + 3) L st w) : pp_ATc g R mi Z cs pc L (.ref x :: st) w :=
  fun t C H locs ls cells slots hP hS hl a b => lv_ifnull C.1 C.2.1 hd (k t C H locs ls cells slots hP hS hl a b)
theorem pr_ifnullN {off : Int} {tgt : Nat} (hd : decode mi.by_ pc = .ok (.ifnull off, 3)) (ht : (pc : Int) + off = (tgt : Int)) (k : pp_ATc g R mi Z cs tgt L st w) : pp_ATc g R mi Z cs pc L (.null :: st) w :=
  fun t C H locs ls cells slots hP hS hl a b => lv_ifnullN C.1 C.2.1 hd ht (k t C H locs ls cells slots hP hS hl a b)
theorem pr_ifnonnull {x : Nat} {off : Int} {tgt : Nat} (hd : decode mi.by_ pc = .ok (.ifnonnull off, 3)) (ht : (pc : Int) + off = (tgt : Int)) (k : pp_ATc g R mi Z cs tgt L st w) : pp_ATc g R mi Z cs pc L (.ref x :: st) w :=
  fun t C H locs ls cells slots hP hS hl a b => lv_ifnonnull C.1 C.2.1 hd ht (k t C H locs ls cells slots hP hS hl a b)
theorem pr_ifnonnullN {off : Int} (hd : decode mi.by_ pc = .ok (.ifnonnull off, 3)) (k : pp_ATc g R mi Z cs (pc + 3) L st w) : pp_ATc g R mi Z cs pc L (.null :: st) w :=
  fun t C H locs ls cells slots hP hS hl a b => lv_ifnonnullN C.1 C.2.1 hd (k t C H locs ls cells slots hP hS hl a b)
theorem pr_tableOut {dflt lo hi : Int} {offs : Array Int} {len : Nat} {x : Int32} {tgt : Nat} (hd : decode mi.by_ pc = .ok (.tableswitch dflt lo hi offs, len)) (h : x.toInt < lo ∨ hi < x.toInt) (ht : (pc : Int) + dflt = (tgt : Int)) (k : pp_ATc g R mi Z cs tgt L st w) : pp_ATc g R mi Z cs pc L (.int x :: st) w :=
  fun t C H locs ls cells slots hP hS hl a b => lv_tableOut C.1 C.2.1 hd h ht (k t C H locs ls cells slots hP hS hl a b)
theorem pr_tableIn {dflt lo hi : Int} {offs : Array Int} {len : Nat} {x : Int32} {off : Int} {tgt : Nat} (hd : decode mi.by_ pc = .ok (.tableswitch dflt lo hi offs, len)) (h1 : ¬ x.toInt < lo) (h2 : ¬ hi < x.toInt) (ho : offs[(x.toInt - lo).toNat]? = some off) (ht : (pc : Int) + off = (tgt : Int)) (k : pp_ATc g R mi Z cs tgt L st w) : pp_ATc g R mi Z cs pc L (.int x :: st) w :=
  fun t C H locs ls cells slots hP hS hl a b => lv_tableIn C.1 C.2.1 hd h1 h2 ho ht (k t C H locs ls cells slots hP hS hl a b)
end Rows
