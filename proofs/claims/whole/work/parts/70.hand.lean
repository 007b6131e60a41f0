/-! HANDLERS: a wrapper catches what a call throws -/
def pp_hd (ct : Nat) : String := if ct = 13 then "java/lang/IllegalArgumentException" else if ct = 22 then "java/lang/IndexOutOfBoundsException" else "java/lang/IllegalStateException"
def pp_hl : List Nat := [13, 22, 69]
theorem pp_hlA : ∀ q ∈ pp_hl, ∀ w ∈ [Cond.classLink RL q (pp_hd q), Cond.castable (pp_hd q) (pp_hd q)], w ∈ pp_T := by
  have : (pp_hl.flatMap (fun q => [Cond.classLink RL q (pp_hd q), Cond.castable (pp_hd q) (pp_hd q)])).all (fun w => decide (w ∈ lw_tbl) && pp_ok w) = true := by decide +kernel
  intro q hq w hw
  exact pp_sub this w (List.mem_flatMap.mpr ⟨q, hq, hw⟩)
theorem pp_hlB : ∀ a ∈ pp_hl, ∀ b ∈ pp_hl, pp_hd b ≠ pp_hd a → (pp_hd a, pp_hd b) ∈ pp_ncs := by decide +kernel
/-- a handler: the thing is put by, a number is returned -/
def pp_hb (mi : pp_MI) (pc : Nat) (n : Int32) : Bool := match decode mi.by_ pc with
  | .ok (.astore_n k, 1) => decide (k.val < mi.nL) && (match decode mi.by_ (pc + 1) with
    | .ok (.iconst m, 1) => decide (Int32.ofInt m = n) && decide (decode mi.by_ (pc + 2) = .ok (.ireturn, 1))
    | _ => false)
  | .ok (.astore k, 2) => decide (k < mi.nL) && (match decode mi.by_ (pc + 2) with
    | .ok (.iconst m, 1) => decide (Int32.ofInt m = n) && decide (decode mi.by_ (pc + 3) = .ok (.ireturn, 1))
    | _ => false)
  | _ => false
def pp_hc (mi : pp_MI) : List (Nat × Nat × Nat × Nat) → List (String × Int32) → Bool
  | [], [] => true
  | x :: hh, y :: hx => decide (x.2.2.2 ∈ pp_hl) && decide (pp_hd x.2.2.2 = y.1) && pp_hb mi x.2.2.1 y.2 && pp_hc mi hh hx
  | _, _ => false
section Hand
variable {g : pp_G} {R : Room} {mi : pp_MI} {P : pp_R → pp_W → Prop} {cs : Nat × Nat} {pc h : Nat} {L : List (Nat × Value)} {st : List Value} {w : pp_W}
theorem pp_hsplit {E : String} {n : Int32} : ∀ (hh : List (Nat × Nat × Nat × Nat)) (hx : List (String × Int32)), pp_hc mi hh hx = true → hx.lookup E = some n →
    ∃ pre x suf, hh = pre ++ x :: suf ∧ (∀ z ∈ pre, z.2.2.2 ∈ pp_hl ∧ pp_hd z.2.2.2 ≠ E) ∧ x.2.2.2 ∈ pp_hl ∧ pp_hd x.2.2.2 = E ∧ pp_hb mi x.2.2.1 n = true := by
  intro hh
  induction hh with
  | nil =>
    intro hx hc hl
    cases hx with
    | nil => cases hl
    | cons y hx => cases hc
  | cons x hh ih =>
    intro hx hc hl
    cases hx with
    | nil => cases hc
    | cons y hx =>
      simp only [pp_hc, Bool.and_eq_true, decide_eq_true_eq] at hc
      obtain ⟨⟨⟨c1, c2⟩, c3⟩, c4⟩ := hc
      by_cases he : E = y.1
      · rw [List.lookup_cons, beq_iff_eq.mpr he] at hl
        cases hl
        exact ⟨[], x, hh, rfl, (by intro z hz; cases hz), c1, c2.trans he.symm, c3⟩
      · rw [List.lookup_cons, beq_eq_false_iff_ne.mpr he] at hl
        obtain ⟨pre, x', suf, e1, e2, e3, e4, e5⟩ := ih hx c4 hl
        refine ⟨x :: pre, x', suf, by rw [e1]; rfl, fun z hz => ?_, e3, e4, e5⟩
        rcases List.mem_cons.mp hz with rfl | hz
        · exact ⟨c1, fun q => he (q.symm.trans c2)⟩
        · exact e2 z hz
theorem pe_catch {E : String} {n : Int32} (hown : mi.y.cls = RL) (hr : mi.ret = some .int) (hck : pp_hc mi mi.hh mi.hx = true) (hhok : pp_hok mi pc = true) (hc : cs.1 ≤ mi.mc) (hs : cs.2 ≤ mi.ms) (hn : mi.hx.lookup E = some n) (hP : P (.inl (some (.int n))) w) : pp_XT g R mi (pp_Z g mi P) cs pc L st w E := by
  intro t C H locs ls cells slots hB hS hl h1 h2 q ce hce hv hcl
  obtain ⟨pre, x, suf, e1, e2, e3, e4, e5⟩ := pp_hsplit _ _ hck hn
  have htab : t.c.exceptionTable.toList = pre.map (fun q => (⟨q.1, q.2.1, q.2.2.1, q.2.2.2⟩ : ExceptionTableEntry)) ++ ⟨x.1, x.2.1, x.2.2.1, x.2.2.2⟩ :: suf.map (fun q => (⟨q.1, q.2.1, q.2.2.1, q.2.2.2⟩ : ExceptionTableEntry)) := by
    rw [C.2.2.2.2.2.2.2.2.1, e1, tableOf, List.map_append, List.map_cons]
  have hcov : covers (⟨x.1, x.2.1, x.2.2.1, x.2.2.2⟩ : ExceptionTableEntry) pc = true := by
    have := List.all_eq_true.mp hhok x (by rw [e1]; exact List.mem_append_right _ List.mem_cons_self)
    simp only [Bool.and_eq_true] at this
    have h3 := Nat.le_of_ble_eq_true this.1
    have h4 := pp_blt this.2
    simp only [covers, Bool.and_eq_true, decide_eq_true_eq]
    exact ⟨h3, h4⟩
  have hne : ∀ a ∈ pp_hl, a ≠ 0 := by decide
  have hw3 := pp_hlA _ e3
  refine vx_catch (own := RL) (name := E) (E := E) (by rw [← hown]; exact C.2.2.2.1) _ _ _ htab ?_ hcov (hne _ e3) ?_ ?_ hce hv hcl ?_
  · intro z hz
    obtain ⟨z', hz', rfl⟩ := List.mem_map.mp hz
    obtain ⟨q1, q2⟩ := e2 z' hz'
    refine Or.inr ⟨hne _ q1, pp_hd z'.2.2.2, C.2.2.2.2.1 _ (pp_hlA _ q1 _ List.mem_cons_self), ?_⟩
    have := pp_hlB _ e3 _ q1 (by rw [e4]; exact q2)
    rw [e4] at this
    exact C.2.2.2.2.2.2.2.2.2.2.1.2.2.2.2.2.1 _ this
  · have := C.2.2.2.2.1 _ (hw3 _ List.mem_cons_self)
    rw [e4] at this
    exact this
  · have := C.2.2.2.2.1 _ (hw3 _ (List.mem_cons_of_mem _ List.mem_cons_self))
    rw [e4] at this
    exact this
  · have hl0 : lv_has ls mi.nL [] := ⟨hl.1, hl.2.1, fun q hq => nomatch hq⟩
    have hend : ∀ (k : Nat) (ls' : Array Slot) (m : Int), lv_has ls' mi.nL [] → decode mi.by_ k = .ok (.iconst m, 1) → Int32.ofInt m = n → decode mi.by_ (k + 1) = .ok (.ireturn, 1) → pp_Wt g R t H locs cells slots (pp_Z g mi P t) (F0 t.m k ls' []) := by
      intro k ls' m hl' d1 d2 d3
      exact pr_iconst (L := []) (st := []) (cs := cs) d1 d2 (pe_iret d3 hr rfl hc hs hP) t C H locs ls' cells slots hB hS hl' h1 h2
    simp only [pp_hb] at e5
    split at e5
    · rename_i k hd
      simp only [Bool.and_eq_true, decide_eq_true_eq] at e5
      obtain ⟨f1, f2⟩ := e5
      split at f2
      · rename_i m hd2
        simp only [Bool.and_eq_true, decide_eq_true_eq] at f2
        exact lv_astore_n C.1 C.2.1 hd rfl hl0 f1 rfl (fun ls' hl' => hend _ ls' m ⟨hl'.1, hl'.2.1, fun q hq => nomatch hq⟩ hd2 f2.1 f2.2)
      · cases f2
    · rename_i k hd
      simp only [Bool.and_eq_true, decide_eq_true_eq] at e5
      obtain ⟨f1, f2⟩ := e5
      split at f2
      · rename_i m hd2
        simp only [Bool.and_eq_true, decide_eq_true_eq] at f2
        exact lv_astore C.1 C.2.1 hd hl0 f1 rfl (fun ls' hl' => hend _ ls' m ⟨hl'.1, hl'.2.1, fun q hq => nomatch hq⟩ hd2 f2.1 f2.2)
      · cases f2
    · cases e5
/-- what a wrapper owes for an exception -/
def pp_Y (mi : pp_MI) (P : pp_R → pp_W → Prop) : String → pp_W → Prop := fun E w => ∃ n, mi.hx.lookup E = some n ∧ P (.inl (some (.int n))) w
theorem pp_endH (hown : mi.y.cls = RL) (hr : mi.ret = some .int) (hck : pp_hc mi mi.hh mi.hx = true) : pp_End g R mi (pp_Z g mi P) (0, 0) P (pp_Y mi P) :=
  ⟨fun pc L w hd hr hP => pe_vret hd hr (by show 0 + mi.mc ≤ _; omega) (by show 0 + mi.ms ≤ _; omega) hP, fun pc L w x ty hd hr hn hP => pe_iret hd hr hn (by show 0 + mi.mc ≤ _; omega) (by show 0 + mi.ms ≤ _; omega) hP, fun pc L w x hd hr hP => pe_lret hd hr (by show 0 + mi.mc ≤ _; omega) (by show 0 + mi.ms ≤ _; omega) hP,
    fun pc L st w E hh hP => by obtain ⟨n, h1, h2⟩ := hP; exact pe_catch hown hr hck hh (by show 0 + mi.mc ≤ _; omega) (by show 0 + mi.ms ≤ _; omega) h1 h2⟩
theorem pp_goH {e pc : Nat} {seg : pp_Seg} {L : List (Nat × Value)} {st : List Value} {w : pp_W} (hH : mi.y.cls = RL ∧ mi.ret = some .int ∧ pp_hc mi mi.hh mi.hx = true) (hc : pp_chk mi e pc (pp_cnt mi pc) seg = true) (hw : pp_wp g h mi.ret P (pp_Y mi P) (pp_N g h mi P) e seg L st w) : pp_N g h mi P pc L st w :=
  pp_run (R := pp_room (h + 1) mi) (off := (0, 0)) (X := pp_N g h mi P) (fun _ _ _ _ hx => hx) (by show 0 + mi.mc ≤ mi.mc; omega) (by show 0 + mi.ms ≤ mi.ms; omega) ⟨by show h + 9 ≤ h + 1 + 8; omega, by show 40 * h + 240 ≤ 40 * (h + 1) + 200; omega⟩ (pp_endH hH.1 hH.2.1 hH.2.2) pp_endT seg pc _ L st w hc hw
theorem pp_enterH {av : List Value} (hok : pp_MIok mi) (hh : mi.hh ≠ []) (hl : (lg_sl av).length ≤ mi.nL) (k : pp_ATc g (pp_room h mi) mi (pp_Z g mi P) (0, 0) 0 (lv_args 0 av) [] w) : pp_MW g h mi av w P := by
  have hcw : pp_cw mi = .codeWith mi.y mi.by_ mi.nL mi.ret mi.hh := if_neg hh
  refine ⟨hok, ?_⟩
  rw [hcw]
  refine vx_ofWH (cc := mi.by_) (maxL := mi.nL) (ret := mi.ret) hok.1 rfl ?_
  intro p e s m args below meth c s₁ B hml hP
  have ht := vx_table (x := mi.y) B (atoms_spec (ws := Cond.codeWith mi.y mi.by_ mi.nL mi.ret mi.hh :: pp_T) B.pre _ List.mem_cons_self)
  obtain ⟨rfl, hB, hK, hE, htr⟩ := hP
  have hts : ∀ w ∈ pp_T, w.before (av.map (pp_v g)).toArray s = true := fun w hw => atoms_spec (ws := Cond.codeWith mi.y mi.by_ mi.nL mi.ret mi.hh :: pp_T) B.pre w (List.mem_cons_of_mem _ hw)
  have hent := lv_entry (av.map (pp_v g)) (n := mi.nL) (by rw [pp_sl_len]; exact hl)
  rw [lg_entry_eq]
  rw [pp_args_eq] at hent
  refine k (p, e, s, m, (av.map (pp_v g)).toArray, below, meth, c) ⟨B.exec, B.bytes, hml, findClass_of_methodNamed B.named, hts, B.returns, B.notSynchronized, (name_of_methodNamed B.named B.method).1, ht, hK, hE, ?_, htr, fun q => absurd q hok.2.2.2.2.2.2.2⟩ s.heap [] _ 0 0 hB va_S.rf hent (Nat.le_refl _) (Nat.le_refl _)
  show pp_b g ≤ s.heap.size
  rw [hB.2.1]
  exact Nat.le_add_right _ _
theorem pp_startH {av : List Value} {w : pp_W} (hok : pp_MIok mi) (hh : mi.hh ≠ []) (hl : (lg_sl av).length ≤ mi.nL) (k : pp_N g h mi P 0 (lv_args 0 av) [] w) : pp_MW g (h + 1) mi av w P :=
  pp_enterH hok hh hl (k.le (Nat.zero_le _) (Nat.zero_le _))
end Hand
