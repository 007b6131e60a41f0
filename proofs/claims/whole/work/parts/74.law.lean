/-! THE LAW: its judgement -/
def R_law : String := "PatentPoolLaw"
def lw_P (b : Addr) (xs : List Int32) (args : Array Value) (s : State) : Prop := args = #[.ref b] ∧ s.IntsAt b xs ∧ xs.length ≤ 3072 ∧ (Jvm.Cond.and given_1 narrow_1).before args s = true
def lw_Q (_ : Array Value) (s : State) (o : Outcome) (t : State) : Prop := o = .returned (some (.int 1)) ∧ Framed s o t [] 601024 7293034
def lw_Z (below : List Frame) (a : Array Value) (s : State) : State → Prop := fun t => ∃ o, t.status = .running ∧ Ended t below o ∧ lw_Q a s o t
/-- the law's own end, with 1 on the stack, nothing written that was there before, its room as the claim has it -/
theorem lw_ret {p : Program} {l : Launch} {e : Env} {s : State} {m : MethodId} {below : List Frame} {meth : Method} {c : Code} {b : Nat} (hx : p.tables.exec = Jvm.exec) (hb : c.code = code) (hr : meth.sig.returnType = ret) (hlocks : meth.locks = false) {pc : Nat} {H : Heap} {ls : Array Slot} (hdg : decode code pc = .ok (.ireturn, 1)) : W p l e room_1 s m #[Value.ref b] below meth c H [] 601024 7293034 (lw_Z below #[Value.ref b] s) (F0 m pc ls [.int 1]) := by
  intro T hT X
  obtain ⟨fs, hret, hrun, hended, hW, hframe⟩ := X.leave (v := some (.int 1)) (hlocks := hlocks) (fun h => by rw [hr] at h; cases h)
  have hmeth' : T.vm.method? m = some meth := X.method'
  refine ⟨T.setFrames fs, ?_, .returned (some (.int 1)), hrun, hended, rfl, ⟨_, rfl⟩, hW, hframe⟩
  jvm_step X.here [X.here.top, hx, hb, hdg, hmeth', hr, ret, narrow_b1]
  (try refine ⟨rfl, ?_⟩); (try refine ⟨rfl, ?_⟩)
  first | (intro acts; rw [hret _ acts rfl rfl rfl]) | rw [hret _ _ rfl rfl rfl]
  exact Steps.refl _
/-- what holds at the law's entry: the machine, the code, the tables' words (any of lw_tbl by 'hts w (by decide +kernel)'), the script of L ints xs at the cell b, what the Statement gives of the start (any of its parts by flat_of_before) -/
def lw_At (p : Program) (s : State) (m : MethodId) (meth : Method) (c : Code) (b L : Nat) (xs : Nat → Int32) : Prop :=
  p.tables.exec = Jvm.exec ∧ c.code = code ∧ meth.sig.returnType = ret ∧ c.maxLocals = 8 ∧ s.vm.findClass R_law = some m.cls ∧ (∀ w ∈ lw_tbl, w.before #[Value.ref b] s = true) ∧ va_X b L xs s s.heap ∧ b < s.heap.size ∧ meth.locks = false ∧ (Jvm.Cond.and given_1 narrow_1).before #[Value.ref b] s = true
set_option maxHeartbeats 1000000
set_option maxRecDepth 100000
/-- what the law comes to -/
def lz (g : pp_G) (b : Addr) (t : pp_CT) : State → Prop := fun u => t.args = #[Value.ref b] ∧ t.s.heap.size ≤ pp_b g → lw_Z t.below #[Value.ref b] t.s u
def lP : pp_R → pp_W → Prop := fun r _ => r = .inl (some (.int (Int32.ofNat 1)))
/-- the room of the iterations before -/
def lof (j : Nat) : Nat × Nat := (158 * j, 3024 * j)
def lwN (g : pp_G) (b : Addr) (j pc : Nat) : pp_St := fun L st w => pp_AT g room_1 mi_L_law (lz g b) (lof j) pc L st w
section
variable {g : pp_G} {b : Addr} {j : Nat}
theorem l_end (hj : j ≤ 512) : pp_End g room_1 mi_L_law (lz g b) (lof j) lP (fun _ _ => False) := by
  refine ⟨fun pc L w hd hr hP => absurd hr (by decide), fun pc L w x ty hd hr hn hP => ?_, fun pc L w x hd hr hP => absurd hr (by decide), fun pc L st w E _ hP => hP.elim⟩
  intro t C H locs ls cells slots hB hS hl h1 h2
  by_cases hz : t.args = #[Value.ref b] ∧ t.s.heap.size ≤ pp_b g
  · have hx : x = 1 := by cases hP; rfl
    subst hx
    obtain ⟨p, e, s, m, args, below, meth, c⟩ := t
    obtain ⟨hz1, hz2⟩ := hz
    have hz1 : args = #[Value.ref b] := hz1
    subst hz1
    refine va_forget (fun q hq => Nat.le_trans hz2 (hS.2.2 q hq)) ?_
    have h1 : cells ≤ 158 * j + 235 := h1
    have h2 : slots ≤ 3024 * j + 11363 := h2
    refine W.widen (k := 601024) (n := 7293034) (by omega) (by omega) ?_
    intro T hT X
    obtain ⟨u, a1, a2⟩ := lw_ret (b := b) C.1 C.2.1 C.2.2.2.2.2.1 C.2.2.2.2.2.2.1 hd T hT X
    exact ⟨u, a1, fun _ => a2⟩
  · intro T hT X
    exact ⟨_, Steps.refl _, fun z => absurd z hz⟩
theorem l_endT : pp_EndT g room_1 mi_L_law (lz g b) (lof j) lP := by
  intro pc is wd tx q c L st w h1
  exact absurd h1 (by decide)
theorem l_go {e pc : Nat} {seg : pp_Seg} {L : List (Nat × Value)} {st : List Value} {w : pp_W} (hj : j ≤ 512) (hc : pp_chk mi_L_law e pc (pp_cnt mi_L_law pc) seg = true) (hw : pp_wp g 40 mi_L_law.ret lP (fun _ _ => False) (lwN g b j) e seg L st w) : lwN g b j pc L st w :=
  pp_run (R := room_1) (off := lof j) (h := 40) (X := lwN g b j) (fun _ _ _ _ hx => hx) (by show 158 * j + 235 ≤ 601024; omega) (by show 3024 * j + 11363 ≤ 7293034; omega) (by decide) (l_end hj) l_endT seg pc _ L st w hc hw
/-- the back edge -/
theorem l_back {L : List (Nat × Value)} {w : pp_W} {i : Int32} (hi : L.lookup 4 = some (.int i)) (k : lwN g b (j + 1) 23 (pp_put1 4 (.int (i + 6)) L) [] w) : lwN g b j 2205 L [] w := by
  show pp_ATc g room_1 mi_L_law (lz g b) _ 2205 L [] w
  refine pr_iinc (n := 6) (c := 6) (by decide +kernel) hi (by decide) (by decide) ?_
  refine pr_goto (off := -2185) (tgt := 23) (by decide +kernel) (by decide) ?_
  refine pp_ATc.le k ?_ ?_
  · show 158 * j + 235 ≤ 158 * (j + 1) + 77
    omega
  · show 3024 * j + 11363 ≤ 3024 * (j + 1) + 8339
    omega
end
