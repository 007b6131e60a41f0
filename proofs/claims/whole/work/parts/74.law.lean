/-! THE LAW: its judgement -/
set_option maxHeartbeats 1000000
set_option maxRecDepth 100000
/-- what the law comes to -/
def lz (g : pp_G) (b : Addr) (t : pp_CT) : State → Prop := fun u => t.args = #[Value.ref b] ∧ t.s.heap.size ≤ pp_b g → lw_Z t.below #[Value.ref b] t.s u
def lP : pp_R → pp_W → Prop := fun r _ => r = .inl (some (.int (Int32.ofNat 1)))
/-- the room of the iterations before -/
def lof (j : Nat) : Nat × Nat := (158 * j, 3024 * j)
def lN (g : pp_G) (b : Addr) (j pc : Nat) : pp_St := fun L st w => pp_AT g room_1 mi_L_law (lz g b) (lof j) pc L st w
section
variable {g : pp_G} {b : Addr} {j : Nat}
theorem l_end (hj : j ≤ 512) : pp_End g room_1 mi_L_law (lz g b) (lof j) lP (fun _ _ => False) := by
  refine ⟨fun pc L w hd hr hP => absurd hr (by decide), fun pc L w x ty hd hr hn hP => ?_, fun pc L w x hd hr hP => absurd hr (by decide), fun pc L st w E _ hP => hP.elim⟩
  intro t C H locs ls cells slots hB hS hl h1 h2
  by_cases hz : t.args = #[Value.ref b] ∧ t.s.heap.size ≤ pp_b g
  · have hx : x = 1 := by cases hP; rfl
    subst hx
    obtain ⟨p, e, s, m, args, below, meth, c⟩ := t
    obtain ⟨hz1, hz2⟩ := hz
    dsimp only at hz1
    subst hz1
    refine va_forget (fun q hq => Nat.le_trans hz2 (hS.2.2 q hq)) ?_
    have h1 : cells ≤ 158 * j + 235 := h1
    have h2 : slots ≤ 3024 * j + 11363 := h2
    refine W.widen (k := 601024) (n := 7293034) (by omega) (by omega) ?_
    intro T hT X
    obtain ⟨u, a1, a2⟩ := lw_ret (b := b) C.1 C.2.1 C.2.2.2.2.2.1 C.2.2.2.2.2.2.1 hd T hT X
    exact ⟨u, a1, fun _ => a2⟩
  · intro T hT X
    exact ⟨_, Steps.refl _, fun z => absurd z hz⟩
theorem l_endT : pp_EndT g room_1 mi_L_law (lz g b) (lof j) lP := by
  intro pc is wd tx q c L st w h1
  exact absurd h1 (by decide)
theorem l_go {e pc : Nat} {seg : pp_Seg} {L : List (Nat × Value)} {st : List Value} {w : pp_W} (hj : j ≤ 512) (hc : pp_chk mi_L_law e pc (pp_cnt mi_L_law pc) seg = true) (hw : pp_wp g 40 mi_L_law.ret lP (fun _ _ => False) (lN g b j) e seg L st w) : lN g b j pc L st w :=
  pp_run (R := room_1) (off := lof j) (h := 40) (X := lN g b j) (fun _ _ _ _ hx => hx) (by show 158 * j + 235 ≤ 601024; omega) (by show 3024 * j + 11363 ≤ 7293034; omega) (by decide) (l_end hj) l_endT seg pc _ L st w hc hw
/-- the back edge -/
theorem l_back {L : List (Nat × Value)} {w : pp_W} {i : Int32} (hi : L.lookup 4 = some (.int i)) (k : lN g b (j + 1) 23 (pp_put1 4 (.int (i + 6)) L) [] w) : lN g b j 2205 L [] w := by
  refine pr_iinc (c := 6) (by decide +kernel) hi (by decide) (by decide) ?_
  refine pr_goto (tgt := 23) (by decide +kernel) (by decide) ?_
  refine pp_ATc.le k ?_ ?_
  · show 158 * j + 235 ≤ 158 * (j + 1) + 77
    omega
  · show 3024 * j + 11363 ≤ 3024 * (j + 1) + 8339
    omega
end
