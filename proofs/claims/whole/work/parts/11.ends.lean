/-! THE ENGINE, 8: a method's ends and its entry -/
section Ends
variable {g : pp_G} {R : Room} {mi : pp_MI} {P : pp_R → pp_W → Prop} {cs : Nat × Nat} {pc h : Nat} {L : List (Nat × Value)} {st : List Value} {w : pp_W}
theorem pp_SF {s t : State} {H : Heap} {locs : List Loc} (hS : va_S (pp_A g) s.heap H locs) (h1 : H.size ≤ t.heap.size) (h2 : ∀ q : Nat, q < H.size → t.heap[q]? = H[q]?) : va_F (pp_A g) s t :=
  ⟨Nat.le_trans hS.1 h1, fun q hq hA => (h2 q (Nat.lt_of_lt_of_le hq hS.1)).trans (hS.2.1 q hq hA)⟩
theorem pe_vret (hd : decode mi.by_ pc = .ok (.return_, 1)) (hr : mi.ret = none) (hc : cs.1 ≤ mi.mc) (hs : cs.2 ≤ mi.ms) (hP : P (.inl none) w) : pp_ATc g R mi (pp_Z g mi P) cs pc L [] w :=
  fun t C H locs ls cells slots hB hS hl h1 h2 => W.widen (k := mi.mc) (n := mi.ms) (Nat.le_trans h1 hc) (Nat.le_trans h2 hs) (vx_ret (W.vret C.1 C.2.1 (C.2.2.2.2.2.1.trans hr) (fun u hu hW => ⟨none, w, rfl, hP, by rw [hu]; exact hB, pp_SF hS (by rw [hu]; exact Nat.le_refl _) (fun q _ => by rw [hu])⟩) hS.2.2 hd C.2.2.2.2.2.2.1))
theorem pe_iret {x : Int32} {ty : FieldType} (hd : decode mi.by_ pc = .ok (.ireturn, 1)) (hr : mi.ret = some ty) (hn : narrow ty (.int x) = .int x) (hc : cs.1 ≤ mi.mc) (hs : cs.2 ≤ mi.ms) (hP : P (.inl (some (.int x))) w) : pp_ATc g R mi (pp_Z g mi P) cs pc L [.int x] w :=
  fun t C H locs ls cells slots hB hS hl h1 h2 => W.widen (k := mi.mc) (n := mi.ms) (Nat.le_trans h1 hc) (Nat.le_trans h2 hs) (vx_ret (W.zret C.1 C.2.1 (C.2.2.2.2.2.1.trans hr) hn (fun u hu hW => ⟨some (.int x), w, rfl, hP, by rw [hu]; exact hB, pp_SF hS (by rw [hu]; exact Nat.le_refl _) (fun q _ => by rw [hu])⟩) hS.2.2 hd C.2.2.2.2.2.2.1))
theorem pe_lret {x : Int64} (hd : decode mi.by_ pc = .ok (.lreturn, 1)) (hr : mi.ret = some .long) (hc : cs.1 ≤ mi.mc) (hs : cs.2 ≤ mi.ms) (hP : P (.inl (some (.long x))) w) : pp_ATc g R mi (pp_Z g mi P) cs pc L [.long x] w :=
  fun t C H locs ls cells slots hB hS hl h1 h2 => W.widen (k := mi.mc) (n := mi.ms) (Nat.le_trans h1 hc) (Nat.le_trans h2 hs) (vx_ret (W.lret C.1 C.2.1 (C.2.2.2.2.2.1.trans hr) (fun u hu hW => ⟨some (.long x), w, rfl, hP, by rw [hu]; exact hB, pp_SF hS (by rw [hu]; exact Nat.le_refl _) (fun q _ => by rw [hu])⟩) hS.2.2 hd C.2.2.2.2.2.2.1))
/-- not caught here -/
theorem pe_out {E : String} (hh : mi.hh = []) (hc : cs.1 ≤ mi.mc) (hs : cs.2 ≤ mi.ms) (hP : P (.inr E) w) : pp_XT g R mi (pp_Z g mi P) cs pc L st w E :=
  fun t C H locs ls cells slots hB hS hl h1 h2 q ce hce hv hcl => vx_out (fun x hx => by rw [C.2.2.2.2.2.2.2.2.1, hh] at hx; cases hx) C.2.2.2.2.2.2.1 hce hv hcl
    (fun u hu hvm => ⟨w, hP, by rw [hu]; exact hB, pp_SF hS (by rw [hu]; exact Nat.le_refl _) (fun q _ => by rw [hu])⟩) hS.2.2 (Nat.le_trans h1 hc) (Nat.le_trans h2 hs)
/-- the three exceptions: class, the number of its class in the pool of PatentPool, of its constructor -/
def pp_exs : List (String × Nat × Nat) := [("java/lang/IllegalArgumentException", 74, 78), ("java/lang/IllegalStateException", 229, 233), ("java/lang/IndexOutOfBoundsException", 249, 253)]
def pp_exn : List String := ["java/lang/RuntimeException", "java/lang/Exception"]
theorem pp_exA : ∀ q ∈ pp_exs, ∀ w ∈ Cond.classLink RX8 q.2.1 q.1 :: Cond.initialized q.1 :: vx_atS RX8 q.2.2 q.1 pp_exn, w ∈ pp_T := by
  have : (pp_exs.flatMap (fun q => Cond.classLink RX8 q.2.1 q.1 :: Cond.initialized q.1 :: vx_atS RX8 q.2.2 q.1 pp_exn)).all (fun w => decide (w ∈ lw_tbl) && pp_ok w) = true := by decide +kernel
  intro q hq w hw
  exact pp_sub this w (List.mem_flatMap.mpr ⟨q, hq, hw⟩)
theorem pp_exB : ∀ q ∈ pp_exs, ∀ w ∈ Cond.classLink RX8 q.2.1 q.1 :: Cond.initialized q.1 :: vx_atS RX8 q.2.2 q.1 pp_exn, vx_ot w = true := by decide +kernel
theorem pp_exC : ∀ q ∈ pp_exs, Bundle.fit q.1 = true := by decide +kernel
theorem pp_exD : ∀ n ∈ pp_exn, Bundle.fit n = true := by decide +kernel
/-- throw new E("text") -/
theorem pe_throw {is : Nat} {tx : String} {q : String × Nat × Nat} (hown : mi.y.cls = RX8) (hq : q ∈ pp_exs) (hm : (is, tx) ∈ pp_msgs) (hh : mi.hh = []) (hc : cs.1 + 1 ≤ mi.mc) (hs : cs.2 + 6 ≤ mi.ms)
    (d0 : decode mi.by_ pc = .ok (.new q.2.1, 3)) (d3 : decode mi.by_ (pc + 3) = .ok (.dup, 1)) (d4 : decode mi.by_ (pc + 4) = .ok (.ldc is, 2)) (d6 : decode mi.by_ (pc + 6) = .ok (.invokespecial q.2.2, 3)) (d9 : decode mi.by_ (pc + 9) = .ok (.athrow, 1)) (hst : st.length ≤ 4)
    (hP : ∀ k : Nat, P (.inr q.1) (w.1 ++ List.replicate k (15, 0), w.2)) : pp_ATc g (pp_room h mi) mi (pp_Z g mi P) cs pc L st w := by
  intro t C H locs ls cells slots hB hS hl h1 h2
  obtain ⟨hx, hb, hml, hown9, hts, hret, hlocks, hname, htab, hK, hE, hb0, htr⟩ := C
  obtain ⟨sa, hsa⟩ := hE.2.2.1 _ hm
  have hcat := pp_cat_le g st
  rw [hown] at hown9
  exact vx_throwS (A := pp_A g) (names := pp_exn) (own := RX8) hx hb htr.1 hown9 (pp_exC q hq) pp_exD (hts _ (pp_exA q hq _ List.mem_cons_self)) (hts _ (pp_exA q hq _ (List.mem_cons_of_mem _ List.mem_cons_self))) hsa (fun w hw => hts _ (pp_exA q hq w (List.mem_cons_of_mem _ (List.mem_cons_of_mem _ hw)))) (pp_exB q hq) hE.2.2.2.1 hE.2.2.2.2.1 hS (by rw [hml]; exact hl.1) d0 d3 d4 d6 d9
    (fun x hx => by rw [htab, hh] at hx; cases hx) (by show 5 < h + 8; omega) (by show _ + (13 * (2 + 1) + 43) ≤ 40 * h + 200; omega) (by show cells + 1 ≤ mi.mc; omega) (by show slots + 6 ≤ mi.ms; omega) hlocks
    (fun u hvm z o => ⟨_, hP _, hB.grow z o, pp_SF hS z o⟩) hS.2.2 (by omega) (by omega)
theorem pe_throwW {is : Nat} {tx : String} {q : String × Nat × Nat} (hown : mi.y.cls = RX8) (hq : q ∈ pp_exs) (hm : (is, tx) ∈ pp_msgs) (hh : mi.hh = []) (hc : cs.1 + 1 ≤ mi.mc) (hs : cs.2 + 6 ≤ mi.ms)
    (d0 : decode mi.by_ pc = .ok (.new q.2.1, 3)) (d3 : decode mi.by_ (pc + 3) = .ok (.dup, 1)) (d4 : decode mi.by_ (pc + 4) = .ok (.ldc_w is, 3)) (d6 : decode mi.by_ (pc + 7) = .ok (.invokespecial q.2.2, 3)) (d9 : decode mi.by_ (pc + 10) = .ok (.athrow, 1)) (hst : st.length ≤ 4)
    (hP : ∀ k : Nat, P (.inr q.1) (w.1 ++ List.replicate k (15, 0), w.2)) : pp_ATc g (pp_room h mi) mi (pp_Z g mi P) cs pc L st w := by
  intro t C H locs ls cells slots hB hS hl h1 h2
  obtain ⟨hx, hb, hml, hown9, hts, hret, hlocks, hname, htab, hK, hE, hb0, htr⟩ := C
  obtain ⟨sa, hsa⟩ := hE.2.2.1 _ hm
  have hcat := pp_cat_le g st
  rw [hown] at hown9
  exact vx_throwSW (A := pp_A g) (names := pp_exn) (own := RX8) hx hb htr.1 hown9 (pp_exC q hq) pp_exD (hts _ (pp_exA q hq _ List.mem_cons_self)) (hts _ (pp_exA q hq _ (List.mem_cons_of_mem _ List.mem_cons_self))) hsa (fun w hw => hts _ (pp_exA q hq w (List.mem_cons_of_mem _ (List.mem_cons_of_mem _ hw)))) (pp_exB q hq) hE.2.2.2.1 hE.2.2.2.2.1 hS (by rw [hml]; exact hl.1) d0 d3 d4 d6 d9
    (fun x hx => by rw [htab, hh] at hx; cases hx) (by show 5 < h + 8; omega) (by show _ + (13 * (2 + 1) + 43) ≤ 40 * h + 200; omega) (by show cells + 1 ≤ mi.mc; omega) (by show slots + 6 ≤ mi.ms; omega) hlocks
    (fun u hvm z o => ⟨_, hP _, hB.grow z o, pp_SF hS z o⟩) hS.2.2 (by omega) (by omega)
-- the entry
theorem pp_args_eq (g : pp_G) : ∀ (i : Nat) (av : List Value), lv_args i (av.map (pp_v g)) = pp_ls g (lv_args i av) := by
  intro i av
  induction av generalizing i with
  | nil => rfl
  | cons v av ih =>
    simp only [List.map_cons, lv_args, pp_v_cat, ih, pp_ls]
theorem pp_sl_len (g : pp_G) : ∀ (av : List Value), (lg_sl (av.map (pp_v g))).length = (lg_sl av).length := by
  intro av
  induction av with
  | nil => rfl
  | cons v av ih =>
    simp only [lg_sl, List.map_cons, List.flatMap_cons, List.length_append, pp_v_cat] at ih ⊢
    rw [ih]
    split <;> rfl
theorem pp_enter {av : List Value} (hok : pp_MIok mi) (hh : mi.hh = []) (hl : (lg_sl av).length ≤ mi.nL) (k : pp_ATc g (pp_room h mi) mi (pp_Z g mi P) (0, 0) 0 (lv_args 0 av) [] w) : pp_MW g h mi av w P := by
  have hcw : pp_cw mi = .code mi.y mi.by_ mi.nL mi.ret := if_pos hh
  refine ⟨hok, ?_⟩
  rw [hcw]
  refine vx_ofW (cc := mi.by_) (maxL := mi.nL) (ret := mi.ret) hok.1 rfl ?_
  intro p e s m args below meth c s₁ B hml ht hP
  obtain ⟨rfl, hB, hK, hE, htr⟩ := hP
  have hts : ∀ w ∈ pp_T, w.before (av.map (pp_v g)).toArray s = true := fun w hw => atoms_spec (ws := Cond.code mi.y mi.by_ mi.nL mi.ret :: pp_T) B.pre w (List.mem_cons_of_mem _ hw)
  have hent := lv_entry (av.map (pp_v g)) (n := mi.nL) (by rw [pp_sl_len]; exact hl)
  rw [lg_entry_eq]
  rw [pp_args_eq] at hent
  refine k (p, e, s, m, (av.map (pp_v g)).toArray, below, meth, c) ⟨B.exec, B.bytes, hml, findClass_of_methodNamed B.named, hts, B.returns, B.notSynchronized, (name_of_methodNamed B.named B.method).1, ?_, hK, hE, ?_, htr, fun q => absurd q hok.2.2.2.2.2.2.2⟩ s.heap [] _ 0 0 hB va_S.rf hent (Nat.le_refl _) (Nat.le_refl _)
  · show c.exceptionTable.toList = tableOf mi.hh
    rw [hh]
    exact List.eq_nil_iff_forall_not_mem.mpr fun x hx => ht x hx
  · show pp_b g ≤ s.heap.size
    rw [hB.2.1]
    exact Nat.le_add_right _ _
end Ends
