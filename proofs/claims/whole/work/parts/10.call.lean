/-! THE ENGINE, 7: calls, ends -/
/-- a thing of the class E was thrown over this frame -/
def pp_XT (g : pp_G) (R : Room) (mi : pp_MI) (Z : pp_CT → State → Prop) (cs : Nat × Nat) (pc : Nat) (L : List (Nat × Value)) (st : List Value) (w : pp_W) (E : String) : Prop :=
  ∀ t : pp_CT, pp_Cx g mi t → ∀ (H : Heap) (locs : List Loc) (ls : Array Slot) (cells slots : Nat), pp_Rep g w H → va_S (pp_A g) t.s.heap H locs → lv_has ls mi.nL (pp_ls g L) → cells ≤ cs.1 → slots ≤ cs.2 →
    ∀ (q : Addr) (ce : Cell), H[q]? = some ce → ce.vm = .none → t.s.vm.findClass E = some ce.cls → vx_W t.p (pp_l g) t.e R t.s t.m t.args t.below t.meth t.c H locs cells slots (Z t) (F0 t.m pc ls (st.map (pp_v g))) q
/-- what is due behind a call -/
def pp_K1 (g : pp_G) (R : Room) (mi : pp_MI) (Z : pp_CT → State → Prop) (cs : Nat × Nat) (pc : Nat) (L : List (Nat × Value)) (st : List Value) : pp_R → pp_W → Prop := fun r w => match r with
  | .inl v => pp_ATc g R mi Z cs (pc + 3) L (v.toList ++ st) w
  | .inr E => pp_XT g R mi Z cs pc L st w E
section Calls
variable {g : pp_G} {R : Room} {mi mj : pp_MI} {Z : pp_CT → State → Prop} {cs : Nat × Nat} {pc h : Nat} {L : List (Nat × Value)} {st : List Value} {w : pp_W}
theorem pp_after {P : pp_R → pp_W → Prop} {t : pp_CT} (C : pp_Cx g mi t) {H : Heap} {locs : List Loc} {ls : Array Slot} {cells slots : Nat} {st0 : List Value} {a : Array Value} (hS : va_S (pp_A g) t.s.heap H locs) (hl : lv_has ls mi.nL (pp_ls g L))
    (hr : vx_Run t.p (pp_l g) t.e R t.s t.m t.args t.below t.meth t.c H locs cells slots mj.mc mj.ms (F0 t.m pc ls st0) (st.map (pp_v g)) (pp_Qc g P a) (pp_XC g P) (pp_A g)) (h1 : cells ≤ cs.1) (h2 : slots ≤ cs.2)
    (hk : ∀ r w, P r w → pp_K1 g R mi Z (cs.1 + mj.mc, cs.2 + mj.ms) pc L st r w) : pp_Wt g R t H locs cells slots (Z t) (F0 t.m pc ls st0) := by
  intro T hT X
  rcases hr T hT X with ⟨v, st₀, u, T', Lo, h0, X', hL, e1, e2, ⟨v', w', hv, hp, hB, hF⟩, st1⟩ | ⟨q, st₀, u, T', Lo, E, ce, h0, X', hL, e1, e2, ⟨w', hp, hB, hF⟩, hce, hcv, hcl, st1⟩
  · cases hv
    obtain ⟨k1, k2, k3⟩ := vx_keep h0 e1 hS (fun q _ h => h) (fun q h => h) hL hF
    have hk9 : pp_ATc g R mi Z (cs.1 + mj.mc, cs.2 + mj.ms) (pc + 3) L (v'.toList ++ st) w' := hk _ _ hp
    obtain ⟨t2, a1, b1⟩ := hk9 t C T'.heap (locs ++ Lo) ls (cells + mj.mc) (slots + mj.ms) (by rw [e1]; exact hB) k3 hl (by show _ ≤ cs.1 + mj.mc; omega) (by show _ ≤ cs.2 + mj.ms; omega) T' rfl X'
    refine ⟨t2, st1 t2 ?_, b1⟩
    have e9 : (v'.toList ++ st).map (pp_v g) = (v'.map (pp_v g)).toList ++ st.map (pp_v g) := by cases v' <;> rfl
    rw [e9] at a1
    exact a1
  · obtain ⟨k1, k2, k3⟩ := vx_keep h0 e1 hS (fun q _ h => h) (fun q h => h) hL hF
    have hk9 : pp_XT g R mi Z (cs.1 + mj.mc, cs.2 + mj.ms) pc L st w' E := hk _ _ hp
    obtain ⟨t2, a1, b1⟩ := hk9 t C T'.heap (locs ++ Lo) ls (cells + mj.mc) (slots + mj.ms) (by rw [e1]; exact hB) k3 hl (by show _ ≤ cs.1 + mj.mc; omega) (by show _ ≤ cs.2 + mj.ms; omega) q ce (by rw [e1]; exact hce) hcv hcl T' rfl X'
    exact ⟨t2, st1.trans a1, b1⟩
theorem pp_pre {t : pp_CT} (C : pp_Cx g mi t) {H : Heap} {locs : List Loc} (hP : pp_Rep g w H) (hS : va_S (pp_A g) t.s.heap H locs) (av : List Value) : ∀ U : State, U.heap = H → t.s.WarmedH U.vm → pp_Pc g av w (av.map (pp_v g)).toArray U :=
  fun U hU hW => ⟨rfl, by rw [hU]; exact hP, va_K.moved hW.alike C.2.2.2.2.2.2.2.2.2.1, by rw [hU]; exact pp_Ext.moved hW (C.2.2.2.2.2.2.2.2.2.2.1.kept hS.2.1), C.2.2.2.2.2.2.2.2.2.2.2.2.1⟩
theorem pp_recv {t : pp_CT} (C : pp_Cx g mi t) {H : Heap} (hP : pp_Rep g w H) {b ci : Nat} {r : vw_C} (hr : pp_cl[ci]? = some r) (hb : w.1[b]? = some (ci, 0)) : ∃ cell : Cell, H[pp_ad g b]? = some cell ∧ cell.vm.isStatics = false ∧ t.s.vm.findClass r.1 = some cell.cls := by
  obtain ⟨hc10, -⟩ := pp_clOK hr
  obtain ⟨r', e1, cell, q1, q2, q3, q4⟩ := (pp_at.o hc10).mp (hP.2.2.2 b _ hb)
  obtain ⟨-, hfc, -⟩ := C.2.2.2.2.2.2.2.2.2.1.1 ci _ hr
  exact ⟨cell, q1, by rw [q3]; rfl, by rw [q2]; exact hfc⟩
abbrev pp_big (R : Room) (h : Nat) : Prop := h + 9 ≤ R.frames ∧ 40 * h + 240 ≤ R.locals
theorem pp_words {t : pp_CT} (C : pp_Cx g mi t) (hok : pp_MIok mj) : ∀ w ∈ pp_cw mj :: pp_T, ∀ (a' : Array Value) (U : State), t.s.WarmedH U.vm → w.before a' U = true := fun w hw a' U hW => by
  rcases List.mem_cons.mp hw with rfl | hw
  · exact pp_T_warm hW C.2.2.2.2.1 _ hok.2.2.1
  · exact pp_T_warm hW C.2.2.2.2.1 _ hw
theorem pp_np (hok : pp_MIok mj) : ∀ sig, parseMethodDescriptor mj.y.desc = some sig → mj.np = sig.parameters.length := fun sig hs => by
  have := hok.2.2.2.2.2.1
  rw [hs] at this
  exact (Option.some.inj this).symm
theorem pp_callB {t : pp_CT} (C : pp_Cx g mi t) (hok : pp_MIok mj) (hh : mj.hh = []) (hR : pp_big R h) {idx : Nat} (hlk : Cond.methodLink mi.y.cls idx mj.y ∈ pp_T) : CallB R t.s t.args mi.y.cls idx mj.y mj.by_ mj.nL mj.ret (pp_cw mj :: pp_T) (pp_room h mj) mj.mc mj.ms mj.np := by
  have hcw : pp_cw mj = .code mj.y mj.by_ mj.nL mj.ret := if_pos hh
  have hn := hok.2.1
  refine ⟨rfl, rfl, ?_, ?_, pp_words C hok, by rw [hcw]; exact List.mem_cons_self, ?_, C.2.2.2.2.1 _ hok.2.2.2.1, hok.2.2.2.2.1, pp_np hok, C.2.2.2.2.1 _ hlk⟩
  · show h + 8 + 1 ≤ _
    exact hR.1
  · show 8 + (mj.nL + 11) + (40 * h + 200) ≤ _
    have := hR.2
    omega
  · rw [← hcw]
    exact C.2.2.2.2.1 _ hok.2.2.1
theorem pp_rest (g : pp_G) {st : List Value} (hst : st.length ≤ 4) {m : MethodId} {pc : Nat} {ls : Array Slot} {rest : List Value} : 2 * (F0 m pc ls rest).monitorRoom + ((st.map (pp_v g)).map fun v => v.category).sum ≤ 8 := by
  have := pp_cat_le g st
  exact lv_room (by omega)
theorem pr_callV {idx ci b : Nat} {r : vw_C} {As : List Value} {P : pp_R → pp_W → Prop} (hd : decode mi.by_ pc = .ok (.invokevirtual idx, 3)) (hlk : Cond.methodLink mi.y.cls idx mj.y ∈ pp_T) (hkd : mj.kd = 1) (hh : mj.hh = []) (hr : pp_cl[ci]? = some r) (hrc : r.1 = mj.y.cls) (hb9 : w.1[b]? = some (ci, 0)) (hlen : As.length = mj.np) (hR : pp_big R h) (hc : cs.1 + mj.mc ≤ R.cells) (hs : cs.2 + mj.ms ≤ R.slots) (hst : st.length ≤ 4)
    (hM : pp_MW g h mj (.ref b :: As) w P) (hk : ∀ r w, P r w → pp_K1 g R mi Z (cs.1 + mj.mc, cs.2 + mj.ms) pc L st r w) : pp_ATc g R mi Z cs pc L (As.reverse ++ .ref b :: st) w := by
  intro t C H locs ls cells slots hP hS hl h1 h2
  have hok := hM.1
  obtain ⟨hsel1, hsel2⟩ : Cond.instanceMethod mj.y ∈ pp_T ∧ Cond.selects mj.y.cls mj.y mj.y ∈ pp_T := by
    rcases hok.2.2.2.2.2.2.1 with ⟨h, -⟩ | ⟨-, h⟩ | ⟨h, -⟩
    · rw [hkd] at h; cases h
    · exact h
    · rw [hkd] at h; cases h
  have e9 : (As.reverse ++ .ref b :: st).map (pp_v g) = (As.map (pp_v g)).reverse ++ .ref (pp_ad g b) :: st.map (pp_v g) := by
    rw [List.map_append, List.map_reverse]; rfl
  rw [e9]
  refine pp_after C hS hl (vx_runV (C := r.1) (As := As.map (pp_v g)) (b := pp_ad g b) ⟨C.1, C.2.1, C.2.2.1, C.2.2.2.1, C.2.2.2.2.1⟩ hM.2 ⟨pp_callB C hok hh hR hlk, C.2.2.2.2.1 _ hsel1, by rw [hrc]; exact C.2.2.2.2.1 _ hsel2⟩ ⟨pp_blind g _ w, pp_recv C hP hr hb9, pp_pre C hP hS (.ref b :: As)⟩ rfl (by rw [List.length_map]; exact hlen) hl.1 rfl (pp_rest g hst) hd ⟨by omega, by omega⟩) h1 h2 hk
theorem pr_callS {idx : Nat} {As : List Value} {P : pp_R → pp_W → Prop} (hd : decode mi.by_ pc = .ok (.invokestatic idx, 3)) (hlk : Cond.methodLink mi.y.cls idx mj.y ∈ pp_T) (hkd : mj.kd = 0) (hh : mj.hh = []) (hlen : As.length = mj.np) (hR : pp_big R h) (hc : cs.1 + mj.mc ≤ R.cells) (hs : cs.2 + mj.ms ≤ R.slots) (hst : st.length ≤ 4)
    (hM : pp_MW g h mj As w P) (hk : ∀ r w, P r w → pp_K1 g R mi Z (cs.1 + mj.mc, cs.2 + mj.ms) pc L st r w) : pp_ATc g R mi Z cs pc L (As.reverse ++ st) w := by
  intro t C H locs ls cells slots hP hS hl h1 h2
  have hok := hM.1
  have hsel1 : Cond.static mj.y ∈ pp_T := by
    rcases hok.2.2.2.2.2.2.1 with ⟨-, h⟩ | ⟨h, -⟩ | ⟨h, -⟩
    · exact h
    · rw [hkd] at h; cases h
    · rw [hkd] at h; cases h
  have e9 : (As.reverse ++ st).map (pp_v g) = (As.map (pp_v g)).reverse ++ st.map (pp_v g) := by
    rw [List.map_append, List.map_reverse]
  rw [e9]
  refine pp_after C hS hl (vx_runS (As := As.map (pp_v g)) ⟨C.1, C.2.1, C.2.2.1, C.2.2.2.1, C.2.2.2.2.1⟩ hM.2 ⟨pp_callB C hok hh hR hlk, C.2.2.2.2.1 _ hsel1⟩ ⟨pp_blind g _ w, pp_pre C hP hS As⟩ rfl (by rw [List.length_map]; exact hlen) hl.1 rfl (pp_rest g hst) hd ⟨by omega, by omega⟩) h1 h2 hk
/-- a static method with handlers -/
theorem pr_callSX {idx : Nat} {As : List Value} {P : pp_R → pp_W → Prop} (hd : decode mi.by_ pc = .ok (.invokestatic idx, 3)) (hlk : Cond.methodLink mi.y.cls idx mj.y ∈ pp_T) (hkd : mj.kd = 0) (hh : mj.hh ≠ []) (hlen : As.length = mj.np) (hR : pp_big R h) (hc : cs.1 + mj.mc ≤ R.cells) (hs : cs.2 + mj.ms ≤ R.slots) (hst : st.length ≤ 4)
    (hM : pp_MW g h mj As w P) (hk : ∀ r w, P r w → pp_K1 g R mi Z (cs.1 + mj.mc, cs.2 + mj.ms) pc L st r w) : pp_ATc g R mi Z cs pc L (As.reverse ++ st) w := by
  intro t C H locs ls cells slots hP hS hl h1 h2
  have hok := hM.1
  have hcw : pp_cw mj = .codeWith mj.y mj.by_ mj.nL mj.ret mj.hh := if_neg hh
  have hn := hok.2.1
  have hsel1 : Cond.static mj.y ∈ pp_T := by
    rcases hok.2.2.2.2.2.2.1 with ⟨-, h⟩ | ⟨h, -⟩ | ⟨h, -⟩
    · exact h
    · rw [hkd] at h; cases h
    · rw [hkd] at h; cases h
  have e9 : (As.reverse ++ st).map (pp_v g) = (As.map (pp_v g)).reverse ++ st.map (pp_v g) := by
    rw [List.map_append, List.map_reverse]
  rw [e9]
  refine pp_after C hS hl (vx_runSX (hh := mj.hh) (As := As.map (pp_v g)) ⟨C.1, C.2.1, C.2.2.1, C.2.2.2.1, C.2.2.2.2.1⟩ hM.2 ⟨⟨rfl, rfl, hR.1, ?_, pp_words C hok, by rw [hcw]; exact List.mem_cons_self⟩, by rw [← hcw]; exact C.2.2.2.2.1 _ hok.2.2.1, C.2.2.2.2.1 _ hok.2.2.2.1, hok.2.2.2.2.1, pp_np hok, C.2.2.2.2.1 _ hlk, C.2.2.2.2.1 _ hsel1⟩ ⟨pp_blind g _ w, pp_pre C hP hS As⟩ rfl (by rw [List.length_map]; exact hlen) hl.1 rfl (pp_rest g hst) hd ⟨by omega, by omega⟩) h1 h2 hk
  show 8 + (mj.nL + 11) + (40 * h + 200) ≤ _
  have := hR.2
  omega
theorem pr_callI {idx b : Nat} {As : List Value} {P : pp_R → pp_W → Prop} (hd : decode mi.by_ pc = .ok (.invokespecial idx, 3)) (hlk : Cond.methodLink mi.y.cls idx mj.y ∈ pp_T) (hkd : mj.kd = 2) (hh : mj.hh = []) (hlen : As.length = mj.np) (hR : pp_big R h) (hc : cs.1 + mj.mc ≤ R.cells) (hs : cs.2 + mj.ms ≤ R.slots) (hst : st.length ≤ 4)
    (hM : pp_MW g h mj (.ref b :: As) w P) (hk : ∀ r w, P r w → pp_K1 g R mi Z (cs.1 + mj.mc, cs.2 + mj.ms) pc L st r w) : pp_ATc g R mi Z cs pc L (As.reverse ++ .ref b :: st) w := by
  intro t C H locs ls cells slots hP hS hl h1 h2
  have hok := hM.1
  obtain ⟨hnm, hsel1, hret⟩ : mj.y.name = "<init>" ∧ Cond.instanceMethod mj.y ∈ pp_T ∧ mj.ret = none := by
    rcases hok.2.2.2.2.2.2.1 with ⟨h, -⟩ | ⟨h, -⟩ | ⟨-, h⟩
    · rw [hkd] at h; cases h
    · rw [hkd] at h; cases h
    · exact h
  have e9 : (As.reverse ++ .ref b :: st).map (pp_v g) = (As.map (pp_v g)).reverse ++ .ref (pp_ad g b) :: st.map (pp_v g) := by
    rw [List.map_append, List.map_reverse]; rfl
  rw [e9]
  have hB := pp_callB C hok hh hR hlk
  rw [hret] at hB
  refine pp_after C hS hl (vx_runI (As := As.map (pp_v g)) (b := pp_ad g b) ⟨C.1, C.2.1, C.2.2.1, C.2.2.2.1, C.2.2.2.2.1⟩ hM.2 ⟨hB, hnm, C.2.2.2.2.1 _ hsel1⟩ ⟨pp_blind g _ w, pp_pre C hP hS (.ref b :: As)⟩ rfl (by rw [List.length_map]; exact hlen) hl.1 rfl (pp_rest g hst) hd ⟨by omega, by omega⟩) h1 h2 hk
/-- the nest mate's pairOf -/
theorem pr_callN {As : List Value} {P : pp_R → pp_W → Prop} (hown : mi.y.cls = RX0) (hmj : mj.y = yX8_pairOf) (hd : decode mi.by_ pc = .ok (.invokestatic 19, 3)) (hkd : mj.kd = 0) (hh : mj.hh = []) (hlen : As.length = mj.np) (hR : pp_big R h) (hc : cs.1 + mj.mc ≤ R.cells) (hs : cs.2 + mj.ms ≤ R.slots) (hst : st.length ≤ 4)
    (hM : pp_MW g h mj As w P) (hk : ∀ r w, P r w → pp_K1 g R mi Z (cs.1 + mj.mc, cs.2 + mj.ms) pc L st r w) : pp_ATc g R mi Z cs pc L (As.reverse ++ st) w := by
  intro t C H locs ls cells slots hP hS hl h1 h2
  have hok := hM.1
  have hcw : pp_cw mj = .code mj.y mj.by_ mj.nL mj.ret := if_pos hh
  have hn := hok.2.1
  have hsel1 : Cond.static mj.y ∈ pp_T := by
    rcases hok.2.2.2.2.2.2.1 with ⟨-, h⟩ | ⟨h, -⟩ | ⟨h, -⟩
    · exact h
    · rw [hkd] at h; cases h
    · rw [hkd] at h; cases h
  have e9 : (As.reverse ++ st).map (pp_v g) = (As.map (pp_v g)).reverse ++ st.map (pp_v g) := by
    rw [List.map_append, List.map_reverse]
  rw [e9]
  have hnest : (Cond.methodLinkNest mi.y.cls 19 mj.y RX8).before t.args t.s = true := by
    rw [hown, hmj]
    exact va_Nw.use rfl C.2.2.2.2.2.2.2.2.2.2.1.2.2.2.2.2.2.1
  refine pp_after C hS hl (vx_runSN (host := RX8) (As := As.map (pp_v g)) ⟨C.1, C.2.1, C.2.2.1, C.2.2.2.1, C.2.2.2.2.1⟩ hM.2 ⟨⟨⟨rfl, rfl, hR.1, ?_, pp_words C hok, by rw [hcw]; exact List.mem_cons_self⟩, by rw [← hcw]; exact C.2.2.2.2.1 _ hok.2.2.1, C.2.2.2.2.1 _ hok.2.2.2.1, hok.2.2.2.2.1, pp_np hok, hnest⟩, C.2.2.2.2.1 _ hsel1, trivial⟩ ⟨pp_blind g _ w, pp_pre C hP hS As⟩ rfl (by rw [List.length_map]; exact hlen) hl.1 rfl (pp_rest g hst) hd ⟨by omega, by omega⟩) h1 h2 hk
  show 8 + (mj.nL + 11) + (40 * h + 200) ≤ _
  have := hR.2
  omega
end Calls
