/-! THE ENGINE, 2: words, methods, the judgements -/
def pp_ok (w : Cond) : Bool := match w with
  | .arrayClass _ => true
  | w => w.onTables && w.keepsFace
def pp_T : List Cond := lw_tbl.filter pp_ok
theorem pp_mem {w : Cond} (i : Nat) (h : lw_tbl[i]? = some w) (ok : pp_ok w = true) : w ∈ pp_T := List.mem_filter.mpr ⟨List.mem_of_getElem? h, ok⟩
theorem pp_word {w : Cond} {args a' : Array Value} {s U : State} (hW : s.WarmedH U.vm) (ok : pp_ok w = true) (h : w.before args s = true) : w.before a' U = true := by
  have key : (w.onTables && w.keepsFace) = true → w.before a' U = true := fun hc => by
    simp only [Bool.and_eq_true] at hc
    exact va_tabs hc.1 (rfl : (s.setVm U.vm).vm = U.vm) (Cond.before_shiftedFace (State.Shifted.of_warmed hW) _ hc.2 h)
  cases w with
  | arrayClass ty =>
    have h1 : (Cond.arrayClass ty).before args (s.setVm U.vm) = true := Cond.before_shiftedFace (State.Shifted.of_warmed hW) _ rfl h
    exact h1
  | _ => exact key ok
theorem pp_T_warm {args a' : Array Value} {s U : State} (hW : s.WarmedH U.vm) (h : ∀ w ∈ pp_T, w.before args s = true) : ∀ w ∈ pp_T, w.before a' U = true := fun w hw => pp_word hW (List.mem_filter.mp hw).2 (h w hw)
/-- a method: name, code, locals, answer; cells and slots that it may make; cells and slots at its labels; its handlers; what they answer; 0 static, 1 by a name, 2 a constructor; parameters -/
abbrev pp_MI : Type := MethodName × ByteArray × Nat × Option FieldType × (Nat × Nat) × List (Nat × Nat × Nat) × List (Nat × Nat × Nat × Nat) × List (String × Int32) × Nat × Nat
abbrev pp_MI.y (mi : pp_MI) : MethodName := mi.1
abbrev pp_MI.by_ (mi : pp_MI) : ByteArray := mi.2.1
abbrev pp_MI.nL (mi : pp_MI) : Nat := mi.2.2.1
abbrev pp_MI.ret (mi : pp_MI) : Option FieldType := mi.2.2.2.1
abbrev pp_MI.mc (mi : pp_MI) : Nat := mi.2.2.2.2.1.1
abbrev pp_MI.ms (mi : pp_MI) : Nat := mi.2.2.2.2.1.2
abbrev pp_MI.cnts (mi : pp_MI) : List (Nat × Nat × Nat) := mi.2.2.2.2.2.1
abbrev pp_MI.hh (mi : pp_MI) : List (Nat × Nat × Nat × Nat) := mi.2.2.2.2.2.2.1
abbrev pp_MI.hx (mi : pp_MI) : List (String × Int32) := mi.2.2.2.2.2.2.2.1
abbrev pp_MI.kd (mi : pp_MI) : Nat := mi.2.2.2.2.2.2.2.2.1
abbrev pp_MI.np (mi : pp_MI) : Nat := mi.2.2.2.2.2.2.2.2.2
def pp_cnt (mi : pp_MI) (pc : Nat) : Nat × Nat := (mi.cnts.lookup pc).getD (0, 0)
def pp_cw (mi : pp_MI) : Cond := if mi.hh = [] then .code mi.y mi.by_ mi.nL mi.ret else .codeWith mi.y mi.by_ mi.nL mi.ret mi.hh
def pp_room (h : Nat) (mi : pp_MI) : Room := { frames := h + 8, cells := mi.mc, slots := mi.ms, locals := 40 * h + 200 }
def pp_MIok (mi : pp_MI) : Prop := plainName mi.y.cls = true ∧ mi.nL ≤ 21 ∧ pp_cw mi ∈ pp_T ∧ Cond.initialized mi.y.cls ∈ pp_T ∧ (mi.y.cls ≠ "java/lang/invoke/MethodHandle" ∧ mi.y.cls ≠ "java/lang/invoke/VarHandle") ∧ (parseMethodDescriptor mi.y.desc).map (fun d => d.parameters.length) = some mi.np ∧
  (((mi.kd = 0 ∧ Cond.static mi.y ∈ pp_T) ∨ (mi.kd = 1 ∧ Cond.instanceMethod mi.y ∈ pp_T ∧ Cond.selects mi.y.cls mi.y mi.y ∈ pp_T) ∨ (mi.kd = 2 ∧ mi.y.name = "<init>" ∧ Cond.instanceMethod mi.y ∈ pp_T ∧ mi.ret = none)) ∧ mi.y ≠ yL_law)
def pp_tys (g : pp_G) : List (ClassId × FieldType) := [(pp_d g 0, .int), (pp_d g 1, .byte), (pp_d g 2, .boolean), (pp_d g 3, .long), (pp_d g 4, .object RX4)]
def pp_K (g : pp_G) (U : State) : Prop := va_K (pp_D g) pp_cl (pp_tys g) U
/-- the texts of the Strings, by their numbers -/
def pp_txt : List (List Int32) := [[109, 101, 109, 98, 101, 114], [118, 101, 114, 115, 105, 111, 110], [112, 97, 116, 101, 110, 116], [108, 105, 99, 101, 110, 115, 101, 101], [113, 117, 111, 114, 117, 109], [99, 97, 112], [99, 111, 115, 116, 115], [114, 101, 115, 101, 114, 118, 101], [108, 97, 116, 101], [99, 114, 101, 100, 105, 116], [112, 101, 110, 97, 108, 116, 121], [119, 101, 105, 103, 104, 116], [112, 97, 116, 101, 110, 116, 115], [112, 97, 105, 114, 115], [100, 97, 121, 115]]
/-- what lies outside and stays: Strings and their entries, texts of exceptions, statics, what isn't castable, a nest mate's link, the script -/
def pp_Str (g : pp_G) (U : State) (H : Heap) : Prop := ∀ i : Nat, i < 15 → va_O "java/lang/String" (pp_x g (i + 1)) (pp_A g) U H ∧ va_OF "java/lang/String" "coder" "B" (.int 0) (pp_x g (i + 1)) (pp_A g) U H ∧ va_OF "java/lang/String" "value" "[B" (.ref (pp_x g (i + 16))) (pp_x g (i + 1)) (pp_A g) U H ∧ va_T .byte (pp_x g (i + 16)) (pp_txt.getD i []).length (fun j => .int ((pp_txt.getD i []).getD j 0)) (pp_A g) U H
def pp_strs : List (String × Nat × String × Nat) := [(RX5, 94, "member", 1), (RX5, 100, "version", 2), (RX5, 102, "patent", 3), (RX5, 104, "licensee", 4), (RX5, 106, "quorum", 5), (RX5, 108, "cap", 6), (RX5, 110, "costs", 7), (RX5, 112, "reserve", 8), (RX5, 114, "late", 9), (RX5, 116, "credit", 10), (RX5, 118, "penalty", 11), (RX5, 120, "weight", 12), (RX5, 202, "patents", 13), (RX5, 203, "pairs", 14), (RX5, 205, "days", 15), (RX9, 170, "member", 1), (RX9, 186, "version", 2), (RX9, 188, "patent", 3), (RX9, 190, "licensee", 4), (RX9, 196, "quorum", 5), (RX9, 205, "cap", 6), (RX9, 207, "costs", 7), (RX9, 209, "reserve", 8), (RX9, 211, "late", 9), (RX9, 213, "credit", 10), (RX9, 215, "penalty", 11), (RX9, 217, "weight", 12), (RX9, 234, "patents", 13), (RX9, 235, "pairs", 14), (RX9, 237, "days", 15)]
def pp_msgs : List (Nat × String) := [(76, "length is out of range"), (116, "what is out of range"), (167, "days is out of range"), (170, "amount is out of range"), (231, "the day would be too late"), (237, "there are too many members"), (242, "expiry is out of range"), (244, "there are too many patents"), (251, "there is no such reviewer"), (257, "the version is not released or the patent not in force"), (259, "there are no votes"), (261, "units is out of range"), (263, "the version is not released"), (272, "there was a credit in this period already"), (288, "the credit would be 0"), (300, "nothing was received"), (316, "the account is 0"), (325, "the slot is empty"), (327, "there is no such member"), (329, "there is no such version"), (331, "there is no such patent"), (333, "there is no such licensee"), (335, "there is no such slot")]
def pp_ncs : List (String × String) := [("java/lang/IllegalArgumentException", "java/lang/IllegalStateException"), ("java/lang/IllegalArgumentException", "java/lang/IndexOutOfBoundsException"), ("java/lang/IllegalStateException", "java/lang/IllegalArgumentException"), ("java/lang/IllegalStateException", "java/lang/IndexOutOfBoundsException"), ("java/lang/IndexOutOfBoundsException", "java/lang/IllegalArgumentException"), ("java/lang/IndexOutOfBoundsException", "java/lang/IllegalStateException")]
def pp_nest : Cond := .methodLinkNest RX0 19 yX8_pairOf RX8
def pp_Ext (g : pp_G) (U : State) (H : Heap) : Prop :=
  pp_Str g U H ∧ (∀ q ∈ pp_strs, vk_R q.1 q.2.1 q.2.2.1 (pp_x g q.2.2.2) U) ∧ (∀ q ∈ pp_msgs, ∃ sa : Nat, vk_R RX8 q.1 q.2 sa U) ∧
  vx_Zq Bundle.tN "UNASSIGNED_STACK" Bundle.steD (pp_A g) U H ∧ vx_Zq Bundle.tN "SUPPRESSED_SENTINEL" Bundle.listD (pp_A g) U H ∧ (∀ q ∈ pp_ncs, va_Nc q.1 q.2 U) ∧ va_Nw pp_nest U ∧
  va_Z "java/lang/String" "COMPACT_STRINGS" "Z" (.int 1) (pp_A g) U H ∧ (va_Z "jdk/internal/util/Preconditions" "SIOOBE_FORMATTER" "Ljava/util/function/BiFunction;" .null (pp_A g) U H ∨ va_Z "jdk/internal/util/Preconditions" "SIOOBE_FORMATTER" "Ljava/util/function/BiFunction;" (.ref (pp_x g 31)) (pp_A g) U H) ∧ va_AO RX4 U
theorem pp_Ext.moved {g : pp_G} {u U : State} {H : Heap} (hW : u.WarmedH U.vm) (h : pp_Ext g u H) : pp_Ext g U H := by
  obtain ⟨h1, h2, h3, h4, h5, h6, h7, h8, h9, h10⟩ := h
  have hvm := hW.alike
  exact ⟨fun i hi => ⟨va_O.moved hvm (h1 i hi).1, va_OF.moved hvm (h1 i hi).2.1, va_OF.moved hvm (h1 i hi).2.2.1, va_T.moved hvm (h1 i hi).2.2.2⟩, fun q hq => vk_R.warm hW (h2 q hq), fun q hq => (h3 q hq).imp fun _ h => vk_R.warm hW h,
    vx_Zq.moved hvm h4, vx_Zq.moved hvm h5, fun q hq => va_Nc.moved hvm (h6 q hq), va_Nw.warmM hW h7, va_Z.moved hvm h8, h9.imp (va_Z.moved hvm) (va_Z.moved hvm), va_AO.moved hvm h10⟩
theorem pp_Ext.kept {g : pp_G} {U : State} {H H1 : Heap} (h : pp_Ext g U H) (hq : ∀ a : Nat, a < H.size → ¬ pp_A g a → H1[a]? = H[a]?) : pp_Ext g U H1 := by
  obtain ⟨h1, h2, h3, h4, h5, h6, h7, h8, h9, h10⟩ := h
  exact ⟨fun i hi => ⟨(h1 i hi).1.kept hq, (h1 i hi).2.1.kept hq, (h1 i hi).2.2.1.kept hq, (h1 i hi).2.2.2.kept hq⟩, h2, h3, h4.kept hq, h5.kept hq, h6, h7, h8.kept hq, h9.imp (fun z => z.kept hq) (fun z => z.kept hq), h10⟩
theorem pp_K.moved {g : pp_G} {u U : State} (hvm : u.vm.Alike U.vm) (h : pp_K g u) : pp_K g U := va_K.moved hvm h
/-- where a method stands: its machine, state at its entry, name, arguments, what lies below, itself, its code -/
abbrev pp_CT : Type := Program × Env × State × MethodId × Array Value × List Frame × Method × Code
abbrev pp_CT.p (t : pp_CT) : Program := t.1
abbrev pp_CT.e (t : pp_CT) : Env := t.2.1
abbrev pp_CT.s (t : pp_CT) : State := t.2.2.1
abbrev pp_CT.m (t : pp_CT) : MethodId := t.2.2.2.1
abbrev pp_CT.args (t : pp_CT) : Array Value := t.2.2.2.2.1
abbrev pp_CT.below (t : pp_CT) : List Frame := t.2.2.2.2.2.1
abbrev pp_CT.meth (t : pp_CT) : Method := t.2.2.2.2.2.2.1
abbrev pp_CT.c (t : pp_CT) : Code := t.2.2.2.2.2.2.2
def pp_Cx (g : pp_G) (mi : pp_MI) (t : pp_CT) : Prop :=
  t.p.tables.exec = Jvm.exec ∧ t.c.code = mi.by_ ∧ t.c.maxLocals = mi.nL ∧ t.s.vm.findClass mi.y.cls = some t.m.cls ∧ (∀ w ∈ pp_T, w.before t.args t.s = true) ∧ t.meth.sig.returnType = mi.ret ∧ t.meth.locks = false ∧ t.meth.name = mi.y.name ∧
  t.c.exceptionTable.toList = tableOf mi.hh ∧ pp_K g t.s ∧ pp_Ext g t.s t.s.heap ∧ pp_b g ≤ t.s.heap.size ∧ (pp_l g).stackTraces = false ∧ (mi.y = yL_law → va_X (pp_x g 0) (pp_sL g) (pp_sx g) t.s t.s.heap ∧ pp_x g 0 < pp_b g)
abbrev pp_Wt (g : pp_G) (R : Room) (t : pp_CT) (H : Heap) (locs : List Loc) (cells slots : Nat) (Q : State → Prop) (f : JFrame) : Prop := W t.p (pp_l g) t.e R t.s t.m t.args t.below t.meth t.c H locs cells slots Q f
/-- the locals that are known -/
def pp_ls (g : pp_G) (L : List (Nat × Value)) : List (Nat × Value) := L.map (fun q => (q.1, pp_v g q.2))
/-- THE JUDGEMENT: at pc, with these locals, this stack and this world, the machine comes to Z -/
def pp_ATc (g : pp_G) (R : Room) (mi : pp_MI) (Z : pp_CT → State → Prop) (cs : Nat × Nat) (pc : Nat) (L : List (Nat × Value)) (st : List Value) (w : pp_W) : Prop :=
  ∀ t : pp_CT, pp_Cx g mi t → ∀ (H : Heap) (locs : List Loc) (ls : Array Slot) (cells slots : Nat), pp_Rep g w H → va_S (pp_A g) t.s.heap H locs → lv_has ls mi.nL (pp_ls g L) → cells ≤ cs.1 → slots ≤ cs.2 →
    pp_Wt g R t H locs cells slots (Z t) (F0 t.m pc ls (st.map (pp_v g)))
def pp_AT (g : pp_G) (R : Room) (mi : pp_MI) (Z : pp_CT → State → Prop) (off : Nat × Nat) (pc : Nat) (L : List (Nat × Value)) (st : List Value) (w : pp_W) : Prop :=
  pp_ATc g R mi Z (off.1 + (pp_cnt mi pc).1, off.2 + (pp_cnt mi pc).2) pc L st w
theorem pp_ATc.le {g : pp_G} {R : Room} {mi : pp_MI} {Z : pp_CT → State → Prop} {cs cs' : Nat × Nat} {pc : Nat} {L : List (Nat × Value)} {st : List Value} {w : pp_W} (h : pp_ATc g R mi Z cs' pc L st w) (h1 : cs.1 ≤ cs'.1) (h2 : cs.2 ≤ cs'.2) : pp_ATc g R mi Z cs pc L st w :=
  fun t hc H locs ls cells slots hP hS hl a b => h t hc H locs ls cells slots hP hS hl (Nat.le_trans a h1) (Nat.le_trans b h2)
/-- fewer locals -/
theorem pp_ATc.sub {g : pp_G} {R : Room} {mi : pp_MI} {Z : pp_CT → State → Prop} {cs : Nat × Nat} {pc : Nat} {L L' : List (Nat × Value)} {st : List Value} {w : pp_W} (h : pp_ATc g R mi Z cs pc L' st w) (hL : ∀ q ∈ L', q ∈ L) : pp_ATc g R mi Z cs pc L st w :=
  fun t hc H locs ls cells slots hP hS hl a b => h t hc H locs ls cells slots hP hS ⟨hl.1, hl.2.1, fun q hq => by
    obtain ⟨q', h1, rfl⟩ := List.mem_map.mp hq
    exact hl.2.2 _ (List.mem_map.mpr ⟨q', hL q' h1, rfl⟩)⟩ a b
/-- what is behind a method, and what a contract of it says -/
def pp_Qc (g : pp_G) (P : pp_R → pp_W → Prop) : Array Value → State → Outcome → State → Prop := fun _ st o t => ∃ (v : Option Value) (w : pp_W), o = .returned (v.map (pp_v g)) ∧ P (.inl v) w ∧ pp_Rep g w t.heap ∧ va_F (pp_A g) st t
def pp_XC (g : pp_G) (P : pp_R → pp_W → Prop) : String → State → State → Prop := fun E st t => ∃ w : pp_W, P (.inr E) w ∧ pp_Rep g w t.heap ∧ va_F (pp_A g) st t
def pp_Pc (g : pp_G) (av : List Value) (w : pp_W) : Array Value → State → Prop := fun v U => v = (av.map (pp_v g)).toArray ∧ pp_Rep g w U.heap ∧ pp_K g U ∧ pp_Ext g U U.heap ∧ (pp_l g).stackTraces = false
def pp_MW (g : pp_G) (h : Nat) (mi : pp_MI) (av : List Value) (w : pp_W) (P : pp_R → pp_W → Prop) : Prop :=
  pp_MIok mi ∧ vx_Met (pp_l g) mi.y (pp_cw mi :: pp_T) (pp_room h mi) (pp_Pc g av w) (pp_Qc g P) (pp_XC g P) mi.mc mi.ms (pp_A g)
def pp_Z (g : pp_G) (mi : pp_MI) (P : pp_R → pp_W → Prop) (t : pp_CT) : State → Prop := vx_MQ t.below (pp_Qc g P) (pp_XC g P) t.args t.s mi.mc mi.ms (pp_A g)
theorem pp_blind (g : pp_G) (av : List Value) (w : pp_W) : FrameBlind (pp_Pc g av w) := fun a U f mk q => ⟨q.1, q.2.1, va_K.moved (u := U) (U := U.calling f mk a) (Vm.Alike.refl U.vm) q.2.2.1, pp_Ext.moved (u := U) (U := U.calling f mk a) (State.WarmedH.refl U) q.2.2.2.1, q.2.2.2.2⟩
