section
/-! ===== BEGIN words of one list among another's, by their places ===== -/
theorem goodIn_r {big : List Cond} (ws : List Cond) (ps : List Nat) (hp : ws = ps.filterMap (fun i => big[i]?)) (h : ws.all goodWord = true) : GoodIn big ws := by
  intro w hw
  have h1 := List.all_eq_true.mp h w hw
  rw [hp] at hw
  obtain ⟨i, -, hi⟩ := List.mem_filterMap.mp hw
  have hm : w ∈ big := by first | exact List.mem_of_getElem? hi | exact List.getElem?_mem hi
  exact ⟨hm, good_of_word h1⟩
theorem goodIn_app {big a b : List Cond} (ha : GoodIn big a) (hb : GoodIn big b) : GoodIn big (a ++ b) := fun w h => (List.mem_append.mp h).elim (ha w) (hb w)
theorem goodIn_ca {big a b : List Cond} {c : Cond} (ha : GoodIn big (c :: a)) (hb : GoodIn big b) : GoodIn big (c :: (a ++ b)) := fun w h => (List.mem_cons.mp h).elim (fun e => ha w (List.mem_cons.mpr (Or.inl e))) (fun h => (List.mem_append.mp h).elim (fun h => ha w (List.mem_cons.mpr (Or.inr h))) (hb w))
theorem goodIn_sub {big ws : List Cond} (hm : ∀ w ∈ ws, w ∈ big) (h : ws.all goodWord = true) : GoodIn big ws := fun w hw => ⟨hm w hw, good_of_word (List.all_eq_true.mp h w hw)⟩
/-! ===== END ===== -/

/-! ===== BEGIN exceptions that leave a method, and their catching by the caller (launches without stack traces) ===== -/
section VXA
/-! The laws vx_back, vx_callV, vx_callS, vx_callSW, vx_throw0, vx_throwS follow proofs of the library, with one case more: JvmDerived/Free/Laws.lean (Back.of_free), Shelf42/LK1.lean (callV, callS), Shelf/KitTraced.lean (throwNew0V, throwNewS). -/
/-- where a method has thrown q: the class by its name, the cell, what was written, the world -/
def vx_T (XC : String → State → State → Prop) (st : State) (q : Addr) (t : State) (mc ms : Nat) (free : Addr → Prop) : Prop :=
  ∃ (E : String) (ce : Cell) (L : List Loc), XC E st t ∧ t.heap[q]? = some ce ∧ ce.vm = .none ∧ st.vm.findClass E = some ce.cls ∧ st.WarmedH t.vm ∧ st.sameButNew ({ t with vm := st.vm } : State) L mc ms ∧ ∀ z ∈ L, free z.base
def vx_Q (Qc : Array Value → State → Outcome → State → Prop) (XC : String → State → State → Prop) (mc ms : Nat) (free : Addr → Prop) : Array Value → State → Outcome → State → Prop := fun a st o t =>
  (Qc a st o t ∧ ∃ L, FrameEnd st o t L mc ms ∧ ∀ q ∈ L, free q.base) ∨ ∃ q, o = .threw q ∧ vx_T XC st q t mc ms free
/-- a callee that returns or throws -/
def vx_Met (l : Launch) (y : MethodName) (ws : List Cond) (rm : Room) (Pc : Array Value → State → Prop) (Qc : Array Value → State → Outcome → State → Prop) (XC : String → State → State → Prop) (mc ms : Nat) (free : Addr → Prop) : Prop :=
  MetFree l y (headSpec ws rm) Pc (fun _ _ _ _ _ => True) (vx_Q Qc XC mc ms free)
def vx_Post (XC : String → State → State → Prop) (mc ms : Nat) (free : Addr → Prop) : Pt → Array Value → Addr → Pt → Prop := fun A a q B =>
  ∃ (g : JFrame) (mk : MethodId) (t : State) (L : List Loc) (E : String) (ce : Cell), B.U.heap = t.heap ∧ B.U.vm = t.vm ∧ XC E (A.U.calling g mk a) t ∧ t.heap[q]? = some ce ∧ ce.vm = .none ∧ A.U.vm.findClass E = some ce.cls ∧ B.locs = A.locs ++ L ∧ (∀ z ∈ L, free z.base) ∧ B.cells = A.cells + mc ∧ B.slots = A.slots + ms
def vx_Back (l : Launch) (R : Room) (p : Program) (e : Env) (below : List Frame) (s : State) (sargs : Array Value) (y : MethodName) (len W9 : Nat)
    (Pre : Pt → Array Value → Prop) (Post : Pt → Array Value → Option Value → Pt → Prop) (PostX : Pt → Array Value → Addr → Pt → Prop) : Prop :=
  ∀ (m : MethodId) (meth : Method) (c : Code) (A : Pt) (g : JFrame) (ig : Instr) (mk : MethodId) (a : Array Value),
    Stand p l e R s m sargs below meth c A.U A.locs A.cells A.slots → g.method = m → g.locals.size = c.maxLocals → decode c.code g.pc = .ok (ig, len) →
    2 * g.monitorRoom + (g.stack.map fun v => v.category).sum ≤ W9 → A.U.methodNamed? y = some mk → Pre A a →
    (∃ (v : Option Value) (B : Pt), Stand p l e R s m sargs below meth c B.U B.locs B.cells B.slots ∧ Post A a v B ∧
      Steps p.tables e below (doInvoke e (A.U.setTop g) [] mk a).1 (B.U.setTop { g with pc := g.pc + len, stack := v.toList ++ g.stack })) ∨
    (∃ (q : Addr) (B : Pt), Stand p l e R s m sargs below meth c B.U B.locs B.cells B.slots ∧ PostX A a q B ∧
      Steps p.tables e below (doInvoke e (A.U.setTop g) [] mk a).1 ((B.U.setTop g).pushFrame (.throwing q)))
section Payer
variable {l : Launch} {R : Room} {p : Program} {e : Env} {below : List Frame} {s : State} {sargs : Array Value} {y : MethodName} {len W9 : Nat}
theorem vx_back {ws : List Cond} {rm : Room} {Pc : Array Value → State → Prop} {Qc : Array Value → State → Outcome → State → Prop} {XC : String → State → State → Prop} {mc ms : Nat} {free : Addr → Prop} {bytes : ByteArray} {maxL : Nat} {ret : Option FieldType}
    (hM : vx_Met l y ws rm Pc Qc XC mc ms free) (hblind : FrameBlind Pc) (hrc : rm.cells = mc) (hrs : rm.slots = ms)
    (hframes : rm.frames + 1 ≤ R.frames) (hlocals : W9 + (maxL + 11) + rm.locals ≤ R.locals)
    (hws : ∀ w ∈ ws, ∀ a' U, s.WarmedH U.vm → w.before a' U = true) (hcode : Cond.code y bytes maxL ret ∈ ws) (hinit : ∀ a' U, s.WarmedH U.vm → (Cond.initialized y.cls).before a' U = true) :
    vx_Back l R p e below s sargs y len W9 (PreOf R mc ms Pc) (PostOf Qc mc ms free) (vx_Post XC mc ms free) := by
  intro m meth c A g ig mk a X hg hsize hdg hW hn hp
  have h1 : (headSpec ws rm).pre.before a A.U = true := atoms_intro fun w hw => hws w hw _ _ X.warmed
  have h2 : (Cond.code y bytes maxL ret).before a A.U = true := hws _ hcode _ _ X.warmed
  have h3 : (Cond.initialized y.cls).before a A.U = true := hinit _ _ X.warmed
  have h4 : A.cells + (headSpec ws rm).room.cells ≤ R.cells := by rw [show (headSpec ws rm).room.cells = mc from hrc]; exact hp.1
  have h5 : A.slots + (headSpec ws rm).room.slots ≤ R.slots := by rw [show (headSpec ws rm).room.slots = ms from hrs]; exact hp.2.1
  have hPc : Pc a (A.U.calling g mk a) := hblind _ _ _ _ hp.2.2
  obtain ⟨U, Ls, c0, s0⟩ := A
  dsimp only [Pt.U, Pt.locs, Pt.cells, Pt.slots] at h1 h2 h3 h4 h5 X hn hPc ⊢
  obtain ⟨methY, cY, hmY, hcY, -, hlY, -, -, -, -⟩ := Cond.code_spec hn h2
  obtain ⟨kY, hkY, -⟩ := className_of_methodNamed hn
  have hinitY : kY.init = .initialized := Cond.initialized_spec (findClass_of_methodNamed hn) hkY h3
  have h : At U g.method c below := by rw [hg]; exact X.here
  have hlocals9 : W9 + (maxL + 11) + (headSpec ws rm).room.locals ≤ R.locals := hlocals
  have happ : (headSpec ws rm).appliesLoose y e.platform (U.calling g mk a) = true :=
    Spec.appliesLoose_calling (g := g) h hdg hn hkY hinitY
      (X.room_calling (g := g) (R' := (headSpec ws rm).room) hsize hmY hcY hframes (by rw [hlY]; omega) h4 h5) h1
  obtain ⟨mid, hmid⟩ := h.above
  have hfr : (U.setTop g).frames = (.java g :: mid) ++ below := by rw [State.frames_setTop' g h.top, hmid]; rfl
  obtain ⟨o, s₂, hsteps, -, hend, hq⟩ := Steps.callFree hM p X.admits X.cas X.clock (acts := []) hfr happ hPc trivial
  have hq' : vx_Q Qc XC mc ms free a (U.calling g mk a) o s₂ := hq
  rw [State.frames_setTop' g h.top] at hend
  obtain ⟨g₀, hg0⟩ := Option.isSome_iff_exists.mp h.top
  obtain ⟨r, hr⟩ := State.topJava?_eq_some.mp hg0
  have hr' : (({ U with heap := s₂.heap, slotsUsed := s₂.slotsUsed } : State).setVm s₂.vm).frames = .java g₀ :: r := hr
  rcases hq' with ⟨hqc, L, hfe, hL⟩ | ⟨q, rfl, E, ce, L, hx, hce, hcv, hcl, hW₂, hsm, hL⟩
  · obtain ⟨⟨v, rfl⟩, hW₂, e2, q2, q3, q4, q5, q6⟩ := id hfe
    have e3 : s₂ = ({ (U.calling g mk a).setFrames s₂.frames with heap := s₂.heap, slotsUsed := s₂.slotsUsed } : State).setVm s₂.vm := by
      have : s₂ = ({ s₂ with vm := (U.calling g mk a).vm } : State).setVm s₂.vm := rfl
      rw [e2] at this
      exact this
    obtain ⟨c₂, i₂, len₂, hc₂, hd₂, hf₂⟩ := hend
    have hW' : U.WarmedH s₂.vm := hW₂
    have hcc : c₂ = c := by
      have h1 : s₂.code? g.method = U.code? g.method := by
        rw [State.code?_eq, State.code?_eq, hW'.alike.method?]
      exact Option.some.inj (hc₂.symm.trans (h1.trans h.code))
    subst hcc
    have hlen : len₂ = len := by rw [hdg] at hd₂; cases hd₂; rfl
    subst hlen
    have hs₂ : s₂ = (({ U with heap := s₂.heap, slotsUsed := s₂.slotsUsed } : State).setVm s₂.vm).setTop { g with pc := g.pc + len₂, stack := v.toList ++ g.stack } := by
      refine e3.trans ?_
      rw [hf₂, State.calling_eq h.top, State.setFrames_setFrames, State.setTop_of_frames _ hr', hr]
      rfl
    have hsame : U.sameButNew ({ U with heap := s₂.heap, slotsUsed := s₂.slotsUsed } : State) L mc ms := by
      refine ⟨?_, q2, q3, q4, q5, q6⟩
      obtain ⟨t, ht, -⟩ := State.frames_cons hr
      show ({ U with heap := s₂.heap, slotsUsed := s₂.slotsUsed } : State) = { U.setFrames U.frames with heap := s₂.heap, slotsUsed := s₂.slotsUsed }
      rw [State.setFrames_self ht]
    subst hg
    refine Or.inl ⟨v, ⟨(({ U with heap := s₂.heap, slotsUsed := s₂.slotsUsed } : State).setVm s₂.vm), Ls ++ L, c0 + mc, s0 + ms⟩,
      ⟨X.admits, X.cas, X.clock, X.frames, X.room, X.hears, X.method, X.code, (X.here.setHeapUsed s₂.heap s₂.slotsUsed).setVm hW'.alike, X.tail, State.WarmedH.trans X.warmed hW', X.limits, X.bytes, X.same.trans (hsame.setVm s.vm)⟩,
      ⟨g, mk, s₂, L, rfl, rfl, hqc, rfl, hL, rfl, rfl⟩, ?_⟩
    show Steps p.tables e below _ ((({ U with heap := s₂.heap, slotsUsed := s₂.slotsUsed } : State).setVm s₂.vm).setTop { g with pc := g.pc + len₂, stack := v.toList ++ g.stack })
    rw [← hs₂]
    exact hsteps
  · obtain ⟨e2, q2, q3, q4, q5, q6⟩ := id hsm
    have e3 : s₂ = ({ (U.calling g mk a).setFrames s₂.frames with heap := s₂.heap, slotsUsed := s₂.slotsUsed } : State).setVm s₂.vm := by
      have : s₂ = ({ s₂ with vm := (U.calling g mk a).vm } : State).setVm s₂.vm := rfl
      rw [e2] at this
      exact this
    have hf₂ : s₂.frames = .throwing q :: .java g :: U.frames.tail := hend
    have hW' : U.WarmedH s₂.vm := hW₂
    have hs₂ : s₂ = ((({ U with heap := s₂.heap, slotsUsed := s₂.slotsUsed } : State).setVm s₂.vm).setTop g).pushFrame (.throwing q) := by
      refine e3.trans ?_
      rw [hf₂, State.calling_eq h.top, State.setFrames_setFrames, State.pushFrame, State.frames_setTop _ hr', State.setTop_of_frames _ hr', State.setFrames_setFrames, hr]
      rfl
    have hsame : U.sameButNew ({ U with heap := s₂.heap, slotsUsed := s₂.slotsUsed } : State) L mc ms := by
      refine ⟨?_, q2, q3, q4, q5, q6⟩
      obtain ⟨t, ht, -⟩ := State.frames_cons hr
      show ({ U with heap := s₂.heap, slotsUsed := s₂.slotsUsed } : State) = { U.setFrames U.frames with heap := s₂.heap, slotsUsed := s₂.slotsUsed }
      rw [State.setFrames_self ht]
    subst hg
    refine Or.inr ⟨q, ⟨(({ U with heap := s₂.heap, slotsUsed := s₂.slotsUsed } : State).setVm s₂.vm), Ls ++ L, c0 + mc, s0 + ms⟩,
      ⟨X.admits, X.cas, X.clock, X.frames, X.room, X.hears, X.method, X.code, (X.here.setHeapUsed s₂.heap s₂.slotsUsed).setVm hW'.alike, X.tail, State.WarmedH.trans X.warmed hW', X.limits, X.bytes, X.same.trans (hsame.setVm s.vm)⟩,
      ⟨g, mk, s₂, L, E, ce, rfl, rfl, hx, hce, hcv, hcl, rfl, hL, rfl, rfl⟩, ?_⟩
    show Steps p.tables e below _ (((({ U with heap := s₂.heap, slotsUsed := s₂.slotsUsed } : State).setVm s₂.vm).setTop g).pushFrame (.throwing q))
    rw [← hs₂]
    exact hsteps
end Payer
section Calls
variable {p : Program} {l : Launch} {e : Env} {R : Room} {s : State} {m : MethodId} {args : Array Value} {below : List Frame} {meth : Method} {c : Code} {T : State} {locs : List Loc} {cells slots : Nat}
theorem vx_callV (X : Stand p l e R s m args below meth c T locs cells slots) (hexec : p.tables.exec = Jvm.exec) {own C : String} {index : Nat} {y : MethodName} {bytes : ByteArray} {maxL : Nat} {ret : Option FieldType}
    (hown : s.vm.findClass own = some m.cls) (hlink : (Cond.methodLink own index y).before args s = true) (hinst : (Cond.instanceMethod y).before args s = true) (hsel : (Cond.selects C y y).before args s = true)
    (hcode : (Cond.code y bytes maxL ret).before args s = true) (hy : y.cls ≠ "java/lang/invoke/MethodHandle" ∧ y.cls ≠ "java/lang/invoke/VarHandle")
    {W9 : Nat} {Pre : Pt → Array Value → Prop} {Post : Pt → Array Value → Option Value → Pt → Prop} {PostX : Pt → Array Value → Addr → Pt → Prop} (hK : vx_Back l R p e below s args y 3 W9 Pre Post PostX)
    {b : Addr} {cellB : Cell} (hcell : T.heap[b]? = some cellB) (hobj : cellB.vm.isStatics = false) (hcls : s.vm.findClass C = some cellB.cls)
    {g : JFrame} (hg : g.method = m) (hsize : g.locals.size = c.maxLocals) {argsL rest : List Value} (hlen : ∀ sig, parseMethodDescriptor y.desc = some sig → argsL.length = sig.parameters.length)
    (hstack : g.stack = argsL.reverse ++ .ref b :: rest) (hW : 2 * g.monitorRoom + (rest.map fun v => v.category).sum ≤ W9) (hdg : decode c.code g.pc = .ok (.invokevirtual index, 3))
    (hpre : ∀ vm₁, s.WarmedH vm₁ → Pre ⟨T.setVm vm₁, locs, cells, slots⟩ (Value.ref b :: argsL).toArray) :
    (∃ (v : Option Value) (vm₁ : Vm) (B : Pt), s.WarmedH vm₁ ∧ Stand p l e R s m args below meth c B.U B.locs B.cells B.slots ∧ Post ⟨T.setVm vm₁, locs, cells, slots⟩ (Value.ref b :: argsL).toArray v B ∧
      ∀ target, Steps p.tables e below (B.U.setTop { g with pc := g.pc + 3, stack := v.toList ++ rest }) target → Steps p.tables e below (T.setTop g) target) ∨
    (∃ (q : Addr) (vm₁ : Vm) (B : Pt), s.WarmedH vm₁ ∧ Stand p l e R s m args below meth c B.U B.locs B.cells B.slots ∧ PostX ⟨T.setVm vm₁, locs, cells, slots⟩ (Value.ref b :: argsL).toArray q B ∧
      Steps p.tables e below (T.setTop g) ((B.U.setTop { g with stack := rest }).pushFrame (.throwing q))) := by
  obtain ⟨mk, methM, hnamed, hmethM, hstM, habM⟩ := Cond.instanceMethod_spec hinst
  obtain ⟨methM', cM, hmethM', -, -, -, -, -, -, hsigM⟩ := Cond.code_spec hnamed hcode
  cases hmethM.symm.trans hmethM'
  obtain ⟨c2, r2, m2, q1, q2, q3, q4, kP, hkP, hkPi⟩ := Cond.selects_spec hsel
  cases hcls.symm.trans q1
  cases (State.methodFound?_of_named hnamed hy).symm.trans q2
  cases hnamed.symm.trans q3
  have hselP : selectMethod e.platform s.vm cellB.cls mk = .method mk := by rw [Launch.admits_selectMethod X.admits]; exact q4
  obtain ⟨vm₁, X₁, hstep₁⟩ := X.invokevirtual hexec hown hlink hnamed hmethM hstM hkP hkPi hy (a := b) (cell := cellB) hcell
    (fun z h => by rw [h] at hobj; cases hobj) hselP hmethM habM hkP hkPi (g := g) hg (argsL := argsL) (rest := rest) (hlen _ hsigM) hstack hdg
  rcases hK m meth c ⟨T.setVm vm₁, locs, cells, slots⟩ { g with stack := rest } (.invokevirtual index) mk (Value.ref b :: argsL).toArray X₁ hg hsize hdg hW (X₁.named hnamed) (hpre vm₁ X₁.warmed) with ⟨v, B, X', hpost, hsteps⟩ | ⟨q, B, X', hpost, hsteps⟩
  · exact Or.inl ⟨v, vm₁, B, X₁.warmed, X', hpost, fun target h => hstep₁ _ fun acts => by rw [doInvoke_state]; exact hsteps.trans h⟩
  · exact Or.inr ⟨q, vm₁, B, X₁.warmed, X', hpost, hstep₁ _ fun acts => by rw [doInvoke_state]; exact hsteps⟩
theorem vx_callS (X : Stand p l e R s m args below meth c T locs cells slots) (hexec : p.tables.exec = Jvm.exec) {own : String} {index : Nat} {y : MethodName} {bytes : ByteArray} {maxL : Nat} {ret : Option FieldType}
    (hown : s.vm.findClass own = some m.cls) (hlink : (Cond.methodLink own index y).before args s = true) (hstat : (Cond.static y).before args s = true) (hinit : (Cond.initialized y.cls).before args s = true)
    (hcode : (Cond.code y bytes maxL ret).before args s = true) (hy : y.cls ≠ "java/lang/invoke/MethodHandle" ∧ y.cls ≠ "java/lang/invoke/VarHandle")
    {W9 : Nat} {Pre : Pt → Array Value → Prop} {Post : Pt → Array Value → Option Value → Pt → Prop} {PostX : Pt → Array Value → Addr → Pt → Prop} (hK : vx_Back l R p e below s args y 3 W9 Pre Post PostX)
    {g : JFrame} (hg : g.method = m) (hsize : g.locals.size = c.maxLocals) {argsL rest : List Value} (hlen : ∀ sig, parseMethodDescriptor y.desc = some sig → argsL.length = sig.parameters.length)
    (hstack : g.stack = argsL.reverse ++ rest) (hW : 2 * g.monitorRoom + (rest.map fun v => v.category).sum ≤ W9) (hdg : decode c.code g.pc = .ok (.invokestatic index, 3))
    (hpre : ∀ vm₁, s.WarmedH vm₁ → Pre ⟨T.setVm vm₁, locs, cells, slots⟩ argsL.toArray) :
    (∃ (v : Option Value) (vm₁ : Vm) (B : Pt), s.WarmedH vm₁ ∧ Stand p l e R s m args below meth c B.U B.locs B.cells B.slots ∧ Post ⟨T.setVm vm₁, locs, cells, slots⟩ argsL.toArray v B ∧
      ∀ target, Steps p.tables e below (B.U.setTop { g with pc := g.pc + 3, stack := v.toList ++ rest }) target → Steps p.tables e below (T.setTop g) target) ∨
    (∃ (q : Addr) (vm₁ : Vm) (B : Pt), s.WarmedH vm₁ ∧ Stand p l e R s m args below meth c B.U B.locs B.cells B.slots ∧ PostX ⟨T.setVm vm₁, locs, cells, slots⟩ argsL.toArray q B ∧
      Steps p.tables e below (T.setTop g) ((B.U.setTop { g with stack := rest }).pushFrame (.throwing q))) := by
  obtain ⟨mk, hnamed⟩ := Cond.code_named hcode
  obtain ⟨methM, cM, hmethM, -, -, -, -, -, -, hsigM⟩ := Cond.code_spec hnamed hcode
  have hstatic : methM.isStatic = true := Cond.static_spec hnamed hmethM hstat
  obtain ⟨kP, hkP, -⟩ := className_of_methodNamed hnamed
  have hinitP : kP.init = .initialized := Cond.initialized_spec (findClass_of_methodNamed hnamed) hkP hinit
  obtain ⟨vm₁, X₁, hstep₁⟩ := X.invokestatic hexec hown hlink hnamed hmethM hstatic hkP hinitP hy (g := g) hg (argsL := argsL) (rest := rest) (hlen _ hsigM) hstack hdg
  rcases hK m meth c ⟨T.setVm vm₁, locs, cells, slots⟩ { g with stack := rest } (.invokestatic index) mk argsL.toArray X₁ hg hsize hdg hW (X₁.named hnamed) (hpre vm₁ X₁.warmed) with ⟨v, B, X', hpost, hsteps⟩ | ⟨q, B, X', hpost, hsteps⟩
  · exact Or.inl ⟨v, vm₁, B, X₁.warmed, X', hpost, fun target h => hstep₁ _ fun acts => by rw [doInvoke_state]; exact hsteps.trans h⟩
  · exact Or.inr ⟨q, vm₁, B, X₁.warmed, X', hpost, hstep₁ _ fun acts => by rw [doInvoke_state]; exact hsteps⟩
end Calls
theorem vx_cls {s : State} {T : State} {vm₁ : Vm} {E : String} {k : ClassId} (hW : s.WarmedH vm₁) (h : (T.setVm vm₁).vm.findClass E = some k) : s.vm.findClass E = some k := by
  have h1 : vm₁.findClass E = some k := h
  rw [hW.alike.findClass] at h1
  exact h1
/-- the method's frame g, with q thrown over it -/
def vx_W (p : Program) (l : Launch) (e : Env) (R : Room) (s : State) (m : MethodId) (args : Array Value) (below : List Frame) (meth : Method) (c : Code) (H : Heap) (locs : List Loc) (cells slots : Nat) (Q : State → Prop) (g : JFrame) (q : Addr) : Prop :=
  ∀ T : State, T.heap = H → Stand p l e R s m args below meth c T locs cells slots → ∃ t, Steps p.tables e below ((T.setTop g).pushFrame (.throwing q)) t ∧ Q t
def vx_Run (p : Program) (l : Launch) (e : Env) (R : Room) (s : State) (m : MethodId) (args : Array Value) (below : List Frame) (meth : Method) (c : Code) (H : Heap) (locs : List Loc) (cells slots mc ms : Nat) (g : JFrame) (rest : List Value) (Qa : State → Outcome → State → Prop) (XC : String → State → State → Prop) (free : Addr → Prop) : Prop :=
  ∀ T : State, T.heap = H → Stand p l e R s m args below meth c T locs cells slots →
    (∃ (v : Option Value) (st₀ t T' : State) (L : List Loc), st₀.heap = H ∧ Stand p l e R s m args below meth c T' (locs ++ L) (cells + mc) (slots + ms) ∧ (∀ q ∈ L, free q.base) ∧ T'.heap = t.heap ∧ T'.vm = t.vm ∧ Qa st₀ (.returned v) t ∧
      Goes p e below T g T' { g with pc := g.pc + 3, stack := v.toList ++ rest }) ∨
    (∃ (q : Addr) (st₀ t T' : State) (L : List Loc) (E : String) (ce : Cell), st₀.heap = H ∧ Stand p l e R s m args below meth c T' (locs ++ L) (cells + mc) (slots + ms) ∧ (∀ z ∈ L, free z.base) ∧ T'.heap = t.heap ∧ T'.vm = t.vm ∧ XC E st₀ t ∧ t.heap[q]? = some ce ∧ ce.vm = .none ∧ s.vm.findClass E = some ce.cls ∧
      Steps p.tables e below (T.setTop g) ((T'.setTop { g with stack := rest }).pushFrame (.throwing q)))
def vx_X {S : Type} (px : S → Prop) (B : String → S → State → Prop) (A : Nat → Prop) : String → State → State → Prop := fun E st t => ∃ u : S, px u ∧ B E u t ∧ va_F A st t
section Runs
variable {p : Program} {l : Launch} {e : Env} {R : Room} {s : State} {m : MethodId} {args : Array Value} {below : List Frame} {meth : Method} {c : Code} {H : Heap} {locs : List Loc} {cells slots : Nat}
variable {y : MethodName} {bytes cc : ByteArray} {maxL nL mc ms n index : Nat} {ret : Option FieldType} {ws : List Cond} {rm : Room} {Pc : Array Value → State → Prop} {Qc : Array Value → State → Outcome → State → Prop} {XC : String → State → State → Prop} {free : Addr → Prop} {Ts : List Cond} {own C : String} {b : Addr} {As rest : List Value} {g : JFrame}
theorem vx_callBack (cb : CallB R s args own index y bytes maxL ret ws rm mc ms n) (hM : vx_Met l y ws rm Pc Qc XC mc ms free) (hbl : FrameBlind Pc) : vx_Back l R p e below s args y 3 8 (PreOf R mc ms Pc) (PostOf Qc mc ms free) (vx_Post XC mc ms free) := by
  obtain ⟨hrc, hrs, hfr, hlo, hws, hcw, -, hini, -⟩ := cb
  exact vx_back (bytes := bytes) (maxL := maxL) (ret := ret) hM hbl hrc hrs hfr hlo hws hcw (fun a' U hW => word_at hW (Or.inl (by first | rfl | simp [Cond.onTables, Cond.keeps, Cond.steady])) hini)
theorem vx_runV (S : CallFix p m c cc nL s args Ts own) (hM : vx_Met l y ws rm Pc Qc XC mc ms free) (cw : CallW R s args own C index y bytes maxL ret ws rm mc ms n) (hp : PreV s H C b Pc As)
    (hg : g.method = m) (hn : As.length = n) (hsize : g.locals.size = nL) (hstack : g.stack = As.reverse ++ .ref b :: rest) (hW : 2 * g.monitorRoom + (rest.map fun v => v.category).sum ≤ 8) (hdg : decode cc g.pc = .ok (.invokevirtual index, 3)) (hf : cells + mc ≤ R.cells ∧ slots + ms ≤ R.slots) :
    vx_Run p l e R s m args below meth c H locs cells slots mc ms g rest (Qc (Value.ref b :: As).toArray) XC free := by
  have hK : vx_Back l R p e below s args y 3 8 (PreOf R mc ms Pc) (PostOf Qc mc ms free) (vx_Post XC mc ms free) := vx_callBack cw.1 hM hp.1
  obtain ⟨⟨-, -, -, -, -, -, hcode, -, hy, hlen, hl⟩, hin, hse⟩ := cw
  obtain ⟨hx, hb, hml, ho, -⟩ := S
  obtain ⟨-, ⟨cellB, hcB, hoB, hclB⟩, hPc⟩ := hp
  intro T hT X
  rcases vx_callV X hx (C := C) (bytes := bytes) (maxL := maxL) (ret := ret) ho hl hin hse hcode hy hK (by rw [hT]; exact hcB) hoB hclB hg (hsize.trans hml.symm) (argsL := As) (rest := rest) (fun sig h => hn.trans (hlen sig h)) hstack hW (by rw [hb]; exact hdg)
    (fun vm₁ hW₁ => ⟨hf.1, hf.2, hPc (T.setVm vm₁) hT hW₁⟩) with ⟨v, vm₁, ⟨U', l2, c2, s2⟩, hW₁, X', ⟨g', mk, t, L, e1, e2, hq, h1, hL, h2, h3⟩, st⟩ | ⟨q, vm₁, ⟨U', l2, c2, s2⟩, hW₁, X', ⟨g', mk, t, L, E, ce, e1, e2, hq, hce, hcv, hcl, h1, hL, h2, h3⟩, st⟩
  · dsimp only [Pt.U, Pt.locs, Pt.cells, Pt.slots] at X' e1 e2 h1 h2 h3 st
    subst h1; subst h2; subst h3
    exact Or.inl ⟨v, (T.setVm vm₁).calling g' mk (Value.ref b :: As).toArray, t, U', L, hT, X', hL, e1, e2, hq, st⟩
  · dsimp only [Pt.U, Pt.locs, Pt.cells, Pt.slots] at X' e1 e2 h1 h2 h3 st hcl
    subst h1; subst h2; subst h3
    exact Or.inr ⟨q, (T.setVm vm₁).calling g' mk (Value.ref b :: As).toArray, t, U', L, E, ce, hT, X', hL, e1, e2, hq, hce, hcv, vx_cls hW₁ hcl, st⟩
theorem vx_runS (S : CallFix p m c cc nL s args Ts own) (hM : vx_Met l y ws rm Pc Qc XC mc ms free) (cw : CallB R s args own index y bytes maxL ret ws rm mc ms n ∧ (Cond.static y).before args s = true) (hp : PreS s H Pc As)
    (hg : g.method = m) (hn : As.length = n) (hsize : g.locals.size = nL) (hstack : g.stack = As.reverse ++ rest) (hW : 2 * g.monitorRoom + (rest.map fun v => v.category).sum ≤ 8) (hdg : decode cc g.pc = .ok (.invokestatic index, 3)) (hf : cells + mc ≤ R.cells ∧ slots + ms ≤ R.slots) :
    vx_Run p l e R s m args below meth c H locs cells slots mc ms g rest (Qc As.toArray) XC free := by
  have hK : vx_Back l R p e below s args y 3 8 (PreOf R mc ms Pc) (PostOf Qc mc ms free) (vx_Post XC mc ms free) := vx_callBack cw.1 hM hp.1
  obtain ⟨⟨-, -, -, -, -, -, hcode, hini, hy, hlen, hl⟩, hstt⟩ := cw
  obtain ⟨hx, hb, hml, ho, -⟩ := S
  intro T hT X
  rcases vx_callS X hx (bytes := bytes) (maxL := maxL) (ret := ret) ho hl hstt hini hcode hy hK hg (hsize.trans hml.symm) (argsL := As) (rest := rest) (fun sig h => hn.trans (hlen sig h)) hstack hW (by rw [hb]; exact hdg)
    (fun vm₁ hW₁ => ⟨hf.1, hf.2, hp.2 (T.setVm vm₁) hT hW₁⟩) with ⟨v, vm₁, ⟨U', l2, c2, s2⟩, hW₁, X', ⟨g', mk, t, L, e1, e2, hq, h1, hL, h2, h3⟩, st⟩ | ⟨q, vm₁, ⟨U', l2, c2, s2⟩, hW₁, X', ⟨g', mk, t, L, E, ce, e1, e2, hq, hce, hcv, hcl, h1, hL, h2, h3⟩, st⟩
  · dsimp only [Pt.U, Pt.locs, Pt.cells, Pt.slots] at X' e1 e2 h1 h2 h3 st
    subst h1; subst h2; subst h3
    exact Or.inl ⟨v, (T.setVm vm₁).calling g' mk As.toArray, t, U', L, hT, X', hL, e1, e2, hq, st⟩
  · dsimp only [Pt.U, Pt.locs, Pt.cells, Pt.slots] at X' e1 e2 h1 h2 h3 st hcl
    subst h1; subst h2; subst h3
    exact Or.inr ⟨q, (T.setVm vm₁).calling g' mk As.toArray, t, U', L, E, ce, hT, X', hL, e1, e2, hq, hce, hcv, vx_cls hW₁ hcl, st⟩
end Runs
section Rows
variable {p : Program} {l : Launch} {e : Env} {R : Room} {s : State} {m : MethodId} {args : Array Value} {below : List Frame} {meth : Method} {c : Code} {H : Heap} {locs : List Loc} {cells slots : Nat} {Q : State → Prop}
variable {mc ms : Nat} {free : Addr → Prop} {A0 A1 : Nat → Prop} {H0 : Heap} {a : Array Value} {pc : Nat} {ls : Array Slot} {st0 rest : List Value}
theorem vx_keep {st₀ t T' : State} {L : List Loc} (h0 : st₀.heap = H) (e1 : T'.heap = t.heap) (hS : va_S A0 H0 H locs) (hA : ∀ q, q < H.size → A1 q → A0 q) (hf : ∀ q, free q → A0 q) (hL : ∀ q ∈ L, free q.base) (hF : va_F A1 st₀ t) :
    H.size ≤ T'.heap.size ∧ (∀ q : Nat, q < H.size → ¬ A1 q → T'.heap[q]? = H[q]?) ∧ va_S A0 H0 T'.heap (locs ++ L) := by
  obtain ⟨hz, hk⟩ := hF
  rw [h0] at hz hk
  exact ⟨by rw [e1]; exact hz, fun q h1 h2 => by rw [e1]; exact hk q h1 h2,
    ⟨Nat.le_trans hS.1 (by rw [e1]; exact hz), fun q h1 h2 => by rw [e1, hk q (Nat.lt_of_lt_of_le h1 hS.1) (fun z => h2 (hA q (Nat.lt_of_lt_of_le h1 hS.1) z))]; exact hS.2.1 q h1 h2, fun q hq => by
      rcases List.mem_append.mp hq with h | h
      · exact hS.2.2 q h
      · exact hf _ (hL q h)⟩⟩
theorem vx_calli {S SX : Type} {post : Int32 → S → Prop} {px : SX → Prop} {B : S → State → Prop} {BX : String → SX → State → Prop} {AX : Nat → Prop} (hr : vx_Run p l e R s m args below meth c H locs cells slots mc ms (F0 m pc ls st0) rest (va_Qi post B A1 a) (vx_X px BX AX) free) (hS : va_S A0 H0 H locs) (hA : ∀ q, q < H.size → A1 q → A0 q) (hf : ∀ q, free q → A0 q) (hAX : ∀ q, q < H.size → AX q → A0 q)
    (kx : ∀ (E : String) (ce : Cell) (q9 : Addr) (u : SX) (t : State) (H1 : Heap) (locs1 : List Loc), t.heap = H1 → s.vm.Alike t.vm → px u → BX E u t → H.size ≤ H1.size → (∀ q : Nat, q < H.size → ¬ AX q → H1[q]? = H[q]?) → va_S A0 H0 H1 locs1 → H1[q9]? = some ce → ce.vm = .none → s.vm.findClass E = some ce.cls → vx_W p l e R s m args below meth c H1 locs1 (cells + mc) (slots + ms) Q (F0 m pc ls rest) q9)
    (kk : ∀ (r : Int32) (u : S) (t : State) (H1 : Heap) (locs1 : List Loc), t.heap = H1 → s.vm.Alike t.vm → post r u → B u t → H.size ≤ H1.size → (∀ q : Nat, q < H.size → ¬ A1 q → H1[q]? = H[q]?) → va_S A0 H0 H1 locs1 → W p l e R s m args below meth c H1 locs1 (cells + mc) (slots + ms) Q (F0 m (pc + 3) ls (.int r :: rest))) : W p l e R s m args below meth c H locs cells slots Q (F0 m pc ls st0) := by
  intro T hT X
  rcases hr T hT X with ⟨v, st₀, t, T', L, h0, X', hL, e1, e2, ⟨⟨r, u, hv, hp, hb⟩, hF⟩, st⟩ | ⟨q, st₀, t, T', L, E, ce, h0, X', hL, e1, e2, ⟨u, hp, hb, hF⟩, hce, hcv, hcl, st⟩
  · cases hv
    obtain ⟨k1, k2, k3⟩ := vx_keep h0 e1 hS hA hf hL hF
    obtain ⟨t2, a1, b1⟩ := kk r u t T'.heap (locs ++ L) e1.symm (by rw [← e2]; exact X'.warmed.alike) hp hb k1 k2 k3 T' rfl X'
    exact ⟨t2, st t2 a1, b1⟩
  · obtain ⟨k1, k2, k3⟩ := vx_keep h0 e1 hS hAX hf hL hF
    obtain ⟨t2, a1, b1⟩ := kx E ce q u t T'.heap (locs ++ L) e1.symm (by rw [← e2]; exact X'.warmed.alike) hp hb k1 k2 k3 (by rw [e1]; exact hce) hcv hcl T' rfl X'
    exact ⟨t2, st.trans a1, b1⟩
theorem vx_calll {S SX : Type} {post : Int64 → S → Prop} {px : SX → Prop} {B : S → State → Prop} {BX : String → SX → State → Prop} {AX : Nat → Prop} (hr : vx_Run p l e R s m args below meth c H locs cells slots mc ms (F0 m pc ls st0) rest (va_Ql post B A1 a) (vx_X px BX AX) free) (hS : va_S A0 H0 H locs) (hA : ∀ q, q < H.size → A1 q → A0 q) (hf : ∀ q, free q → A0 q) (hAX : ∀ q, q < H.size → AX q → A0 q)
    (kx : ∀ (E : String) (ce : Cell) (q9 : Addr) (u : SX) (t : State) (H1 : Heap) (locs1 : List Loc), t.heap = H1 → s.vm.Alike t.vm → px u → BX E u t → H.size ≤ H1.size → (∀ q : Nat, q < H.size → ¬ AX q → H1[q]? = H[q]?) → va_S A0 H0 H1 locs1 → H1[q9]? = some ce → ce.vm = .none → s.vm.findClass E = some ce.cls → vx_W p l e R s m args below meth c H1 locs1 (cells + mc) (slots + ms) Q (F0 m pc ls rest) q9)
    (kk : ∀ (r : Int64) (u : S) (t : State) (H1 : Heap) (locs1 : List Loc), t.heap = H1 → s.vm.Alike t.vm → post r u → B u t → H.size ≤ H1.size → (∀ q : Nat, q < H.size → ¬ A1 q → H1[q]? = H[q]?) → va_S A0 H0 H1 locs1 → W p l e R s m args below meth c H1 locs1 (cells + mc) (slots + ms) Q (F0 m (pc + 3) ls (.long r :: rest))) : W p l e R s m args below meth c H locs cells slots Q (F0 m pc ls st0) := by
  intro T hT X
  rcases hr T hT X with ⟨v, st₀, t, T', L, h0, X', hL, e1, e2, ⟨⟨r, u, hv, hp, hb⟩, hF⟩, st⟩ | ⟨q, st₀, t, T', L, E, ce, h0, X', hL, e1, e2, ⟨u, hp, hb, hF⟩, hce, hcv, hcl, st⟩
  · cases hv
    obtain ⟨k1, k2, k3⟩ := vx_keep h0 e1 hS hA hf hL hF
    obtain ⟨t2, a1, b1⟩ := kk r u t T'.heap (locs ++ L) e1.symm (by rw [← e2]; exact X'.warmed.alike) hp hb k1 k2 k3 T' rfl X'
    exact ⟨t2, st t2 a1, b1⟩
  · obtain ⟨k1, k2, k3⟩ := vx_keep h0 e1 hS hAX hf hL hF
    obtain ⟨t2, a1, b1⟩ := kx E ce q u t T'.heap (locs ++ L) e1.symm (by rw [← e2]; exact X'.warmed.alike) hp hb k1 k2 k3 (by rw [e1]; exact hce) hcv hcl T' rfl X'
    exact ⟨t2, st.trans a1, b1⟩
theorem vx_callf {S SX : Type} {post : UInt32 → S → Prop} {px : SX → Prop} {B : S → State → Prop} {BX : String → SX → State → Prop} {AX : Nat → Prop} (hr : vx_Run p l e R s m args below meth c H locs cells slots mc ms (F0 m pc ls st0) rest (va_Qf post B A1 a) (vx_X px BX AX) free) (hS : va_S A0 H0 H locs) (hA : ∀ q, q < H.size → A1 q → A0 q) (hf : ∀ q, free q → A0 q) (hAX : ∀ q, q < H.size → AX q → A0 q)
    (kx : ∀ (E : String) (ce : Cell) (q9 : Addr) (u : SX) (t : State) (H1 : Heap) (locs1 : List Loc), t.heap = H1 → s.vm.Alike t.vm → px u → BX E u t → H.size ≤ H1.size → (∀ q : Nat, q < H.size → ¬ AX q → H1[q]? = H[q]?) → va_S A0 H0 H1 locs1 → H1[q9]? = some ce → ce.vm = .none → s.vm.findClass E = some ce.cls → vx_W p l e R s m args below meth c H1 locs1 (cells + mc) (slots + ms) Q (F0 m pc ls rest) q9)
    (kk : ∀ (r : UInt32) (u : S) (t : State) (H1 : Heap) (locs1 : List Loc), t.heap = H1 → s.vm.Alike t.vm → post r u → B u t → H.size ≤ H1.size → (∀ q : Nat, q < H.size → ¬ A1 q → H1[q]? = H[q]?) → va_S A0 H0 H1 locs1 → W p l e R s m args below meth c H1 locs1 (cells + mc) (slots + ms) Q (F0 m (pc + 3) ls (.float r :: rest))) : W p l e R s m args below meth c H locs cells slots Q (F0 m pc ls st0) := by
  intro T hT X
  rcases hr T hT X with ⟨v, st₀, t, T', L, h0, X', hL, e1, e2, ⟨⟨r, u, hv, hp, hb⟩, hF⟩, st⟩ | ⟨q, st₀, t, T', L, E, ce, h0, X', hL, e1, e2, ⟨u, hp, hb, hF⟩, hce, hcv, hcl, st⟩
  · cases hv
    obtain ⟨k1, k2, k3⟩ := vx_keep h0 e1 hS hA hf hL hF
    obtain ⟨t2, a1, b1⟩ := kk r u t T'.heap (locs ++ L) e1.symm (by rw [← e2]; exact X'.warmed.alike) hp hb k1 k2 k3 T' rfl X'
    exact ⟨t2, st t2 a1, b1⟩
  · obtain ⟨k1, k2, k3⟩ := vx_keep h0 e1 hS hAX hf hL hF
    obtain ⟨t2, a1, b1⟩ := kx E ce q u t T'.heap (locs ++ L) e1.symm (by rw [← e2]; exact X'.warmed.alike) hp hb k1 k2 k3 (by rw [e1]; exact hce) hcv hcl T' rfl X'
    exact ⟨t2, st.trans a1, b1⟩
theorem vx_calld {S SX : Type} {post : UInt64 → S → Prop} {px : SX → Prop} {B : S → State → Prop} {BX : String → SX → State → Prop} {AX : Nat → Prop} (hr : vx_Run p l e R s m args below meth c H locs cells slots mc ms (F0 m pc ls st0) rest (va_Qd post B A1 a) (vx_X px BX AX) free) (hS : va_S A0 H0 H locs) (hA : ∀ q, q < H.size → A1 q → A0 q) (hf : ∀ q, free q → A0 q) (hAX : ∀ q, q < H.size → AX q → A0 q)
    (kx : ∀ (E : String) (ce : Cell) (q9 : Addr) (u : SX) (t : State) (H1 : Heap) (locs1 : List Loc), t.heap = H1 → s.vm.Alike t.vm → px u → BX E u t → H.size ≤ H1.size → (∀ q : Nat, q < H.size → ¬ AX q → H1[q]? = H[q]?) → va_S A0 H0 H1 locs1 → H1[q9]? = some ce → ce.vm = .none → s.vm.findClass E = some ce.cls → vx_W p l e R s m args below meth c H1 locs1 (cells + mc) (slots + ms) Q (F0 m pc ls rest) q9)
    (kk : ∀ (r : UInt64) (u : S) (t : State) (H1 : Heap) (locs1 : List Loc), t.heap = H1 → s.vm.Alike t.vm → post r u → B u t → H.size ≤ H1.size → (∀ q : Nat, q < H.size → ¬ A1 q → H1[q]? = H[q]?) → va_S A0 H0 H1 locs1 → W p l e R s m args below meth c H1 locs1 (cells + mc) (slots + ms) Q (F0 m (pc + 3) ls (.double r :: rest))) : W p l e R s m args below meth c H locs cells slots Q (F0 m pc ls st0) := by
  intro T hT X
  rcases hr T hT X with ⟨v, st₀, t, T', L, h0, X', hL, e1, e2, ⟨⟨r, u, hv, hp, hb⟩, hF⟩, st⟩ | ⟨q, st₀, t, T', L, E, ce, h0, X', hL, e1, e2, ⟨u, hp, hb, hF⟩, hce, hcv, hcl, st⟩
  · cases hv
    obtain ⟨k1, k2, k3⟩ := vx_keep h0 e1 hS hA hf hL hF
    obtain ⟨t2, a1, b1⟩ := kk r u t T'.heap (locs ++ L) e1.symm (by rw [← e2]; exact X'.warmed.alike) hp hb k1 k2 k3 T' rfl X'
    exact ⟨t2, st t2 a1, b1⟩
  · obtain ⟨k1, k2, k3⟩ := vx_keep h0 e1 hS hAX hf hL hF
    obtain ⟨t2, a1, b1⟩ := kx E ce q u t T'.heap (locs ++ L) e1.symm (by rw [← e2]; exact X'.warmed.alike) hp hb k1 k2 k3 (by rw [e1]; exact hce) hcv hcl T' rfl X'
    exact ⟨t2, st.trans a1, b1⟩
theorem vx_callv {S SX : Type} {post : S → Prop} {px : SX → Prop} {B : S → State → Prop} {BX : String → SX → State → Prop} {AX : Nat → Prop} (hr : vx_Run p l e R s m args below meth c H locs cells slots mc ms (F0 m pc ls st0) rest (va_Qv post B A1 a) (vx_X px BX AX) free) (hS : va_S A0 H0 H locs) (hA : ∀ q, q < H.size → A1 q → A0 q) (hf : ∀ q, free q → A0 q) (hAX : ∀ q, q < H.size → AX q → A0 q)
    (kx : ∀ (E : String) (ce : Cell) (q9 : Addr) (u : SX) (t : State) (H1 : Heap) (locs1 : List Loc), t.heap = H1 → s.vm.Alike t.vm → px u → BX E u t → H.size ≤ H1.size → (∀ q : Nat, q < H.size → ¬ AX q → H1[q]? = H[q]?) → va_S A0 H0 H1 locs1 → H1[q9]? = some ce → ce.vm = .none → s.vm.findClass E = some ce.cls → vx_W p l e R s m args below meth c H1 locs1 (cells + mc) (slots + ms) Q (F0 m pc ls rest) q9)
    (kk : ∀ (u : S) (t : State) (H1 : Heap) (locs1 : List Loc), t.heap = H1 → s.vm.Alike t.vm → post u → B u t → H.size ≤ H1.size → (∀ q : Nat, q < H.size → ¬ A1 q → H1[q]? = H[q]?) → va_S A0 H0 H1 locs1 → W p l e R s m args below meth c H1 locs1 (cells + mc) (slots + ms) Q (F0 m (pc + 3) ls (rest))) : W p l e R s m args below meth c H locs cells slots Q (F0 m pc ls st0) := by
  intro T hT X
  rcases hr T hT X with ⟨v, st₀, t, T', L, h0, X', hL, e1, e2, ⟨⟨u, hv, hp, hb⟩, hF⟩, st⟩ | ⟨q, st₀, t, T', L, E, ce, h0, X', hL, e1, e2, ⟨u, hp, hb, hF⟩, hce, hcv, hcl, st⟩
  · cases hv
    obtain ⟨k1, k2, k3⟩ := vx_keep h0 e1 hS hA hf hL hF
    obtain ⟨t2, a1, b1⟩ := kk u t T'.heap (locs ++ L) e1.symm (by rw [← e2]; exact X'.warmed.alike) hp hb k1 k2 k3 T' rfl X'
    exact ⟨t2, st t2 a1, b1⟩
  · obtain ⟨k1, k2, k3⟩ := vx_keep h0 e1 hS hAX hf hL hF
    obtain ⟨t2, a1, b1⟩ := kx E ce q u t T'.heap (locs ++ L) e1.symm (by rw [← e2]; exact X'.warmed.alike) hp hb k1 k2 k3 (by rw [e1]; exact hce) hcv hcl T' rfl X'
    exact ⟨t2, st.trans a1, b1⟩
/-- caught by the row x of this method's table; the rows ahead don't take it -/
theorem vx_catch {own name : String} {E : String} {ce : Cell} {q : Addr} (hown : s.vm.findClass own = some m.cls) (pre : List ExceptionTableEntry) (x : ExceptionTableEntry) (suf : List ExceptionTableEntry) (hsplit : c.exceptionTable.toList = pre ++ x :: suf)
    (hpass : ∀ z ∈ pre, covers z pc = false ∨ (z.catchType ≠ 0 ∧ ∃ nm : String, (Cond.classLink own z.catchType nm).before args s = true ∧ va_Nc E nm s)) (hx : covers x pc = true) (h0 : x.catchType ≠ 0)
    (hlink : (Cond.classLink own x.catchType name).before args s = true) (hcast : (Cond.castable E name).before args s = true) (hcell : H[q]? = some ce) (hv : ce.vm = .none) (hcl : s.vm.findClass E = some ce.cls)
    (kk : W p l e R s m args below meth c H locs cells slots Q (F0 m x.handlerPc ls [.ref q])) : vx_W p l e R s m args below meth c H locs cells slots Q (F0 m pc ls rest) q := by
  intro T hT X
  have hpl : e.platform.magicAccessors = ({} : Platform).magicAccessors := by rw [X.admits.platform]
  obtain ⟨c3, c4, hc3, hc4, hasg⟩ := Cond.castable_spec hcast
  cases Option.some.inj (hc3.symm.trans hcl)
  obtain ⟨c5, hc5, hcl5⟩ := Cond.classLink_spec hown hlink e.platform hpl
  cases Option.some.inj (hc4.symm.trans hc5)
  obtain ⟨vm', X', st⟩ := X.thenCaughtThrough q (g := F0 m pc ls rest) rfl (Steps.refl _) (by rw [hT]; exact hcell) (by rw [hv]; rfl) (by obtain ⟨k9, h9, -⟩ := Vm.findClass_spec hcl; exact ⟨k9, h9⟩) pre x suf hsplit
    (fun z hz => by
      rcases hpass z hz with h | ⟨hz0, nm, hl1, hn1⟩
      · exact Or.inl h
      · obtain ⟨c6, hc6, hcl6⟩ := Cond.classLink_spec hown hl1 e.platform hpl
        obtain ⟨a8, b8, h1, h2, h3⟩ := hn1
        cases Option.some.inj (h1.symm.trans hcl)
        cases Option.some.inj (h2.symm.trans hc6)
        exact Or.inr ⟨hz0, _, hcl6, h3⟩) hx (Or.inr ⟨h0, c4, hcl5, hasg⟩)
  obtain ⟨t, a1, b1⟩ := kk (T.setVm vm') hT X'
  exact ⟨t, st.trans a1, b1⟩
end Rows
section Ends
variable {p : Program} {l : Launch} {e : Env} {R : Room} {s : State} {m : MethodId} {args : Array Value} {below : List Frame} {meth : Method} {c : Code} {H : Heap} {locs : List Loc} {cells slots : Nat} {Q : State → Prop}
variable {mc ms : Nat} {free : Addr → Prop} {A0 A1 : Nat → Prop} {H0 : Heap} {a : Array Value} {ls : Array Slot} {st0 rest : List Value}
variable {Qc : Array Value → State → Outcome → State → Prop} {XC : String → State → State → Prop}
/-- what a body that may throw owes at its end -/
def vx_MQ (below : List Frame) (Qc : Array Value → State → Outcome → State → Prop) (XC : String → State → State → Prop) (a : Array Value) (s : State) (mc ms : Nat) (free : Addr → Prop) : State → Prop := fun t =>
  ∃ o, t.status = .running ∧ Ended t below o ∧ vx_Q Qc XC mc ms free a s o t
theorem vx_ret {g : JFrame} {mc ms : Nat} (k : W p l e R s m args below meth c H locs cells slots (MQ below Qc args s mc ms free) g) : W p l e R s m args below meth c H locs cells slots (vx_MQ below Qc XC args s mc ms free) g := by
  intro T hT X
  obtain ⟨t, a1, o, b1, b2, b3, b4⟩ := k T hT X
  exact ⟨t, a1, o, b1, b2, Or.inl ⟨b3, b4⟩⟩
/-- not caught here: it goes on to the caller -/
theorem vx_widen {g : JFrame} {q : Addr} {k n : Nat} (h1 : cells ≤ k) (h2 : slots ≤ n) (kk : vx_W p l e R s m args below meth c H locs k n Q g q) : vx_W p l e R s m args below meth c H locs cells slots Q g q := fun T hT X => kk T hT (stand_widen X h1 h2)
theorem vx_out {pc : Nat} {E : String} {ce : Cell} {q : Addr} {mc ms : Nat} (hout : ∀ x ∈ c.exceptionTable.toList, covers x pc = false) (hlocks : meth.locks = false) (hcell : H[q]? = some ce) (hv : ce.vm = .none) (hcl : s.vm.findClass E = some ce.cls)
    (hx : ∀ t : State, t.heap = H → s.vm.Alike t.vm → XC E s t) (hf : ∀ z ∈ locs, free z.base) (hc : cells ≤ mc) (hs : slots ≤ ms) :
    vx_W p l e R s m args below meth c H locs cells slots (vx_MQ below Qc XC args s mc ms free) (F0 m pc ls rest) q := by
  intro T hT X
  obtain ⟨st1, hrun, hend, hW, hsm⟩ := X.leaveThrown q (g := F0 m pc ls rest) rfl rfl rfl hout hlocks
  have hcell9 : (T.setFrames (.throwing q :: below)).heap[q]? = some ce := by
    show T.heap[q]? = some ce
    rw [hT]; exact hcell
  exact ⟨_, st1, .threw q, hrun, hend, Or.inr ⟨q, rfl, E, ce, locs, hx _ hT hW.alike, hcell9, hv, hcl, hW, hsm.mono hc hs, hf⟩⟩
theorem vx_frame {U : State} {k n : Nat} (h : s.sameButNew ({ U with vm := s.vm } : State) locs k n) : s.heap.size ≤ U.heap.size ∧ ∀ q : Nat, q < s.heap.size → (∀ z ∈ locs, z.base ≠ q) → U.heap[q]? = s.heap[q]? := by
  obtain ⟨-, h2, -, -, -, h6⟩ := h
  refine ⟨h2, fun q hq hz => ?_⟩
  obtain ⟨c9, e1, e2, e3, e4⟩ := h6 q _ (Array.getElem?_eq_getElem hq)
  have hs : c9.slots = (s.heap[q]).slots := Array.ext_getElem? fun i => e4 i fun hm => hz _ hm rfl
  have h9 : c9 = s.heap[q] := by
    rw [hs] at e2
    exact e2
  have e5 : U.heap[q]? = some c9 := e1
  rw [e5, h9, Array.getElem?_eq_getElem hq]
/-- the words of a throw but the four that speak of the heap -/
def vx_no (w : Cond) : Bool := decide (w ≠ .isRef (.static Bundle.tN "UNASSIGNED_STACK" Bundle.steD)) && decide (w ≠ .isRef (.static Bundle.tN "SUPPRESSED_SENTINEL" Bundle.listD)) && decide (w ≠ .laysStatic Bundle.tN "UNASSIGNED_STACK" Bundle.steD) && decide (w ≠ .laysStatic Bundle.tN "SUPPRESSED_SENTINEL" Bundle.listD)
def vx_at0 (own : String) (ic : Nat) (X : String) (names : List String) : List Cond := (Bundle.ownAtoms0 own ic X names).filter vx_no
def vx_atS (own : String) (ic : Nat) (X : String) (names : List String) : List Cond := (Bundle.ownAtoms own ic X names).filter vx_no
/-- a word that the tables alone decide, or a good one -/
def vx_ot (w : Cond) : Bool := w.onTables || goodWord w
theorem vx_ot_at {args a' : Array Value} {s U : State} {w : Cond} (hW : s.WarmedH U.vm) (hvm : s.vm = U.vm) (hg : vx_ot w = true) (h : w.before args s = true) : w.before a' U = true := by
  simp only [vx_ot, Bool.or_eq_true] at hg
  rcases hg with hg | hg
  · exact va_tabs hg hvm h
  · exact word_at hW (good_of_word hg) h
/-- a list's words: the good ones out of the method's own list, the others by premises of their own -/
theorem vx_hat {args : Array Value} {s : State} {L B : List Cond} (h1 : ∀ w ∈ L.filter goodWord, w.before args s = true) (h2 : ∀ w ∈ L.filter (fun w => !goodWord w), w ∈ B) (h3 : ∀ w ∈ B, w.before args s = true) : ∀ w ∈ L, w.before args s = true := by
  intro w hw
  by_cases g : goodWord w = true
  · exact h1 w (List.mem_filter.mpr ⟨hw, g⟩)
  · refine h3 w (h2 w (List.mem_filter.mpr ⟨hw, ?_⟩))
    show (!goodWord w) = true
    cases hgw : goodWord w
    · rfl
    · exact absurd hgw g
theorem vx_c {args : Array Value} {s : State} {w : Cond} {B : List Cond} (h : w.before args s = true) (t : ∀ w ∈ B, w.before args s = true) : ∀ w' ∈ w :: B, w'.before args s = true := fun w' h' => (List.mem_cons.mp h').elim (fun e => by rw [e]; exact h) (t w')
theorem vx_n {args : Array Value} {s : State} : ∀ w ∈ ([] : List Cond), w.before args s = true := fun _ h => nomatch h
theorem vx_own {args : Array Value} {s : State} {L : List Cond} (h1 : ∀ w ∈ L.filter vx_no, w.before args s = true)
    (hU : (Cond.isRef (.static Bundle.tN "UNASSIGNED_STACK" Bundle.steD)).before args s = true) (hN : (Cond.isRef (.static Bundle.tN "SUPPRESSED_SENTINEL" Bundle.listD)).before args s = true)
    (lU : (Cond.laysStatic Bundle.tN "UNASSIGNED_STACK" Bundle.steD).before args s = true) (lN : (Cond.laysStatic Bundle.tN "SUPPRESSED_SENTINEL" Bundle.listD).before args s = true) : ∀ w ∈ L, w.before args s = true := by
  intro w hw
  by_cases e1 : w = .isRef (.static Bundle.tN "UNASSIGNED_STACK" Bundle.steD)
  · rw [e1]; exact hU
  · by_cases e2 : w = .isRef (.static Bundle.tN "SUPPRESSED_SENTINEL" Bundle.listD)
    · rw [e2]; exact hN
    · by_cases e3 : w = .laysStatic Bundle.tN "UNASSIGNED_STACK" Bundle.steD
      · rw [e3]; exact lU
      · by_cases e4 : w = .laysStatic Bundle.tN "SUPPRESSED_SENTINEL" Bundle.listD
        · rw [e4]; exact lN
        · exact h1 w (List.mem_filter.mpr ⟨hw, by unfold vx_no; rw [decide_eq_true e1, decide_eq_true e2, decide_eq_true e3, decide_eq_true e4]; rfl⟩)
/-- where a static field lies, its class's statics cell in H -/
def vx_L (C n d : String) (A : Nat → Prop) (U : State) (H : Heap) : Prop := ∃ (c : ClassId) (k : Class) (i : Nat) (f : Field) (a : Nat) (cell : Cell), U.vm.findClass C = some c ∧ U.fieldFound? C n d = some (c, k, i, f) ∧ f.isStatic = true ∧ k.statics = some a ∧ H[a]? = some cell ∧ cell.vm.isStatics = true ∧ cell.cls = c ∧ f.slot < cell.slots.size ∧ k.staticTypes[f.slot]? = some f.type ∧ ¬ A a
theorem vx_L.moved {C n d : String} {A : Nat → Prop} {u U : State} {H : Heap} (hvm : u.vm.Alike U.vm) (h : vx_L C n d A u H) : vx_L C n d A U H := by
  obtain ⟨c, k, i, f, a, cell, h1, h2, h3, h4, h5, h6, h7, h8, h9, h10⟩ := h
  obtain ⟨k', hi', he⟩ := State.fieldFound?_setVm hvm h2
  exact ⟨c, k', i, f, a, cell, by rw [hvm.findClass]; exact h1, hi', h3, by rw [he]; exact h4, h5, h6, h7, h8, by rw [he]; exact h9, h10⟩
theorem vx_L.kept {C n d : String} {A : Nat → Prop} {U : State} {H H1 : Heap} (h : vx_L C n d A U H) (hq : ∀ a : Nat, a < H.size → ¬ A a → H1[a]? = H[a]?) : vx_L C n d A U H1 := by
  obtain ⟨c, k, i, f, a, cell, h1, h2, h3, h4, h5, h6, h7, h8, h9, h10⟩ := h
  exact ⟨c, k, i, f, a, cell, h1, h2, h3, h4, by rw [hq a (Array.getElem?_eq_some_iff.mp h5).1 h10]; exact h5, h6, h7, h8, h9, h10⟩
theorem vx_L.narrow {C n d : String} {A B : Nat → Prop} {U : State} {H : Heap} (h : vx_L C n d A U H) (hAB : ∀ q, B q → A q) : vx_L C n d B U H := by
  obtain ⟨c, k, i, f, a, cell, h1, h2, h3, h4, h5, h6, h7, h8, h9, h10⟩ := h
  exact ⟨c, k, i, f, a, cell, h1, h2, h3, h4, h5, h6, h7, h8, h9, fun z => h10 (hAB _ z)⟩
theorem vx_L.word {C n d : String} {A : Nat → Prop} {s : State} {args : Array Value} (h : vx_L C n d A s s.heap) : (Cond.laysStatic C n d).before args s = true := by
  obtain ⟨c, k, i, f, a, cell, h1, h2, h3, h4, h5, h6, h7, h8, h9, -⟩ := h
  show (Cond.laysStatic C n d).holds args s none s [] = true
  exact Cond.laysStatic_of h1 h2 h3 h4 h5 h6 h7 h8 h9
/-- .. and what it holds: null or some reference -/
def vx_Zq (C n d : String) (A : Nat → Prop) (U : State) (H : Heap) : Prop := va_Zq C n d A U H ∧ vx_L C n d A U H
theorem vx_Zq.moved {C n d : String} {A : Nat → Prop} {u U : State} {H : Heap} (hvm : u.vm.Alike U.vm) (h : vx_Zq C n d A u H) : vx_Zq C n d A U H := ⟨va_Zq.moved hvm h.1, vx_L.moved hvm h.2⟩
theorem vx_Zq.kept {C n d : String} {A : Nat → Prop} {U : State} {H H1 : Heap} (h : vx_Zq C n d A U H) (hq : ∀ a : Nat, a < H.size → ¬ A a → H1[a]? = H[a]?) : vx_Zq C n d A U H1 := ⟨va_Zq.kept h.1 hq, vx_L.kept h.2 hq⟩
theorem vx_Zq.narrow {C n d : String} {A B : Nat → Prop} {U : State} {H : Heap} (h : vx_Zq C n d A U H) (hAB : ∀ q, B q → A q) : vx_Zq C n d B U H := ⟨va_Zq.narrow h.1 hAB, vx_L.narrow h.2 hAB⟩
theorem vx_Zqof {args : Array Value} {s : State} {C n d : String} {A : Nat → Prop} (hl : (Cond.laysStatic C n d).before args s = true) (hini : (Cond.initialized C).before args s = true) (h : (Cond.isRef (.static C n d)).before args s = true) (hA : ∀ a : Nat, a < s.heap.size → ¬ A a) : vx_Zq C n d A s s.heap := by
  refine ⟨va_Zqof hl hini h hA, ?_⟩
  obtain ⟨c, k, i, f, a, cell, h1, h2, h3, h4, h5, h6, h7, h8, h9⟩ := Cond.laysStatic_spec hl
  exact ⟨c, k, i, f, a, cell, h1, h2, h3, h4, h5, h6, h7, h8, h9, hA a (Array.getElem?_eq_some_iff.mp h5).1⟩
theorem vx_isRef {C n d : String} {v : Value} {A : Nat → Prop} {s : State} {args : Array Value} (h : va_Z C n d v A s s.heap) (hv : v.isRef = true) : (Cond.isRef (.static C n d)).before args s = true := by
  obtain ⟨cf, kf, fi, f, a, cell, h1, h2, h3, h4, h5, h6, h7, -⟩ := h
  have he : (Term.static C n d).eval args s none [] s = some v := by
    simp [Term.eval, State.fieldNamed?, h1, h2, h4, h5, h6, h7]
  simp only [Cond.before, Cond.holds, Cond.value, he]
  cases v <;> simp_all [Value.isRef]
theorem vx_isRefq {C n d : String} {A : Nat → Prop} {s : State} {args : Array Value} (h : va_Zq C n d A s s.heap) : (Cond.isRef (.static C n d)).before args s = true := by
  rcases h with h | ⟨t, h⟩
  · exact vx_isRef h rfl
  · exact vx_isRef h rfl
/-- the same frame, seen from here: as if the method were called anew in this heap -/
theorem vx_rebase {T : State} (X : Stand p l e R s m args below meth c T locs cells slots) {R' : Room} (hf : R'.frames ≤ R.frames) (hl : R'.locals ≤ R.locals) (hc : cells + R'.cells ≤ R.cells) (hs : slots + R'.slots ≤ R.slots) :
    Stand p l e R' ((T.setVm s.vm).setFrames (.invoking m args :: below)) m args below meth c T [] 0 0 := by
  have htop : (T.setVm s.vm).topJava?.isSome := X.here.top
  have hF : ((T.setVm s.vm).setFrames (.invoking m args :: below)).frames = .invoking m args :: below := State.frames_setFrames _ (State.cur_lt_of_top htop)
  obtain ⟨g₀, hg0⟩ := Option.isSome_iff_exists.mp htop
  obtain ⟨r, hr⟩ := State.topJava?_eq_some.mp hg0
  have hl9 : e.platform.stackLimits (T.setVm s.vm).me = e.platform.stackLimits s.me := X.limits
  have hb9 : (T.setVm s.vm).me.stackBytes = s.me.stackBytes := X.bytes
  refine ⟨X.admits, X.cas, X.clock, hF, ?_, X.hears, X.method, X.code, X.here, X.tail, X.warmed, ?_, ?_, ?_⟩
  · have h := X.room
    have hU : ((T.setVm s.vm).setFrames (.invoking m args :: below)).localsInUse = s.localsInUse := by
      rw [State.localsInUse_invoking hF (meth := meth) (c := c) X.method X.code, State.localsInUse_invoking X.frames X.method X.code]
    simp only [State.hasRoom, Bool.and_eq_true, decide_eq_true_eq] at h ⊢
    obtain ⟨⟨⟨⟨h1, h2, h3, h4, h5, h6⟩, h7⟩, h8⟩, h9⟩ := h
    rw [X.frames, List.length_cons] at h2 h3
    have q1 := X.heapSize
    have q2 := X.used
    simp only [hF, hU, List.length_cons, State.stackLimits_setFrames, State.stackBytes_setFrames, hl9, hb9]
    refine ⟨⟨⟨⟨by omega, by omega, by omega, by omega, by omega, h6⟩, ?_⟩, ?_⟩, X.book⟩
    · show T.heap.size + R'.cells ≤ e.platform.maxCells
      omega
    · show T.slotsUsed + R'.slots ≤ e.platform.maxSlots
      omega
  · rw [State.stackLimits_setFrames]; rfl
  · rw [State.stackBytes_setFrames]; rfl
  · refine ⟨?_, Nat.le_refl _, Nat.le_refl _, ?_, ?_, fun a c9 h9 => ⟨c9, h9, rfl, rfl, fun _ _ => rfl⟩⟩
    · obtain ⟨t, ht, -⟩ := State.frames_cons hr
      show T.setVm s.vm = { ((T.setVm s.vm).setFrames (.invoking m args :: below)).setFrames (T.setVm s.vm).frames with heap := T.heap, slotsUsed := T.slotsUsed }
      rw [State.setFrames_setFrames, State.setFrames_self ht]
      rfl
    · show T.slotsUsed = T.slotsUsed + ((T.heap.toList.drop T.heap.size).map (·.slots.size)).sum
      rw [List.drop_eq_nil_of_le (Nat.le_of_eq Array.length_toList)]
      rfl
    · show ((T.heap.toList.drop T.heap.size).map (·.slots.size)).sum ≤ 0
      rw [List.drop_eq_nil_of_le (Nat.le_of_eq Array.length_toList)]
      exact Nat.le_refl _
/-- 'throw new E()': new; dup; invokespecial; athrow -/
theorem vx_throw0 {cc : ByteArray} {pc : Nat} (hexec : p.tables.exec = Jvm.exec) (hb : c.code = cc) (hl : l.stackTraces = false) {own cls : String} {names : List String} {ik ic mc ms : Nat} {A : Nat → Prop}
    (hown : s.vm.findClass own = some m.cls) (hcls : Bundle.fit cls = true) (hnames : ∀ n ∈ names, Bundle.fit n = true)
    (hk : (Cond.classLink own ik cls).before args s = true) (hini : (Cond.initialized cls).before args s = true) (hat : ∀ w ∈ vx_at0 own ic cls names, w.before args s = true)
    (hgood : ∀ w ∈ Cond.classLink own ik cls :: Cond.initialized cls :: vx_at0 own ic cls names, vx_ot w = true)
    (hU : vx_Zq Bundle.tN "UNASSIGNED_STACK" Bundle.steD A s s.heap) (hN : vx_Zq Bundle.tN "SUPPRESSED_SENTINEL" Bundle.listD A s s.heap) (hS : va_S A s.heap H locs) (hsize : ls.size = c.maxLocals)
    (d0 : decode cc pc = .ok (.new ik, 3)) (d3 : decode cc (pc + 3) = .ok (.dup, 1)) (d4 : decode cc (pc + 4) = .ok (.invokespecial ic, 3)) (d7 : decode cc (pc + 7) = .ok (.athrow, 1))
    (hout : ∀ x ∈ c.exceptionTable.toList, covers x (pc + 7) = false)
    (hRframes : names.length + 3 < R.frames) (hRlocals : (rest.map fun v => v.category).sum + (13 * (names.length + 1) + 42) ≤ R.locals) (hRcells : cells + 1 ≤ R.cells) (hRslots : slots + 6 ≤ R.slots) (hlocks : meth.locks = false)
    (hx : ∀ t : State, s.vm.Alike t.vm → H.size ≤ t.heap.size → (∀ q : Nat, q < H.size → t.heap[q]? = H[q]?) → XC cls s t)
    (hf : ∀ z ∈ locs, free z.base) (hc : cells + 1 ≤ mc) (hs : slots + 6 ≤ ms) :
    W p l e R s m args below meth c H locs cells slots (vx_MQ below Qc XC args s mc ms free) (F0 m pc ls rest) := by
  intro T hT X
  have htr : e.platform.stackTraces = false := (show e.platform.stackTraces = l.stackTraces by rw [X.admits.platform]).trans hl
  have Y := vx_rebase X (R' := { frames := R.frames, locals := R.locals, cells := 1, slots := 6 }) (Nat.le_refl _) (Nat.le_refl _) hRcells hRslots
  obtain ⟨s', hA⟩ : ∃ z, z = (T.setVm s.vm).setFrames (.invoking m args :: below) := ⟨_, rfl⟩
  rw [← hA] at Y
  have hvm : s'.vm = s.vm := by rw [hA]; rfl
  have hhp : s'.heap = H := by rw [hA]; exact hT
  have hW0 : s.WarmedH s'.vm := by rw [hvm]; exact State.WarmedH.refl s
  have hat' : ∀ w ∈ vx_at0 own ic cls names, w.before args s' = true := fun w hw => vx_ot_at hW0 hvm.symm (hgood w (List.mem_cons_of_mem _ (List.mem_cons_of_mem _ hw))) (hat w hw)
  have hk' : (Cond.classLink own ik cls).before args s' = true := vx_ot_at hW0 hvm.symm (hgood _ List.mem_cons_self) hk
  have hini' : (Cond.initialized cls).before args s' = true := vx_ot_at hW0 hvm.symm (hgood _ (List.mem_cons_of_mem _ List.mem_cons_self)) hini
  have hU' : vx_Zq Bundle.tN "UNASSIGNED_STACK" Bundle.steD A s' s'.heap := by rw [hhp]; exact vx_Zq.moved hW0.alike (hU.kept hS.2.1)
  have hN' : vx_Zq Bundle.tN "SUPPRESSED_SENTINEL" Bundle.listD A s' s'.heap := by rw [hhp]; exact vx_Zq.moved hW0.alike (hN.kept hS.2.1)
  have h : ∀ w ∈ Bundle.ownAtoms0 own ic cls names, w.before args s' = true := vx_own hat' (vx_isRefq hU'.1) (vx_isRefq hN'.1) hU'.2.word hN'.2.word
  have hown' : s'.vm.findClass own = some m.cls := by rw [hvm]; exact hown
  have hins : (Cond.instantiable cls 6).before args s' = true := h _ (by simp [Bundle.ownAtoms0])
  obtain ⟨vm₁, cX, kX, hfX, hkX, -, -, X₁, st1⟩ := Y.newCold hexec (own := own) (C := cls) (index := ik) (n := 6) hown' hk' hins hini'
    (g := F0 m pc ls rest) rfl (by rw [hb]; exact d0) (Nat.le_refl _) (Nat.le_refl _)
  generalize hT1 : (T.setVm vm₁).pushCell { cls := cX, slots := kX.instanceTypes.map defaultValue, vm := .none } = T1 at X₁ st1
  have hcat : (Value.ref T.heap.size).category = 1 := rfl
  have hcellA : T1.heap[T.heap.size]? = some (freshCell cX kX) := by rw [← hT1]; exact State.heap_pushCell_size _ _
  have d3' : decode c.code (pc + 3) = .ok (.dup, 1) := by rw [hb]; exact d3
  obtain ⟨U, hsteps, hrun, hend, hW, hsame, ce, hce, hO⟩ := X₁.ctorThrow0 hexec htr (own := own) (cls := cls) (names := names) (ic := ic) hown' hcls hnames h (fun x hx => nomatch hx) hfX hkX hcellA (by rw [hhp, hT]; exact Nat.le_refl _)
    (g := { method := m, pc := pc + 4, locals := ls, stack := .ref T.heap.size :: .ref T.heap.size :: rest, locked := none }) rfl hsize rfl rfl (rest := rest) rfl
    (by rw [hb]; exact d4) (by rw [hb]; exact d7) hout hRframes (by simp only [List.map_cons, List.sum_cons, hcat]; omega) hlocks
  obtain ⟨f1, f2⟩ := vx_frame hsame
  rw [hhp] at f1 f2
  have hWs : s.WarmedH U.vm := State.WarmedH.trans hW0 hW
  have hcl : s.vm.findClass cls = some ce.cls := by
    have h9 := hO.cls
    rw [hvm] at h9
    exact h9
  have hall : s.sameButNew ({ U with vm := s.vm } : State) locs mc ms := by
    subst hA
    obtain ⟨e1, e2⟩ := hsame
    rw [State.setFrames_setFrames] at e1
    have h2 : (T.setVm s.vm).sameButNew ({ U with vm := s.vm } : State) [] (0 + 1) (0 + 6) := ⟨e1, e2⟩
    have h3 := X.same.trans h2
    rw [List.append_nil] at h3
    exact h3.mono hc hs
  refine ⟨U, ?_, .threw T.heap.size, hrun, hend, Or.inr ⟨T.heap.size, rfl, cls, ce, locs, hx U hWs.alike f1 (fun q hq => f2 q hq (fun z hz => nomatch hz)), hce, hO.vm, hcl, hWs, hall, hf⟩⟩
  refine st1 _ ?_
  show Steps p.tables e below (T1.setTop { method := m, pc := pc + 3, locals := ls, stack := .ref T.heap.size :: rest, locked := none }) _
  jvm_step X₁.here [X₁.here.top, hexec, d3', Value.category]
  exact hsteps
/-- 'throw new E("text")': new; dup; ldc; invokespecial; athrow -/
theorem vx_throwS {cc : ByteArray} {pc : Nat} (hexec : p.tables.exec = Jvm.exec) (hb : c.code = cc) (hl : l.stackTraces = false) {own cls text : String} {names : List String} {ik is ic mc ms sa : Nat} {A : Nat → Prop}
    (hown : s.vm.findClass own = some m.cls) (hcls : Bundle.fit cls = true) (hnames : ∀ n ∈ names, Bundle.fit n = true)
    (hk : (Cond.classLink own ik cls).before args s = true) (hini : (Cond.initialized cls).before args s = true) (hstr : vk_R own is text sa s) (hat : ∀ w ∈ vx_atS own ic cls names, w.before args s = true)
    (hgood : ∀ w ∈ Cond.classLink own ik cls :: Cond.initialized cls :: vx_atS own ic cls names, vx_ot w = true)
    (hU : vx_Zq Bundle.tN "UNASSIGNED_STACK" Bundle.steD A s s.heap) (hN : vx_Zq Bundle.tN "SUPPRESSED_SENTINEL" Bundle.listD A s s.heap) (hS : va_S A s.heap H locs) (hsize : ls.size = c.maxLocals)
    (d0 : decode cc pc = .ok (.new ik, 3)) (d3 : decode cc (pc + 3) = .ok (.dup, 1)) (d4 : decode cc (pc + 4) = .ok (.ldc is, 2)) (d6 : decode cc (pc + 6) = .ok (.invokespecial ic, 3)) (d9 : decode cc (pc + 9) = .ok (.athrow, 1))
    (hout : ∀ x ∈ c.exceptionTable.toList, covers x (pc + 9) = false)
    (hRframes : names.length + 3 < R.frames) (hRlocals : (rest.map fun v => v.category).sum + (13 * (names.length + 1) + 43) ≤ R.locals) (hRcells : cells + 1 ≤ R.cells) (hRslots : slots + 6 ≤ R.slots) (hlocks : meth.locks = false)
    (hx : ∀ t : State, s.vm.Alike t.vm → H.size ≤ t.heap.size → (∀ q : Nat, q < H.size → t.heap[q]? = H[q]?) → XC cls s t)
    (hf : ∀ z ∈ locs, free z.base) (hc : cells + 1 ≤ mc) (hs : slots + 6 ≤ ms) :
    W p l e R s m args below meth c H locs cells slots (vx_MQ below Qc XC args s mc ms free) (F0 m pc ls rest) := by
  intro T hT X
  have htr : e.platform.stackTraces = false := (show e.platform.stackTraces = l.stackTraces by rw [X.admits.platform]).trans hl
  have Y := vx_rebase X (R' := { frames := R.frames, locals := R.locals, cells := 1, slots := 6 }) (Nat.le_refl _) (Nat.le_refl _) hRcells hRslots
  obtain ⟨s', hA⟩ : ∃ z, z = (T.setVm s.vm).setFrames (.invoking m args :: below) := ⟨_, rfl⟩
  rw [← hA] at Y
  have hvm : s'.vm = s.vm := by rw [hA]; rfl
  have hhp : s'.heap = H := by rw [hA]; exact hT
  have hW0 : s.WarmedH s'.vm := by rw [hvm]; exact State.WarmedH.refl s
  have hat' : ∀ w ∈ vx_atS own ic cls names, w.before args s' = true := fun w hw => vx_ot_at hW0 hvm.symm (hgood w (List.mem_cons_of_mem _ (List.mem_cons_of_mem _ hw))) (hat w hw)
  have hk' : (Cond.classLink own ik cls).before args s' = true := vx_ot_at hW0 hvm.symm (hgood _ List.mem_cons_self) hk
  have hini' : (Cond.initialized cls).before args s' = true := vx_ot_at hW0 hvm.symm (hgood _ (List.mem_cons_of_mem _ List.mem_cons_self)) hini
  have hU' : vx_Zq Bundle.tN "UNASSIGNED_STACK" Bundle.steD A s' s'.heap := by rw [hhp]; exact vx_Zq.moved hW0.alike (hU.kept hS.2.1)
  have hN' : vx_Zq Bundle.tN "SUPPRESSED_SENTINEL" Bundle.listD A s' s'.heap := by rw [hhp]; exact vx_Zq.moved hW0.alike (hN.kept hS.2.1)
  have h : ∀ w ∈ Bundle.ownAtoms own ic cls names, w.before args s' = true := vx_own hat' (vx_isRefq hU'.1) (vx_isRefq hN'.1) hU'.2.word hN'.2.word
  have hown' : s'.vm.findClass own = some m.cls := by rw [hvm]; exact hown
  have hins : (Cond.instantiable cls 6).before args s' = true := h _ (by simp [Bundle.ownAtoms])
  obtain ⟨vm₁, cX, kX, hfX, hkX, -, -, X₁, st1⟩ := Y.newCold hexec (own := own) (C := cls) (index := ik) (n := 6) hown' hk' hins hini'
    (g := F0 m pc ls rest) rfl (by rw [hb]; exact d0) (Nat.le_refl _) (Nat.le_refl _)
  generalize hT1 : (T.setVm vm₁).pushCell { cls := cX, slots := kX.instanceTypes.map defaultValue, vm := .none } = T1 at X₁ st1
  have hcat : (Value.ref T.heap.size).category = 1 := rfl
  have hcellA : T1.heap[T.heap.size]? = some (freshCell cX kX) := by rw [← hT1]; exact State.heap_pushCell_size _ _
  have d3' : decode c.code (pc + 3) = .ok (.dup, 1) := by rw [hb]; exact d3
  have d4' : decode c.code (pc + 4) = .ok (.ldc is, 2) := by rw [hb]; exact d4
  have hstr' : vk_R own is text sa s' := vk_R.warm hW0 hstr
  obtain ⟨U, hsteps, hrun, hend, hW, hsame, ce, hce, hO⟩ := X₁.ctorThrowS hexec htr (own := own) (cls := cls) (names := names) (ic := ic) hown' hcls hnames h (fun x hx => nomatch hx) hfX hkX hcellA (by rw [hhp, hT]; exact Nat.le_refl _) (msg := .ref sa) rfl
    (g := { method := m, pc := pc + 6, locals := ls, stack := .ref sa :: .ref T.heap.size :: .ref T.heap.size :: rest, locked := none }) rfl hsize rfl rfl (rest := rest) rfl
    (by rw [hb]; exact d6) (by rw [hb]; exact d9) hout hRframes (by simp only [List.map_cons, List.sum_cons, hcat]; omega) hlocks
  obtain ⟨f1, f2⟩ := vx_frame hsame
  rw [hhp] at f1 f2
  have hWs : s.WarmedH U.vm := State.WarmedH.trans hW0 hW
  have hcl : s.vm.findClass cls = some ce.cls := by
    have h9 := hO.cls
    rw [hvm] at h9
    exact h9
  have hall : s.sameButNew ({ U with vm := s.vm } : State) locs mc ms := by
    subst hA
    obtain ⟨e1, e2⟩ := hsame
    rw [State.setFrames_setFrames] at e1
    have h2 : (T.setVm s.vm).sameButNew ({ U with vm := s.vm } : State) [] (0 + 1) (0 + 6) := ⟨e1, e2⟩
    have h3 := X.same.trans h2
    rw [List.append_nil] at h3
    exact h3.mono hc hs
  refine ⟨U, ?_, .threw T.heap.size, hrun, hend, Or.inr ⟨T.heap.size, rfl, cls, ce, locs, hx U hWs.alike f1 (fun q hq => f2 q hq (fun z hz => nomatch hz)), hce, hO.vm, hcl, hWs, hall, hf⟩⟩
  refine st1 _ ?_
  show Steps p.tables e below (T1.setTop { method := m, pc := pc + 3, locals := ls, stack := .ref T.heap.size :: rest, locked := none }) _
  jvm_step X₁.here [X₁.here.top, hexec, d3', Value.category]
  exact X₁.ldcString hexec (own := own) (text := text) (index := is) (a := sa) hown' hstr'.1 hstr'.2
    (g := { method := m, pc := pc + 4, locals := ls, stack := .ref T.heap.size :: .ref T.heap.size :: rest, locked := none }) rfl d4' _ hsteps
/-- 'throw new E("text")', the text by a wide index -/
theorem vx_throwSW {cc : ByteArray} {pc : Nat} (hexec : p.tables.exec = Jvm.exec) (hb : c.code = cc) (hl : l.stackTraces = false) {own cls text : String} {names : List String} {ik is ic mc ms sa : Nat} {A : Nat → Prop}
    (hown : s.vm.findClass own = some m.cls) (hcls : Bundle.fit cls = true) (hnames : ∀ n ∈ names, Bundle.fit n = true)
    (hk : (Cond.classLink own ik cls).before args s = true) (hini : (Cond.initialized cls).before args s = true) (hstr : vk_R own is text sa s) (hat : ∀ w ∈ vx_atS own ic cls names, w.before args s = true)
    (hgood : ∀ w ∈ Cond.classLink own ik cls :: Cond.initialized cls :: vx_atS own ic cls names, vx_ot w = true)
    (hU : vx_Zq Bundle.tN "UNASSIGNED_STACK" Bundle.steD A s s.heap) (hN : vx_Zq Bundle.tN "SUPPRESSED_SENTINEL" Bundle.listD A s s.heap) (hS : va_S A s.heap H locs) (hsize : ls.size = c.maxLocals)
    (d0 : decode cc pc = .ok (.new ik, 3)) (d3 : decode cc (pc + 3) = .ok (.dup, 1)) (d4 : decode cc (pc + 4) = .ok (.ldc_w is, 3)) (d7 : decode cc (pc + 7) = .ok (.invokespecial ic, 3)) (d10 : decode cc (pc + 10) = .ok (.athrow, 1))
    (hout : ∀ x ∈ c.exceptionTable.toList, covers x (pc + 10) = false)
    (hRframes : names.length + 3 < R.frames) (hRlocals : (rest.map fun v => v.category).sum + (13 * (names.length + 1) + 43) ≤ R.locals) (hRcells : cells + 1 ≤ R.cells) (hRslots : slots + 6 ≤ R.slots) (hlocks : meth.locks = false)
    (hx : ∀ t : State, s.vm.Alike t.vm → H.size ≤ t.heap.size → (∀ q : Nat, q < H.size → t.heap[q]? = H[q]?) → XC cls s t)
    (hf : ∀ z ∈ locs, free z.base) (hc : cells + 1 ≤ mc) (hs : slots + 6 ≤ ms) :
    W p l e R s m args below meth c H locs cells slots (vx_MQ below Qc XC args s mc ms free) (F0 m pc ls rest) := by
  intro T hT X
  have htr : e.platform.stackTraces = false := (show e.platform.stackTraces = l.stackTraces by rw [X.admits.platform]).trans hl
  have Y := vx_rebase X (R' := { frames := R.frames, locals := R.locals, cells := 1, slots := 6 }) (Nat.le_refl _) (Nat.le_refl _) hRcells hRslots
  obtain ⟨s', hA⟩ : ∃ z, z = (T.setVm s.vm).setFrames (.invoking m args :: below) := ⟨_, rfl⟩
  rw [← hA] at Y
  have hvm : s'.vm = s.vm := by rw [hA]; rfl
  have hhp : s'.heap = H := by rw [hA]; exact hT
  have hW0 : s.WarmedH s'.vm := by rw [hvm]; exact State.WarmedH.refl s
  have hat' : ∀ w ∈ vx_atS own ic cls names, w.before args s' = true := fun w hw => vx_ot_at hW0 hvm.symm (hgood w (List.mem_cons_of_mem _ (List.mem_cons_of_mem _ hw))) (hat w hw)
  have hk' : (Cond.classLink own ik cls).before args s' = true := vx_ot_at hW0 hvm.symm (hgood _ List.mem_cons_self) hk
  have hini' : (Cond.initialized cls).before args s' = true := vx_ot_at hW0 hvm.symm (hgood _ (List.mem_cons_of_mem _ List.mem_cons_self)) hini
  have hU' : vx_Zq Bundle.tN "UNASSIGNED_STACK" Bundle.steD A s' s'.heap := by rw [hhp]; exact vx_Zq.moved hW0.alike (hU.kept hS.2.1)
  have hN' : vx_Zq Bundle.tN "SUPPRESSED_SENTINEL" Bundle.listD A s' s'.heap := by rw [hhp]; exact vx_Zq.moved hW0.alike (hN.kept hS.2.1)
  have h : ∀ w ∈ Bundle.ownAtoms own ic cls names, w.before args s' = true := vx_own hat' (vx_isRefq hU'.1) (vx_isRefq hN'.1) hU'.2.word hN'.2.word
  have hown' : s'.vm.findClass own = some m.cls := by rw [hvm]; exact hown
  have hins : (Cond.instantiable cls 6).before args s' = true := h _ (by simp [Bundle.ownAtoms])
  obtain ⟨vm₁, cX, kX, hfX, hkX, -, -, X₁, st1⟩ := Y.newCold hexec (own := own) (C := cls) (index := ik) (n := 6) hown' hk' hins hini'
    (g := F0 m pc ls rest) rfl (by rw [hb]; exact d0) (Nat.le_refl _) (Nat.le_refl _)
  generalize hT1 : (T.setVm vm₁).pushCell { cls := cX, slots := kX.instanceTypes.map defaultValue, vm := .none } = T1 at X₁ st1
  have hcat : (Value.ref T.heap.size).category = 1 := rfl
  have hcellA : T1.heap[T.heap.size]? = some (freshCell cX kX) := by rw [← hT1]; exact State.heap_pushCell_size _ _
  have d3' : decode c.code (pc + 3) = .ok (.dup, 1) := by rw [hb]; exact d3
  have d4' : decode c.code (pc + 4) = .ok (.ldc_w is, 3) := by rw [hb]; exact d4
  have hstr' : vk_R own is text sa s' := vk_R.warm hW0 hstr
  obtain ⟨U, hsteps, hrun, hend, hW, hsame, ce, hce, hO⟩ := X₁.ctorThrowS hexec htr (own := own) (cls := cls) (names := names) (ic := ic) hown' hcls hnames h (fun x hx => nomatch hx) hfX hkX hcellA (by rw [hhp, hT]; exact Nat.le_refl _) (msg := .ref sa) rfl
    (g := { method := m, pc := pc + 7, locals := ls, stack := .ref sa :: .ref T.heap.size :: .ref T.heap.size :: rest, locked := none }) rfl hsize rfl rfl (rest := rest) rfl
    (by rw [hb]; exact d7) (by rw [hb]; exact d10) hout hRframes (by simp only [List.map_cons, List.sum_cons, hcat]; omega) hlocks
  obtain ⟨f1, f2⟩ := vx_frame hsame
  rw [hhp] at f1 f2
  have hWs : s.WarmedH U.vm := State.WarmedH.trans hW0 hW
  have hcl : s.vm.findClass cls = some ce.cls := by
    have h9 := hO.cls
    rw [hvm] at h9
    exact h9
  have hall : s.sameButNew ({ U with vm := s.vm } : State) locs mc ms := by
    subst hA
    obtain ⟨e1, e2⟩ := hsame
    rw [State.setFrames_setFrames] at e1
    have h2 : (T.setVm s.vm).sameButNew ({ U with vm := s.vm } : State) [] (0 + 1) (0 + 6) := ⟨e1, e2⟩
    have h3 := X.same.trans h2
    rw [List.append_nil] at h3
    exact h3.mono hc hs
  refine ⟨U, ?_, .threw T.heap.size, hrun, hend, Or.inr ⟨T.heap.size, rfl, cls, ce, locs, hx U hWs.alike f1 (fun q hq => f2 q hq (fun z hz => nomatch hz)), hce, hO.vm, hcl, hWs, hall, hf⟩⟩
  refine st1 _ ?_
  show Steps p.tables e below (T1.setTop { method := m, pc := pc + 3, locals := ls, stack := .ref T.heap.size :: rest, locked := none }) _
  jvm_step X₁.here [X₁.here.top, hexec, d3', Value.category]
  exact X₁.ldcStringW hexec (own := own) (text := text) (index := is) (a := sa) hown' hstr'.1 hstr'.2
    (g := { method := m, pc := pc + 4, locals := ls, stack := .ref T.heap.size :: .ref T.heap.size :: rest, locked := none }) rfl d4' _ hsteps
end Ends
section Bodies
variable {l : Launch}
theorem vx_ofW {y : MethodName} {ws ws' : List Cond} {rm : Room} {Pc : Array Value → State → Prop} {Qc : Array Value → State → Outcome → State → Prop} {XC : String → State → State → Prop} {mc ms : Nat} {free : Addr → Prop} {cc : ByteArray} {maxL : Nat} {ret : Option FieldType}
    (hy : plainName y.cls = true) (hw : ws = Cond.code y cc maxL ret :: ws')
    (body : ∀ p e s m args below meth c s₁, BodyLoose p l y (headSpec ws rm) cc maxL ret e s m args below meth c s₁ → c.maxLocals = maxL → (∀ x ∈ c.exceptionTable.toList, False) → Pc args s →
      W p l e (headSpec ws rm).room s m args below meth c s.heap [] 0 0 (vx_MQ below Qc XC args s mc ms free) (entryFrame m args maxL)) : vx_Met l y ws rm Pc Qc XC mc ms free := by
  refine MetFree.of_bodyS (code := cc) (maxLocals := maxL) (ret := ret) hy ?_ ?_
  · intro args s m h hn
    obtain ⟨meth, c, h1, h2, h3, h4, h5, h6, -, -⟩ := Cond.code_spec hn (atoms_spec (ws := ws) h _ (by rw [hw]; exact List.mem_cons_self))
    exact ⟨meth, c, h1, h2, h3, h4, h5, h6⟩
  · intro p e s m args below meth c s₁ B hml hP _
    have hh0 : s₁.heap = s.heap := by rw [B.state]; rfl
    have ht : ∀ x ∈ c.exceptionTable.toList, False := by
      obtain ⟨meth9, c9, h1, h2, -, -, -, -, h7, -⟩ := Cond.code_spec B.named (atoms_spec (ws := ws) B.pre _ (by rw [hw]; exact List.mem_cons_self))
      cases Option.some.inj (h1.symm.trans B.method)
      cases Option.some.inj (h2.symm.trans (Stand.of_body B).code)
      intro x hx
      rw [Array.isEmpty_iff.mp h7] at hx
      cases hx
    obtain ⟨t, a1, o, b1, b2, b3⟩ := body p e s m args below meth c s₁ B hml ht hP s₁ hh0 (Stand.of_body B)
    exact ⟨t, o, a1, b1, b2, b3⟩
/-- the table of a body with handlers -/
theorem vx_table {p : Program} {x y : MethodName} {S : Spec} {cc bytes : ByteArray} {maxL maxL' : Nat} {ret ret' : Option FieldType} {e : Env} {s s₁ : State} {m : MethodId} {args : Array Value} {below : List Frame} {meth : Method} {c : Code} {hh : List (Nat × Nat × Nat × Nat)}
    (B : BodyLoose p l y S cc maxL ret e s m args below meth c s₁) (h : (Cond.codeWith y bytes maxL' ret' hh).before args s = true) : c.exceptionTable.toList = tableOf hh := by
  obtain ⟨m9, meth9, c9, hn9, h1, h2, -, -, h6, -⟩ := Cond.codeWith_spec h
  cases Option.some.inj (hn9.symm.trans B.named)
  cases Option.some.inj (h1.symm.trans B.method)
  cases Option.some.inj (h2.symm.trans (Stand.of_body B).code)
  rw [← h6, table_eq]
end Bodies
end VXA
/-! ===== END ===== -/
/-! ===== BEGIN a static call of a method with an exception table ===== -/
section VXS
variable {p : Program} {l : Launch} {e : Env} {R : Room} {s : State} {m : MethodId} {args : Array Value} {below : List Frame} {meth : Method} {c : Code} {T : State} {H : Heap} {locs : List Loc} {cells slots : Nat}
abbrev vx_CSW (R : Room) (s : State) (args : Array Value) (own : String) (index : Nat) (y : MethodName) (bytes : ByteArray) (maxL : Nat) (ret : Option FieldType) (hh : List (Nat × Nat × Nat × Nat)) (ws : List Cond) (rm : Room) (mc ms n : Nat) : Prop :=
  (rm.cells = mc ∧ rm.slots = ms ∧ rm.frames + 1 ≤ R.frames ∧ 8 + (maxL + 11) + rm.locals ≤ R.locals ∧ (∀ w ∈ ws, ∀ (a' : Array Value) (U : State), s.WarmedH U.vm → w.before a' U = true) ∧ Cond.codeWith y bytes maxL ret hh ∈ ws) ∧
  (Cond.codeWith y bytes maxL ret hh).before args s = true ∧ (Cond.initialized y.cls).before args s = true ∧ (y.cls ≠ "java/lang/invoke/MethodHandle" ∧ y.cls ≠ "java/lang/invoke/VarHandle") ∧
  (∀ sig, parseMethodDescriptor y.desc = some sig → n = sig.parameters.length) ∧ (Cond.methodLink own index y).before args s = true ∧ (Cond.static y).before args s = true
theorem vx_cwSW {own : String} {index maxL mc ms : Nat} {y : MethodName} {bytes : ByteArray} {ret : Option FieldType} {hh : List (Nat × Nat × Nat × Nat)} {Ts ws ws' : List Cond} {rm : Room} (n : Nat) (ht : ∀ w ∈ Ts, w.before args s = true) (hT : GoodIn Ts (va_wsS own index y ws)) (hw : ws = Cond.codeWith y bytes maxL ret hh :: ws') (hrc : rm.cells = mc) (hrs : rm.slots = ms)
    (hd : y.cls ≠ "java/lang/invoke/MethodHandle" ∧ y.cls ≠ "java/lang/invoke/VarHandle" ∧ (parseMethodDescriptor y.desc).map (fun d => d.parameters.length) = some n) (hR : rm.frames + 1 ≤ R.frames ∧ 8 + (maxL + 11) + rm.locals ≤ R.locals) :
    vx_CSW R s args own index y bytes maxL ret hh ws rm mc ms n := by
  have ok : ∀ w ∈ va_wsS own index y ws, w.before args s = true := fun w h => ht w (hT w h).1
  have hG : GoodIn Ts ws := fun w h => hT w (by unfold va_wsS; exact List.mem_append_right _ h)
  have hc : Cond.codeWith y bytes maxL ret hh ∈ ws := by rw [hw]; exact List.mem_cons_self
  refine ⟨⟨hrc, hrs, hR.1, hR.2, pay_in ht hG, hc⟩, ht _ (hG _ hc).1, ok _ (by simp [va_wsS]), ⟨hd.1, hd.2.1⟩, fun sig h => ?_, ok _ (by simp [va_wsS]), ok _ (by simp [va_wsS])⟩
  have h2 := hd.2.2
  rw [h] at h2
  exact (Option.some.inj h2).symm
theorem vx_callSW (X : Stand p l e R s m args below meth c T locs cells slots) (hexec : p.tables.exec = Jvm.exec) {own : String} {index : Nat} {y : MethodName} {bytes : ByteArray} {maxL : Nat} {ret : Option FieldType} {hh : List (Nat × Nat × Nat × Nat)}
    (hown : s.vm.findClass own = some m.cls) (hlink : (Cond.methodLink own index y).before args s = true) (hstat : (Cond.static y).before args s = true) (hinit : (Cond.initialized y.cls).before args s = true)
    (hcode : (Cond.codeWith y bytes maxL ret hh).before args s = true) (hy : y.cls ≠ "java/lang/invoke/MethodHandle" ∧ y.cls ≠ "java/lang/invoke/VarHandle")
    {W9 : Nat} {Pre : Pt → Array Value → Prop} {Post : Pt → Array Value → Option Value → Pt → Prop} (hK : Back l R p e below s args y 3 W9 Pre Post)
    {g : JFrame} (hg : g.method = m) (hsize : g.locals.size = c.maxLocals) {argsL rest : List Value} (hlen : ∀ sig, parseMethodDescriptor y.desc = some sig → argsL.length = sig.parameters.length)
    (hstack : g.stack = argsL.reverse ++ rest) (hW : 2 * g.monitorRoom + (rest.map fun v => v.category).sum ≤ W9) (hdg : decode c.code g.pc = .ok (.invokestatic index, 3))
    (hpre : ∀ vm₁, s.WarmedH vm₁ → Pre ⟨T.setVm vm₁, locs, cells, slots⟩ argsL.toArray) :
    ∃ (v : Option Value) (vm₁ : Vm) (B : Pt), s.WarmedH vm₁ ∧ Stand p l e R s m args below meth c B.U B.locs B.cells B.slots ∧ Post ⟨T.setVm vm₁, locs, cells, slots⟩ argsL.toArray v B ∧
      ∀ target, Steps p.tables e below (B.U.setTop { g with pc := g.pc + 3, stack := v.toList ++ rest }) target → Steps p.tables e below (T.setTop g) target := by
  obtain ⟨mk, methM, cM, hnamed, hmethM, -, -, -, -, -, -, hsigM⟩ := Cond.codeWith_spec hcode
  have hstatic : methM.isStatic = true := Cond.static_spec hnamed hmethM hstat
  obtain ⟨kP, hkP, -⟩ := className_of_methodNamed hnamed
  have hinitP : kP.init = .initialized := Cond.initialized_spec (findClass_of_methodNamed hnamed) hkP hinit
  obtain ⟨vm₁, X₁, hstep₁⟩ := X.invokestatic hexec hown hlink hnamed hmethM hstatic hkP hinitP hy (g := g) hg (argsL := argsL) (rest := rest) (hlen _ hsigM) hstack hdg
  obtain ⟨v, B, X', hpost, hsteps⟩ := hK m meth c ⟨T.setVm vm₁, locs, cells, slots⟩ { g with stack := rest } (.invokestatic index) mk argsL.toArray X₁ hg hsize hdg hW (X₁.named hnamed) (hpre vm₁ X₁.warmed)
  exact ⟨v, vm₁, B, X₁.warmed, X', hpost, fun target h => hstep₁ _ fun acts => by rw [doInvoke_state]; exact hsteps.trans h⟩
theorem vx_runSW {y : MethodName} {bytes cc : ByteArray} {maxL nL mc ms n index : Nat} {ret : Option FieldType} {hh : List (Nat × Nat × Nat × Nat)} {ws : List Cond} {rm : Room} {Pc : Array Value → State → Prop} {Qc : Array Value → State → Outcome → State → Prop} {free : Addr → Prop} {Ts : List Cond} {own : String} {As rest : List Value} {g : JFrame}
    (S : CallFix p m c cc nL s args Ts own) (hM : Met l y ws rm Pc Qc mc ms free) (cw : vx_CSW R s args own index y bytes maxL ret hh ws rm mc ms n) (hp : PreS s H Pc As)
    (hg : g.method = m) (hn : As.length = n) (hsize : g.locals.size = nL) (hstack : g.stack = As.reverse ++ rest) (hW : 2 * g.monitorRoom + (rest.map fun v => v.category).sum ≤ 8) (hdg : decode cc g.pc = .ok (.invokestatic index, 3)) (hf : cells + mc ≤ R.cells ∧ slots + ms ≤ R.slots) :
    va_Run p l e R s m args below meth c H locs cells slots mc ms g rest (Qc As.toArray) (free) := by
  obtain ⟨⟨hrc, hrs, hfr, hlo, hws, hcw⟩, hcode, hini, hy, hlen, hl, hstt⟩ := cw
  have hK : Back l R p e below s args y 3 8 (PreOf R mc ms Pc) (PostOf Qc mc ms free) := va_backW (hh := hh) (bytes := bytes) (maxL := maxL) (ret := ret) hM hp.1 hrc hrs hfr hlo hws hcw (fun a' U hW => word_at hW (Or.inl (by first | rfl | simp [Cond.onTables, Cond.keeps, Cond.steady])) hini)
  obtain ⟨hx, hb, hml, ho, -⟩ := S
  intro T hT X
  obtain ⟨v, vm₁, ⟨U', l2, c2, s2⟩, hW₁, X', ⟨g', mk, t, L, e1, e2, hq, h1, hL, h2, h3⟩, st⟩ := vx_callSW X hx (hh := hh) (bytes := bytes) (maxL := maxL) (ret := ret) ho hl hstt hini hcode hy hK hg (hsize.trans hml.symm) (argsL := As) (rest := rest) (fun sig h => hn.trans (hlen sig h)) hstack hW (by rw [hb]; exact hdg)
    (fun vm₁ hW₁ => ⟨hf.1, hf.2, hp.2 (T.setVm vm₁) hT hW₁⟩)
  dsimp only [Pt.U, Pt.locs, Pt.cells, Pt.slots] at X' e1 e2 h1 h2 h3 st
  subst h1; subst h2; subst h3
  exact ⟨v, (T.setVm vm₁).calling g' mk As.toArray, t, U', L, hT, X', hL, e1, e2, hq, st⟩
/-- not caught here, past rows that name other classes: it goes on to the caller -/
theorem vx_outP {p : Program} {l : Launch} {e : Env} {R : Room} {s : State} {m : MethodId} {args : Array Value} {below : List Frame} {meth : Method} {c : Code} {H : Heap} {locs : List Loc} {cells slots : Nat} {free : Addr → Prop} {ls : Array Slot} {rest : List Value} {Qc : Array Value → State → Outcome → State → Prop} {XC : String → State → State → Prop}
    {pc : Nat} {own E : String} {ce : Cell} {q : Addr} {mc ms : Nat} (hown : s.vm.findClass own = some m.cls) (hlocks : meth.locks = false)
    (hpass : ∀ z ∈ c.exceptionTable.toList, covers z pc = false ∨ (z.catchType ≠ 0 ∧ ∃ nm : String, (Cond.classLink own z.catchType nm).before args s = true ∧ va_Nc E nm s)) (hcell : H[q]? = some ce) (hv : ce.vm = .none) (hcl : s.vm.findClass E = some ce.cls)
    (hx : ∀ t : State, t.heap = H → s.vm.Alike t.vm → XC E s t) (hf : ∀ z ∈ locs, free z.base) (hc : cells ≤ mc) (hs : slots ≤ ms) :
    vx_W p l e R s m args below meth c H locs cells slots (vx_MQ below Qc XC args s mc ms free) (F0 m pc ls rest) q := by
  intro T hT X
  have hpl : e.platform.magicAccessors = ({} : Platform).magicAccessors := by rw [X.admits.platform]
  obtain ⟨vm', hW', X', st⟩ := X.outThrough hlocks q (g := F0 m pc ls rest) rfl rfl rfl (cell := ce) (by rw [hT]; exact hcell) (by rw [hv]; rfl)
    (by obtain ⟨k9, h9, -⟩ := Vm.findClass_spec hcl; exact ⟨k9, h9⟩) (fun z hz => by
      rcases hpass z hz with h | ⟨hz0, nm, hl1, hn1⟩
      · exact Or.inl h
      · obtain ⟨c6, hc6, hcl6⟩ := Cond.classLink_spec hown hl1 e.platform hpl
        obtain ⟨a8, b8, h1, h2, h3⟩ := hn1
        cases Option.some.inj (h1.symm.trans hcl)
        cases Option.some.inj (h2.symm.trans hc6)
        exact Or.inr ⟨hz0, _, hcl6, h3⟩)
  obtain ⟨g₀, hfr⟩ := X'.frames_eq
  have hcell9 : ((T.setVm vm').setFrames (.throwing q :: below)).heap[q]? = some ce := by
    show T.heap[q]? = some ce
    rw [hT]; exact hcell
  have hend : Ended ((T.setVm vm').setFrames (.throwing q :: below)) below (.threw q) := State.frames_setFrames _ (State.cur_lt_of_frames hfr)
  refine ⟨(T.setVm vm').setFrames (.throwing q :: below), ?_, .threw q, X'.here.running, hend, Or.inr ⟨q, rfl, E, ce, locs, hx _ hT (X'.ends _).1.alike, hcell9, hv, hcl, (X'.ends _).1, (X'.ends _).2.mono hc hs, hf⟩⟩
  rw [X.pushThrowing_eq]
  exact st
/-- a thing of a world lies in the heap -/
theorem vx_lt {D : va_G} {cl : List vw_C} {ws : va_W} {H1 : Heap} (h : va_P D cl ws H1) {k : Nat} {q : Nat × va_E} (hk : ws[k]? = some q) : q.1 < H1.size := (h k q hk).lt
end VXS
/-! ===== END ===== -/
/-! ===== BEGIN methods with a table of their own: called by a name, returning or throwing ===== -/
section VXH
/-! vx_backW, vx_callVX, vx_callSX, vx_callVW, vx_runVW, vx_runVX, vx_runSX, vx_ofWH follow the same proofs as their sisters above (Free/Laws.lean, Shelf42/LK1.lean); vx_outP calls Shelf42/NT130.lean (outThrough). -/
section
variable {l : Launch} {R : Room} {p : Program} {e : Env} {below : List Frame} {s : State} {sargs : Array Value} {y : MethodName} {len W9 : Nat}
theorem vx_backW {ws : List Cond} {rm : Room} {Pc : Array Value → State → Prop} {Qc : Array Value → State → Outcome → State → Prop} {XC : String → State → State → Prop} {mc ms : Nat} {free : Addr → Prop} {bytes : ByteArray} {maxL : Nat} {ret : Option FieldType} {hh : List (Nat × Nat × Nat × Nat)}
    (hM : vx_Met l y ws rm Pc Qc XC mc ms free) (hblind : FrameBlind Pc) (hrc : rm.cells = mc) (hrs : rm.slots = ms)
    (hframes : rm.frames + 1 ≤ R.frames) (hlocals : W9 + (maxL + 11) + rm.locals ≤ R.locals)
    (hws : ∀ w ∈ ws, ∀ a' U, s.WarmedH U.vm → w.before a' U = true) (hcode : Cond.codeWith y bytes maxL ret hh ∈ ws) (hinit : ∀ a' U, s.WarmedH U.vm → (Cond.initialized y.cls).before a' U = true) :
    vx_Back l R p e below s sargs y len W9 (PreOf R mc ms Pc) (PostOf Qc mc ms free) (vx_Post XC mc ms free) := by
  intro m meth c A g ig mk a X hg hsize hdg hW hn hp
  have h1 : (headSpec ws rm).pre.before a A.U = true := atoms_intro fun w hw => hws w hw _ _ X.warmed
  have h2 : (Cond.codeWith y bytes maxL ret hh).before a A.U = true := hws _ hcode _ _ X.warmed
  have h3 : (Cond.initialized y.cls).before a A.U = true := hinit _ _ X.warmed
  have h4 : A.cells + (headSpec ws rm).room.cells ≤ R.cells := by rw [show (headSpec ws rm).room.cells = mc from hrc]; exact hp.1
  have h5 : A.slots + (headSpec ws rm).room.slots ≤ R.slots := by rw [show (headSpec ws rm).room.slots = ms from hrs]; exact hp.2.1
  have hPc : Pc a (A.U.calling g mk a) := hblind _ _ _ _ hp.2.2
  obtain ⟨U, Ls, c0, s0⟩ := A
  dsimp only [Pt.U, Pt.locs, Pt.cells, Pt.slots] at h1 h2 h3 h4 h5 X hn hPc ⊢
  obtain ⟨m9, methY, cY, hn9, hmY, hcY, -, hlY, -⟩ := Cond.codeWith_spec h2
  cases Option.some.inj (hn9.symm.trans hn)
  obtain ⟨kY, hkY, -⟩ := className_of_methodNamed hn
  have hinitY : kY.init = .initialized := Cond.initialized_spec (findClass_of_methodNamed hn) hkY h3
  have h : At U g.method c below := by rw [hg]; exact X.here
  have hlocals9 : W9 + (maxL + 11) + (headSpec ws rm).room.locals ≤ R.locals := hlocals
  have happ : (headSpec ws rm).appliesLoose y e.platform (U.calling g mk a) = true :=
    Spec.appliesLoose_calling (g := g) h hdg hn hkY hinitY
      (X.room_calling (g := g) (R' := (headSpec ws rm).room) hsize hmY hcY hframes (by rw [hlY]; omega) h4 h5) h1
  obtain ⟨mid, hmid⟩ := h.above
  have hfr : (U.setTop g).frames = (.java g :: mid) ++ below := by rw [State.frames_setTop' g h.top, hmid]; rfl
  obtain ⟨o, s₂, hsteps, -, hend, hq⟩ := Steps.callFree hM p X.admits X.cas X.clock (acts := []) hfr happ hPc trivial
  have hq' : vx_Q Qc XC mc ms free a (U.calling g mk a) o s₂ := hq
  rw [State.frames_setTop' g h.top] at hend
  obtain ⟨g₀, hg0⟩ := Option.isSome_iff_exists.mp h.top
  obtain ⟨r, hr⟩ := State.topJava?_eq_some.mp hg0
  have hr' : (({ U with heap := s₂.heap, slotsUsed := s₂.slotsUsed } : State).setVm s₂.vm).frames = .java g₀ :: r := hr
  rcases hq' with ⟨hqc, L, hfe, hL⟩ | ⟨q, rfl, E, ce, L, hx, hce, hcv, hcl, hW₂, hsm, hL⟩
  · obtain ⟨⟨v, rfl⟩, hW₂, e2, q2, q3, q4, q5, q6⟩ := id hfe
    have e3 : s₂ = ({ (U.calling g mk a).setFrames s₂.frames with heap := s₂.heap, slotsUsed := s₂.slotsUsed } : State).setVm s₂.vm := by
      have : s₂ = ({ s₂ with vm := (U.calling g mk a).vm } : State).setVm s₂.vm := rfl
      rw [e2] at this
      exact this
    obtain ⟨c₂, i₂, len₂, hc₂, hd₂, hf₂⟩ := hend
    have hW' : U.WarmedH s₂.vm := hW₂
    have hcc : c₂ = c := by
      have h1 : s₂.code? g.method = U.code? g.method := by
        rw [State.code?_eq, State.code?_eq, hW'.alike.method?]
      exact Option.some.inj (hc₂.symm.trans (h1.trans h.code))
    subst hcc
    have hlen : len₂ = len := by rw [hdg] at hd₂; cases hd₂; rfl
    subst hlen
    have hs₂ : s₂ = (({ U with heap := s₂.heap, slotsUsed := s₂.slotsUsed } : State).setVm s₂.vm).setTop { g with pc := g.pc + len₂, stack := v.toList ++ g.stack } := by
      refine e3.trans ?_
      rw [hf₂, State.calling_eq h.top, State.setFrames_setFrames, State.setTop_of_frames _ hr', hr]
      rfl
    have hsame : U.sameButNew ({ U with heap := s₂.heap, slotsUsed := s₂.slotsUsed } : State) L mc ms := by
      refine ⟨?_, q2, q3, q4, q5, q6⟩
      obtain ⟨t, ht, -⟩ := State.frames_cons hr
      show ({ U with heap := s₂.heap, slotsUsed := s₂.slotsUsed } : State) = { U.setFrames U.frames with heap := s₂.heap, slotsUsed := s₂.slotsUsed }
      rw [State.setFrames_self ht]
    subst hg
    refine Or.inl ⟨v, ⟨(({ U with heap := s₂.heap, slotsUsed := s₂.slotsUsed } : State).setVm s₂.vm), Ls ++ L, c0 + mc, s0 + ms⟩,
      ⟨X.admits, X.cas, X.clock, X.frames, X.room, X.hears, X.method, X.code, (X.here.setHeapUsed s₂.heap s₂.slotsUsed).setVm hW'.alike, X.tail, State.WarmedH.trans X.warmed hW', X.limits, X.bytes, X.same.trans (hsame.setVm s.vm)⟩,
      ⟨g, mk, s₂, L, rfl, rfl, hqc, rfl, hL, rfl, rfl⟩, ?_⟩
    show Steps p.tables e below _ ((({ U with heap := s₂.heap, slotsUsed := s₂.slotsUsed } : State).setVm s₂.vm).setTop { g with pc := g.pc + len₂, stack := v.toList ++ g.stack })
    rw [← hs₂]
    exact hsteps
  · obtain ⟨e2, q2, q3, q4, q5, q6⟩ := id hsm
    have e3 : s₂ = ({ (U.calling g mk a).setFrames s₂.frames with heap := s₂.heap, slotsUsed := s₂.slotsUsed } : State).setVm s₂.vm := by
      have : s₂ = ({ s₂ with vm := (U.calling g mk a).vm } : State).setVm s₂.vm := rfl
      rw [e2] at this
      exact this
    have hf₂ : s₂.frames = .throwing q :: .java g :: U.frames.tail := hend
    have hW' : U.WarmedH s₂.vm := hW₂
    have hs₂ : s₂ = ((({ U with heap := s₂.heap, slotsUsed := s₂.slotsUsed } : State).setVm s₂.vm).setTop g).pushFrame (.throwing q) := by
      refine e3.trans ?_
      rw [hf₂, State.calling_eq h.top, State.setFrames_setFrames, State.pushFrame, State.frames_setTop _ hr', State.setTop_of_frames _ hr', State.setFrames_setFrames, hr]
      rfl
    have hsame : U.sameButNew ({ U with heap := s₂.heap, slotsUsed := s₂.slotsUsed } : State) L mc ms := by
      refine ⟨?_, q2, q3, q4, q5, q6⟩
      obtain ⟨t, ht, -⟩ := State.frames_cons hr
      show ({ U with heap := s₂.heap, slotsUsed := s₂.slotsUsed } : State) = { U.setFrames U.frames with heap := s₂.heap, slotsUsed := s₂.slotsUsed }
      rw [State.setFrames_self ht]
    subst hg
    refine Or.inr ⟨q, ⟨(({ U with heap := s₂.heap, slotsUsed := s₂.slotsUsed } : State).setVm s₂.vm), Ls ++ L, c0 + mc, s0 + ms⟩,
      ⟨X.admits, X.cas, X.clock, X.frames, X.room, X.hears, X.method, X.code, (X.here.setHeapUsed s₂.heap s₂.slotsUsed).setVm hW'.alike, X.tail, State.WarmedH.trans X.warmed hW', X.limits, X.bytes, X.same.trans (hsame.setVm s.vm)⟩,
      ⟨g, mk, s₂, L, E, ce, rfl, rfl, hx, hce, hcv, hcl, rfl, hL, rfl, rfl⟩, ?_⟩
    show Steps p.tables e below _ (((({ U with heap := s₂.heap, slotsUsed := s₂.slotsUsed } : State).setVm s₂.vm).setTop g).pushFrame (.throwing q))
    rw [← hs₂]
    exact hsteps
end
variable {p : Program} {l : Launch} {e : Env} {R : Room} {s : State} {m : MethodId} {args : Array Value} {below : List Frame} {meth : Method} {c : Code} {T : State} {H : Heap} {locs : List Loc} {cells slots : Nat}
theorem vx_callVX (X : Stand p l e R s m args below meth c T locs cells slots) (hexec : p.tables.exec = Jvm.exec) {own C : String} {index : Nat} {y : MethodName} {bytes : ByteArray} {maxL : Nat} {ret : Option FieldType} {hh : List (Nat × Nat × Nat × Nat)}
    (hown : s.vm.findClass own = some m.cls) (hlink : (Cond.methodLink own index y).before args s = true) (hinst : (Cond.instanceMethod y).before args s = true) (hsel : (Cond.selects C y y).before args s = true)
    (hcode : (Cond.codeWith y bytes maxL ret hh).before args s = true) (hy : y.cls ≠ "java/lang/invoke/MethodHandle" ∧ y.cls ≠ "java/lang/invoke/VarHandle")
    {W9 : Nat} {Pre : Pt → Array Value → Prop} {Post : Pt → Array Value → Option Value → Pt → Prop} {PostX : Pt → Array Value → Addr → Pt → Prop} (hK : vx_Back l R p e below s args y 3 W9 Pre Post PostX)
    {b : Addr} {cellB : Cell} (hcell : T.heap[b]? = some cellB) (hobj : cellB.vm.isStatics = false) (hcls : s.vm.findClass C = some cellB.cls)
    {g : JFrame} (hg : g.method = m) (hsize : g.locals.size = c.maxLocals) {argsL rest : List Value} (hlen : ∀ sig, parseMethodDescriptor y.desc = some sig → argsL.length = sig.parameters.length)
    (hstack : g.stack = argsL.reverse ++ .ref b :: rest) (hW : 2 * g.monitorRoom + (rest.map fun v => v.category).sum ≤ W9) (hdg : decode c.code g.pc = .ok (.invokevirtual index, 3))
    (hpre : ∀ vm₁, s.WarmedH vm₁ → Pre ⟨T.setVm vm₁, locs, cells, slots⟩ (Value.ref b :: argsL).toArray) :
    (∃ (v : Option Value) (vm₁ : Vm) (B : Pt), s.WarmedH vm₁ ∧ Stand p l e R s m args below meth c B.U B.locs B.cells B.slots ∧ Post ⟨T.setVm vm₁, locs, cells, slots⟩ (Value.ref b :: argsL).toArray v B ∧
      ∀ target, Steps p.tables e below (B.U.setTop { g with pc := g.pc + 3, stack := v.toList ++ rest }) target → Steps p.tables e below (T.setTop g) target) ∨
    (∃ (q : Addr) (vm₁ : Vm) (B : Pt), s.WarmedH vm₁ ∧ Stand p l e R s m args below meth c B.U B.locs B.cells B.slots ∧ PostX ⟨T.setVm vm₁, locs, cells, slots⟩ (Value.ref b :: argsL).toArray q B ∧
      Steps p.tables e below (T.setTop g) ((B.U.setTop { g with stack := rest }).pushFrame (.throwing q))) := by
  obtain ⟨mk, methM, hnamed, hmethM, hstM, habM⟩ := Cond.instanceMethod_spec hinst
  obtain ⟨m8, methM', cM, hn8, hmethM', -, -, -, -, -, -, hsigM⟩ := Cond.codeWith_spec hcode
  cases Option.some.inj (hn8.symm.trans hnamed)
  cases hmethM.symm.trans hmethM'
  obtain ⟨c2, r2, m2, q1, q2, q3, q4, kP, hkP, hkPi⟩ := Cond.selects_spec hsel
  cases hcls.symm.trans q1
  cases (State.methodFound?_of_named hnamed hy).symm.trans q2
  cases hnamed.symm.trans q3
  have hselP : selectMethod e.platform s.vm cellB.cls mk = .method mk := by rw [Launch.admits_selectMethod X.admits]; exact q4
  obtain ⟨vm₁, X₁, hstep₁⟩ := X.invokevirtual hexec hown hlink hnamed hmethM hstM hkP hkPi hy (a := b) (cell := cellB) hcell
    (fun z h => by rw [h] at hobj; cases hobj) hselP hmethM habM hkP hkPi (g := g) hg (argsL := argsL) (rest := rest) (hlen _ hsigM) hstack hdg
  rcases hK m meth c ⟨T.setVm vm₁, locs, cells, slots⟩ { g with stack := rest } (.invokevirtual index) mk (Value.ref b :: argsL).toArray X₁ hg hsize hdg hW (X₁.named hnamed) (hpre vm₁ X₁.warmed) with ⟨v, B, X', hpost, hsteps⟩ | ⟨q, B, X', hpost, hsteps⟩
  · exact Or.inl ⟨v, vm₁, B, X₁.warmed, X', hpost, fun target h => hstep₁ _ fun acts => by rw [doInvoke_state]; exact hsteps.trans h⟩
  · exact Or.inr ⟨q, vm₁, B, X₁.warmed, X', hpost, hstep₁ _ fun acts => by rw [doInvoke_state]; exact hsteps⟩
theorem vx_callSX (X : Stand p l e R s m args below meth c T locs cells slots) (hexec : p.tables.exec = Jvm.exec) {own : String} {index : Nat} {y : MethodName} {bytes : ByteArray} {maxL : Nat} {ret : Option FieldType} {hh : List (Nat × Nat × Nat × Nat)}
    (hown : s.vm.findClass own = some m.cls) (hlink : (Cond.methodLink own index y).before args s = true) (hstat : (Cond.static y).before args s = true) (hinit : (Cond.initialized y.cls).before args s = true)
    (hcode : (Cond.codeWith y bytes maxL ret hh).before args s = true) (hy : y.cls ≠ "java/lang/invoke/MethodHandle" ∧ y.cls ≠ "java/lang/invoke/VarHandle")
    {W9 : Nat} {Pre : Pt → Array Value → Prop} {Post : Pt → Array Value → Option Value → Pt → Prop} {PostX : Pt → Array Value → Addr → Pt → Prop} (hK : vx_Back l R p e below s args y 3 W9 Pre Post PostX)
    {g : JFrame} (hg : g.method = m) (hsize : g.locals.size = c.maxLocals) {argsL rest : List Value} (hlen : ∀ sig, parseMethodDescriptor y.desc = some sig → argsL.length = sig.parameters.length)
    (hstack : g.stack = argsL.reverse ++ rest) (hW : 2 * g.monitorRoom + (rest.map fun v => v.category).sum ≤ W9) (hdg : decode c.code g.pc = .ok (.invokestatic index, 3))
    (hpre : ∀ vm₁, s.WarmedH vm₁ → Pre ⟨T.setVm vm₁, locs, cells, slots⟩ argsL.toArray) :
    (∃ (v : Option Value) (vm₁ : Vm) (B : Pt), s.WarmedH vm₁ ∧ Stand p l e R s m args below meth c B.U B.locs B.cells B.slots ∧ Post ⟨T.setVm vm₁, locs, cells, slots⟩ argsL.toArray v B ∧
      ∀ target, Steps p.tables e below (B.U.setTop { g with pc := g.pc + 3, stack := v.toList ++ rest }) target → Steps p.tables e below (T.setTop g) target) ∨
    (∃ (q : Addr) (vm₁ : Vm) (B : Pt), s.WarmedH vm₁ ∧ Stand p l e R s m args below meth c B.U B.locs B.cells B.slots ∧ PostX ⟨T.setVm vm₁, locs, cells, slots⟩ argsL.toArray q B ∧
      Steps p.tables e below (T.setTop g) ((B.U.setTop { g with stack := rest }).pushFrame (.throwing q))) := by
  obtain ⟨mk, methM, cM, hnamed, hmethM, -, -, -, -, -, -, hsigM⟩ := Cond.codeWith_spec hcode
  have hstatic : methM.isStatic = true := Cond.static_spec hnamed hmethM hstat
  obtain ⟨kP, hkP, -⟩ := className_of_methodNamed hnamed
  have hinitP : kP.init = .initialized := Cond.initialized_spec (findClass_of_methodNamed hnamed) hkP hinit
  obtain ⟨vm₁, X₁, hstep₁⟩ := X.invokestatic hexec hown hlink hnamed hmethM hstatic hkP hinitP hy (g := g) hg (argsL := argsL) (rest := rest) (hlen _ hsigM) hstack hdg
  rcases hK m meth c ⟨T.setVm vm₁, locs, cells, slots⟩ { g with stack := rest } (.invokestatic index) mk argsL.toArray X₁ hg hsize hdg hW (X₁.named hnamed) (hpre vm₁ X₁.warmed) with ⟨v, B, X', hpost, hsteps⟩ | ⟨q, B, X', hpost, hsteps⟩
  · exact Or.inl ⟨v, vm₁, B, X₁.warmed, X', hpost, fun target h => hstep₁ _ fun acts => by rw [doInvoke_state]; exact hsteps.trans h⟩
  · exact Or.inr ⟨q, vm₁, B, X₁.warmed, X', hpost, hstep₁ _ fun acts => by rw [doInvoke_state]; exact hsteps⟩
theorem vx_callVW (X : Stand p l e R s m args below meth c T locs cells slots) (hexec : p.tables.exec = Jvm.exec) {own C : String} {index : Nat} {y : MethodName} {bytes : ByteArray} {maxL : Nat} {ret : Option FieldType} {hh : List (Nat × Nat × Nat × Nat)}
    (hown : s.vm.findClass own = some m.cls) (hlink : (Cond.methodLink own index y).before args s = true) (hinst : (Cond.instanceMethod y).before args s = true) (hsel : (Cond.selects C y y).before args s = true)
    (hcode : (Cond.codeWith y bytes maxL ret hh).before args s = true) (hy : y.cls ≠ "java/lang/invoke/MethodHandle" ∧ y.cls ≠ "java/lang/invoke/VarHandle")
    {W9 : Nat} {Pre : Pt → Array Value → Prop} {Post : Pt → Array Value → Option Value → Pt → Prop} (hK : Back l R p e below s args y 3 W9 Pre Post)
    {b : Addr} {cellB : Cell} (hcell : T.heap[b]? = some cellB) (hobj : cellB.vm.isStatics = false) (hcls : s.vm.findClass C = some cellB.cls)
    {g : JFrame} (hg : g.method = m) (hsize : g.locals.size = c.maxLocals) {argsL rest : List Value} (hlen : ∀ sig, parseMethodDescriptor y.desc = some sig → argsL.length = sig.parameters.length)
    (hstack : g.stack = argsL.reverse ++ .ref b :: rest) (hW : 2 * g.monitorRoom + (rest.map fun v => v.category).sum ≤ W9) (hdg : decode c.code g.pc = .ok (.invokevirtual index, 3))
    (hpre : ∀ vm₁, s.WarmedH vm₁ → Pre ⟨T.setVm vm₁, locs, cells, slots⟩ (Value.ref b :: argsL).toArray) :
    ∃ (v : Option Value) (vm₁ : Vm) (B : Pt), s.WarmedH vm₁ ∧ Stand p l e R s m args below meth c B.U B.locs B.cells B.slots ∧ Post ⟨T.setVm vm₁, locs, cells, slots⟩ (Value.ref b :: argsL).toArray v B ∧
      ∀ target, Steps p.tables e below (B.U.setTop { g with pc := g.pc + 3, stack := v.toList ++ rest }) target → Steps p.tables e below (T.setTop g) target := by
  obtain ⟨mk, methM, hnamed, hmethM, hstM, habM⟩ := Cond.instanceMethod_spec hinst
  obtain ⟨m8, methM', cM, hn8, hmethM', -, -, -, -, -, -, hsigM⟩ := Cond.codeWith_spec hcode
  cases Option.some.inj (hn8.symm.trans hnamed)
  cases hmethM.symm.trans hmethM'
  obtain ⟨c2, r2, m2, q1, q2, q3, q4, kP, hkP, hkPi⟩ := Cond.selects_spec hsel
  cases hcls.symm.trans q1
  cases (State.methodFound?_of_named hnamed hy).symm.trans q2
  cases hnamed.symm.trans q3
  have hselP : selectMethod e.platform s.vm cellB.cls mk = .method mk := by rw [Launch.admits_selectMethod X.admits]; exact q4
  obtain ⟨vm₁, X₁, hstep₁⟩ := X.invokevirtual hexec hown hlink hnamed hmethM hstM hkP hkPi hy (a := b) (cell := cellB) hcell
    (fun z h => by rw [h] at hobj; cases hobj) hselP hmethM habM hkP hkPi (g := g) hg (argsL := argsL) (rest := rest) (hlen _ hsigM) hstack hdg
  obtain ⟨v, B, X', hpost, hsteps⟩ := hK m meth c ⟨T.setVm vm₁, locs, cells, slots⟩ { g with stack := rest } (.invokevirtual index) mk (Value.ref b :: argsL).toArray X₁ hg hsize hdg hW (X₁.named hnamed) (hpre vm₁ X₁.warmed)
  exact ⟨v, vm₁, B, X₁.warmed, X', hpost, fun target h => hstep₁ _ fun acts => by rw [doInvoke_state]; exact hsteps.trans h⟩
abbrev vx_CVW (R : Room) (s : State) (args : Array Value) (own C : String) (index : Nat) (y : MethodName) (bytes : ByteArray) (maxL : Nat) (ret : Option FieldType) (hh : List (Nat × Nat × Nat × Nat)) (ws : List Cond) (rm : Room) (mc ms n : Nat) : Prop :=
  (rm.cells = mc ∧ rm.slots = ms ∧ rm.frames + 1 ≤ R.frames ∧ 8 + (maxL + 11) + rm.locals ≤ R.locals ∧ (∀ w ∈ ws, ∀ (a' : Array Value) (U : State), s.WarmedH U.vm → w.before a' U = true) ∧ Cond.codeWith y bytes maxL ret hh ∈ ws) ∧
  (Cond.codeWith y bytes maxL ret hh).before args s = true ∧ (Cond.initialized y.cls).before args s = true ∧ (y.cls ≠ "java/lang/invoke/MethodHandle" ∧ y.cls ≠ "java/lang/invoke/VarHandle") ∧
  (∀ sig, parseMethodDescriptor y.desc = some sig → n = sig.parameters.length) ∧ (Cond.methodLink own index y).before args s = true ∧ (Cond.instanceMethod y).before args s = true ∧ (Cond.selects C y y).before args s = true
theorem vx_cwVW {own C : String} {index maxL mc ms : Nat} {y : MethodName} {bytes : ByteArray} {ret : Option FieldType} {hh : List (Nat × Nat × Nat × Nat)} {Ts ws ws' : List Cond} {rm : Room} (n : Nat) (ht : ∀ w ∈ Ts, w.before args s = true) (hT : GoodIn Ts (wsV own index C y ws)) (hw : ws = Cond.codeWith y bytes maxL ret hh :: ws') (hrc : rm.cells = mc) (hrs : rm.slots = ms)
    (hd : y.cls = C ∧ y.cls ≠ "java/lang/invoke/MethodHandle" ∧ y.cls ≠ "java/lang/invoke/VarHandle" ∧ (parseMethodDescriptor y.desc).map (fun d => d.parameters.length) = some n) (hR : rm.frames + 1 ≤ R.frames ∧ 8 + (maxL + 11) + rm.locals ≤ R.locals) :
    vx_CVW R s args own C index y bytes maxL ret hh ws rm mc ms n := by
  obtain ⟨hC, hd⟩ := hd
  subst hC
  have ok : ∀ w ∈ wsV own index y.cls y ws, w.before args s = true := fun w h => ht w (hT w h).1
  have hG : GoodIn Ts ws := fun w h => hT w (by unfold wsV; exact List.mem_append_right _ h)
  have hc : Cond.codeWith y bytes maxL ret hh ∈ ws := by rw [hw]; exact List.mem_cons_self
  refine ⟨⟨hrc, hrs, hR.1, hR.2, pay_in ht hG, hc⟩, ht _ (hG _ hc).1, ok _ (by simp [wsV]), ⟨hd.1, hd.2.1⟩, fun sig h => ?_, ok _ (by simp [wsV]), ok _ (by simp [wsV]), ok _ (by simp [wsV])⟩
  have h2 := hd.2.2
  rw [h] at h2
  exact (Option.some.inj h2).symm
theorem vx_runVW {y : MethodName} {bytes cc : ByteArray} {maxL nL mc ms n index : Nat} {ret : Option FieldType} {hh : List (Nat × Nat × Nat × Nat)} {ws : List Cond} {rm : Room} {Pc : Array Value → State → Prop} {Qc : Array Value → State → Outcome → State → Prop} {free : Addr → Prop} {Ts : List Cond} {own C : String} {b : Addr} {As rest : List Value} {g : JFrame}
    (S : CallFix p m c cc nL s args Ts own) (hM : Met l y ws rm Pc Qc mc ms free) (cw : vx_CVW R s args own C index y bytes maxL ret hh ws rm mc ms n) (hp : PreV s H C b Pc As)
    (hg : g.method = m) (hn : As.length = n) (hsize : g.locals.size = nL) (hstack : g.stack = As.reverse ++ .ref b :: rest) (hW : 2 * g.monitorRoom + (rest.map fun v => v.category).sum ≤ 8) (hdg : decode cc g.pc = .ok (.invokevirtual index, 3)) (hf : cells + mc ≤ R.cells ∧ slots + ms ≤ R.slots) :
    va_Run p l e R s m args below meth c H locs cells slots mc ms g rest (Qc (Value.ref b :: As).toArray) free := by
  obtain ⟨⟨hrc, hrs, hfr, hlo, hws, hcw⟩, hcode, hini, hy, hlen, hl, hin, hse⟩ := cw
  have hK : Back l R p e below s args y 3 8 (PreOf R mc ms Pc) (PostOf Qc mc ms free) := va_backW (hh := hh) (bytes := bytes) (maxL := maxL) (ret := ret) hM hp.1 hrc hrs hfr hlo hws hcw (fun a' U hW => word_at hW (Or.inl (by first | rfl | simp [Cond.onTables, Cond.keeps, Cond.steady])) hini)
  obtain ⟨hx, hb, hml, ho, -⟩ := S
  obtain ⟨-, ⟨cellB, hcB, hoB, hclB⟩, hPc⟩ := hp
  intro T hT X
  obtain ⟨v, vm₁, ⟨U', l2, c2, s2⟩, hW₁, X', ⟨g', mk, t, L, e1, e2, hq, h1, hL, h2, h3⟩, st⟩ := vx_callVW X hx (C := C) (hh := hh) (bytes := bytes) (maxL := maxL) (ret := ret) ho hl hin hse hcode hy hK (by rw [hT]; exact hcB) hoB hclB hg (hsize.trans hml.symm) (argsL := As) (rest := rest) (fun sig h => hn.trans (hlen sig h)) hstack hW (by rw [hb]; exact hdg)
    (fun vm₁ hW₁ => ⟨hf.1, hf.2, hPc (T.setVm vm₁) hT hW₁⟩)
  dsimp only [Pt.U, Pt.locs, Pt.cells, Pt.slots] at X' e1 e2 h1 h2 h3 st
  subst h1; subst h2; subst h3
  exact ⟨v, (T.setVm vm₁).calling g' mk (Value.ref b :: As).toArray, t, U', L, hT, X', hL, e1, e2, hq, st⟩
section
variable {y : MethodName} {bytes cc : ByteArray} {maxL nL mc ms n index : Nat} {ret : Option FieldType} {ws : List Cond} {rm : Room} {Pc : Array Value → State → Prop} {Qc : Array Value → State → Outcome → State → Prop} {XC : String → State → State → Prop} {free : Addr → Prop} {Ts : List Cond} {own C : String} {b : Addr} {As rest : List Value} {g : JFrame}
theorem vx_runVX {hh : List (Nat × Nat × Nat × Nat)} (S : CallFix p m c cc nL s args Ts own) (hM : vx_Met l y ws rm Pc Qc XC mc ms free) (cw : vx_CVW R s args own C index y bytes maxL ret hh ws rm mc ms n) (hp : PreV s H C b Pc As)
    (hg : g.method = m) (hn : As.length = n) (hsize : g.locals.size = nL) (hstack : g.stack = As.reverse ++ .ref b :: rest) (hW : 2 * g.monitorRoom + (rest.map fun v => v.category).sum ≤ 8) (hdg : decode cc g.pc = .ok (.invokevirtual index, 3)) (hf : cells + mc ≤ R.cells ∧ slots + ms ≤ R.slots) :
    vx_Run p l e R s m args below meth c H locs cells slots mc ms g rest (Qc (Value.ref b :: As).toArray) XC free := by
  obtain ⟨⟨hrc, hrs, hfr, hlo, hws, hcw⟩, hcode, hini, hy, hlen, hl, hin, hse⟩ := cw
  have hK : vx_Back l R p e below s args y 3 8 (PreOf R mc ms Pc) (PostOf Qc mc ms free) (vx_Post XC mc ms free) := vx_backW (hh := hh) (bytes := bytes) (maxL := maxL) (ret := ret) hM hp.1 hrc hrs hfr hlo hws hcw (fun a' U hW => word_at hW (Or.inl (by first | rfl | simp [Cond.onTables, Cond.keeps, Cond.steady])) hini)
  obtain ⟨hx, hb, hml, ho, -⟩ := S
  obtain ⟨-, ⟨cellB, hcB, hoB, hclB⟩, hPc⟩ := hp
  intro T hT X
  rcases vx_callVX X hx (C := C) (hh := hh) (bytes := bytes) (maxL := maxL) (ret := ret) ho hl hin hse hcode hy hK (by rw [hT]; exact hcB) hoB hclB hg (hsize.trans hml.symm) (argsL := As) (rest := rest) (fun sig h => hn.trans (hlen sig h)) hstack hW (by rw [hb]; exact hdg)
    (fun vm₁ hW₁ => ⟨hf.1, hf.2, hPc (T.setVm vm₁) hT hW₁⟩) with ⟨v, vm₁, ⟨U', l2, c2, s2⟩, hW₁, X', ⟨g', mk, t, L, e1, e2, hq, h1, hL, h2, h3⟩, st⟩ | ⟨q, vm₁, ⟨U', l2, c2, s2⟩, hW₁, X', ⟨g', mk, t, L, E, ce, e1, e2, hq, hce, hcv, hcl, h1, hL, h2, h3⟩, st⟩
  · dsimp only [Pt.U, Pt.locs, Pt.cells, Pt.slots] at X' e1 e2 h1 h2 h3 st
    subst h1; subst h2; subst h3
    exact Or.inl ⟨v, (T.setVm vm₁).calling g' mk (Value.ref b :: As).toArray, t, U', L, hT, X', hL, e1, e2, hq, st⟩
  · dsimp only [Pt.U, Pt.locs, Pt.cells, Pt.slots] at X' e1 e2 h1 h2 h3 st hcl
    subst h1; subst h2; subst h3
    exact Or.inr ⟨q, (T.setVm vm₁).calling g' mk (Value.ref b :: As).toArray, t, U', L, E, ce, hT, X', hL, e1, e2, hq, hce, hcv, vx_cls hW₁ hcl, st⟩
theorem vx_runSX {hh : List (Nat × Nat × Nat × Nat)} (S : CallFix p m c cc nL s args Ts own) (hM : vx_Met l y ws rm Pc Qc XC mc ms free) (cw : vx_CSW R s args own index y bytes maxL ret hh ws rm mc ms n) (hp : PreS s H Pc As)
    (hg : g.method = m) (hn : As.length = n) (hsize : g.locals.size = nL) (hstack : g.stack = As.reverse ++ rest) (hW : 2 * g.monitorRoom + (rest.map fun v => v.category).sum ≤ 8) (hdg : decode cc g.pc = .ok (.invokestatic index, 3)) (hf : cells + mc ≤ R.cells ∧ slots + ms ≤ R.slots) :
    vx_Run p l e R s m args below meth c H locs cells slots mc ms g rest (Qc As.toArray) XC free := by
  obtain ⟨⟨hrc, hrs, hfr, hlo, hws, hcw⟩, hcode, hini, hy, hlen, hl, hstt⟩ := cw
  have hK : vx_Back l R p e below s args y 3 8 (PreOf R mc ms Pc) (PostOf Qc mc ms free) (vx_Post XC mc ms free) := vx_backW (hh := hh) (bytes := bytes) (maxL := maxL) (ret := ret) hM hp.1 hrc hrs hfr hlo hws hcw (fun a' U hW => word_at hW (Or.inl (by first | rfl | simp [Cond.onTables, Cond.keeps, Cond.steady])) hini)
  obtain ⟨hx, hb, hml, ho, -⟩ := S
  intro T hT X
  rcases vx_callSX X hx (hh := hh) (bytes := bytes) (maxL := maxL) (ret := ret) ho hl hstt hini hcode hy hK hg (hsize.trans hml.symm) (argsL := As) (rest := rest) (fun sig h => hn.trans (hlen sig h)) hstack hW (by rw [hb]; exact hdg)
    (fun vm₁ hW₁ => ⟨hf.1, hf.2, hp.2 (T.setVm vm₁) hT hW₁⟩) with ⟨v, vm₁, ⟨U', l2, c2, s2⟩, hW₁, X', ⟨g', mk, t, L, e1, e2, hq, h1, hL, h2, h3⟩, st⟩ | ⟨q, vm₁, ⟨U', l2, c2, s2⟩, hW₁, X', ⟨g', mk, t, L, E, ce, e1, e2, hq, hce, hcv, hcl, h1, hL, h2, h3⟩, st⟩
  · dsimp only [Pt.U, Pt.locs, Pt.cells, Pt.slots] at X' e1 e2 h1 h2 h3 st
    subst h1; subst h2; subst h3
    exact Or.inl ⟨v, (T.setVm vm₁).calling g' mk As.toArray, t, U', L, hT, X', hL, e1, e2, hq, st⟩
  · dsimp only [Pt.U, Pt.locs, Pt.cells, Pt.slots] at X' e1 e2 h1 h2 h3 st hcl
    subst h1; subst h2; subst h3
    exact Or.inr ⟨q, (T.setVm vm₁).calling g' mk As.toArray, t, U', L, E, ce, hT, X', hL, e1, e2, hq, hce, hcv, vx_cls hW₁ hcl, st⟩
end
end VXH
theorem vx_ofWH {l : Launch} {y : MethodName} {ws ws' : List Cond} {rm : Room} {Pc : Array Value → State → Prop} {Qc : Array Value → State → Outcome → State → Prop} {XC : String → State → State → Prop} {mc ms : Nat} {free : Addr → Prop} {cc : ByteArray} {maxL : Nat} {ret : Option FieldType} {hh : List (Nat × Nat × Nat × Nat)}
    (hy : plainName y.cls = true) (hw : ws = Cond.codeWith y cc maxL ret hh :: ws')
    (body : ∀ p e s m args below meth c s₁, BodyLoose p l y (headSpec ws rm) cc maxL ret e s m args below meth c s₁ → c.maxLocals = maxL → Pc args s →
      W p l e (headSpec ws rm).room s m args below meth c s.heap [] 0 0 (vx_MQ below Qc XC args s mc ms free) (entryFrame m args maxL)) : vx_Met l y ws rm Pc Qc XC mc ms free := by
  refine MetFree.of_bodyS (code := cc) (maxLocals := maxL) (ret := ret) hy ?_ ?_
  · intro args s m h hn
    obtain ⟨m9, meth, c, hn9, h1, h2, h3, h4, -, h5, h6, -⟩ := Cond.codeWith_spec (atoms_spec (ws := ws) h _ (by rw [hw]; exact List.mem_cons_self))
    cases hn.symm.trans hn9
    exact ⟨meth, c, h1, h2, h3, h4, h5, h6⟩
  · intro p e s m args below meth c s₁ B hml hP _
    have hh0 : s₁.heap = s.heap := by rw [B.state]; rfl
    obtain ⟨t, a1, o, b1, b2, b3⟩ := body p e s m args below meth c s₁ B hml hP s₁ hh0 (Stand.of_body B)
    exact ⟨t, o, a1, b1, b2, b3⟩
/-! ===== END ===== -/
/-! ===== BEGIN a constructor that throws (launches without stack traces) ===== -/
section VXIA
variable {p : Program} {l : Launch} {e : Env} {R : Room} {s : State} {m : MethodId} {args : Array Value} {below : List Frame} {meth : Method} {c : Code} {T : State} {locs : List Loc} {cells slots : Nat}
theorem vx_callI (X : Stand p l e R s m args below meth c T locs cells slots) (hexec : p.tables.exec = Jvm.exec) {own : String} {index : Nat} {y : MethodName} {bytes : ByteArray} {maxL : Nat}
    (hown : s.vm.findClass own = some m.cls) (hy1 : y.name = "<init>") (hlink : (Cond.methodLink own index y).before args s = true) (hinst : (Cond.instanceMethod y).before args s = true)
    (hcode : (Cond.code y bytes maxL none).before args s = true) (hy : y.cls ≠ "java/lang/invoke/MethodHandle" ∧ y.cls ≠ "java/lang/invoke/VarHandle")
    {W9 : Nat} {Pre : Pt → Array Value → Prop} {Post : Pt → Array Value → Option Value → Pt → Prop} {PostX : Pt → Array Value → Addr → Pt → Prop} (hK : vx_Back l R p e below s args y 3 W9 Pre Post PostX)
    {g : JFrame} (hg : g.method = m) (hsize : g.locals.size = c.maxLocals) {a : Addr} {argsL rest : List Value} (hlen : ∀ sig, parseMethodDescriptor y.desc = some sig → argsL.length = sig.parameters.length)
    (hstack : g.stack = argsL.reverse ++ .ref a :: rest) (hW : 2 * g.monitorRoom + (rest.map fun v => v.category).sum ≤ W9) (hdg : decode c.code g.pc = .ok (.invokespecial index, 3))
    (hpre : ∀ vm₁, s.WarmedH vm₁ → Pre ⟨T.setVm vm₁, locs, cells, slots⟩ (Value.ref a :: argsL).toArray) :
    (∃ (v : Option Value) (vm₁ : Vm) (B : Pt), s.WarmedH vm₁ ∧ Stand p l e R s m args below meth c B.U B.locs B.cells B.slots ∧ Post ⟨T.setVm vm₁, locs, cells, slots⟩ (Value.ref a :: argsL).toArray v B ∧
      ∀ target, Steps p.tables e below (B.U.setTop { g with pc := g.pc + 3, stack := v.toList ++ rest }) target → Steps p.tables e below (T.setTop g) target) ∨
    (∃ (q : Addr) (vm₁ : Vm) (B : Pt), s.WarmedH vm₁ ∧ Stand p l e R s m args below meth c B.U B.locs B.cells B.slots ∧ PostX ⟨T.setVm vm₁, locs, cells, slots⟩ (Value.ref a :: argsL).toArray q B ∧
      Steps p.tables e below (T.setTop g) ((B.U.setTop { g with stack := rest }).pushFrame (.throwing q))) := by
  subst hg
  have hpl : e.platform.magicAccessors = ({} : Platform).magicAccessors := by rw [X.admits.platform]
  obtain ⟨mk, methM, cM, kP, vm₁, hnamed, hmethM, hcodeM, -, hlocalsM, -, hkP, -, hW₁, hstep₁⟩ := Steps.initColdArgs (e := e) X.here hexec X.warmed hpl hown hy1 hy hlink hinst hcode (f := g) rfl hlen hstack hdg
  have X₁ := X.noted hW₁
  rcases hK g.method meth c ⟨T.setVm vm₁, locs, cells, slots⟩ { g with stack := rest } (.invokespecial index) mk (Value.ref a :: argsL).toArray X₁ rfl hsize hdg hW (X₁.named hnamed) (hpre vm₁ X₁.warmed) with ⟨v, B, X', hpost, hsteps⟩ | ⟨q, B, X', hpost, hsteps⟩
  · exact Or.inl ⟨v, vm₁, B, X₁.warmed, X', hpost, fun target h => hstep₁ _ fun acts => by rw [doInvoke_state]; exact hsteps.trans h⟩
  · exact Or.inr ⟨q, vm₁, B, X₁.warmed, X', hpost, hstep₁ _ fun acts => by rw [doInvoke_state]; exact hsteps⟩
end VXIA
section VXIB
variable {p : Program} {l : Launch} {e : Env} {R : Room} {s : State} {m : MethodId} {args : Array Value} {below : List Frame} {meth : Method} {c : Code} {H : Heap} {locs : List Loc} {cells slots : Nat}
variable {y : MethodName} {bytes cc : ByteArray} {maxL nL mc ms n index : Nat} {ret : Option FieldType} {ws : List Cond} {rm : Room} {Pc : Array Value → State → Prop} {Qc : Array Value → State → Outcome → State → Prop} {XC : String → State → State → Prop} {free : Addr → Prop} {Ts : List Cond} {own C : String} {b : Addr} {As rest : List Value} {g : JFrame}
theorem vx_runI (S : CallFix p m c cc nL s args Ts own) (hM : vx_Met l y ws rm Pc Qc XC mc ms free) (cw : CallB R s args own index y bytes maxL none ws rm mc ms n ∧ y.name = "<init>" ∧ (Cond.instanceMethod y).before args s = true) (hp : PreS s H Pc (.ref b :: As))
    (hg : g.method = m) (hn : As.length = n) (hsize : g.locals.size = nL) (hstack : g.stack = As.reverse ++ .ref b :: rest) (hW : 2 * g.monitorRoom + (rest.map fun v => v.category).sum ≤ 8) (hdg : decode cc g.pc = .ok (.invokespecial index, 3)) (hf : cells + mc ≤ R.cells ∧ slots + ms ≤ R.slots) :
    vx_Run p l e R s m args below meth c H locs cells slots mc ms g rest (Qc (Value.ref b :: As).toArray) XC free := by
  have hK : vx_Back l R p e below s args y 3 8 (PreOf R mc ms Pc) (PostOf Qc mc ms free) (vx_Post XC mc ms free) := vx_callBack cw.1 hM hp.1
  obtain ⟨⟨-, -, -, -, -, -, hcode, -, hy, hlen, hl⟩, hy1, hin⟩ := cw
  obtain ⟨hx, hb, hml, ho, -⟩ := S
  have hPc := hp.2
  intro T hT X
  rcases vx_callI X hx (bytes := bytes) (maxL := maxL) ho hy1 hl hin hcode hy hK hg (hsize.trans hml.symm) (a := b) (argsL := As) (rest := rest) (fun sig h => hn.trans (hlen sig h)) hstack hW (by rw [hb]; exact hdg)
    (fun vm₁ hW₁ => ⟨hf.1, hf.2, hPc (T.setVm vm₁) hT hW₁⟩) with ⟨v, vm₁, ⟨U', l2, c2, s2⟩, hW₁, X', ⟨g', mk, t, L, e1, e2, hq, h1, hL, h2, h3⟩, st⟩ | ⟨q, vm₁, ⟨U', l2, c2, s2⟩, hW₁, X', ⟨g', mk, t, L, E, ce, e1, e2, hq, hce, hcv, hcl, h1, hL, h2, h3⟩, st⟩
  · dsimp only [Pt.U, Pt.locs, Pt.cells, Pt.slots] at X' e1 e2 h1 h2 h3 st
    subst h1; subst h2; subst h3
    exact Or.inl ⟨v, (T.setVm vm₁).calling g' mk (Value.ref b :: As).toArray, t, U', L, hT, X', hL, e1, e2, hq, st⟩
  · dsimp only [Pt.U, Pt.locs, Pt.cells, Pt.slots] at X' e1 e2 h1 h2 h3 st hcl
    subst h1; subst h2; subst h3
    exact Or.inr ⟨q, (T.setVm vm₁).calling g' mk (Value.ref b :: As).toArray, t, U', L, E, ce, hT, X', hL, e1, e2, hq, hce, hcv, vx_cls hW₁ hcl, st⟩
end VXIB
/-! ===== END ===== -/
/-! ===== BEGIN a private method of a nest mate that may throw (follows va_callVN, va_callSN, va_runVN, va_runSN) ===== -/
section
variable {p : Program} {l : Launch} {e : Env} {R : Room} {s : State} {m : MethodId} {args : Array Value} {below : List Frame} {meth : Method} {c : Code} {H : Heap} {locs : List Loc} {cells slots : Nat}
variable {T : State}
theorem vx_callVN (X : Stand p l e R s m args below meth c T locs cells slots) (hexec : p.tables.exec = Jvm.exec) {own C : String} {index : Nat} {host : String} {y : MethodName} {bytes : ByteArray} {maxL : Nat} {ret : Option FieldType}
    (hown : s.vm.findClass own = some m.cls) (hlink : (Cond.methodLinkNest own index y host).before args s = true) (hinst : (Cond.instanceMethod y).before args s = true) (hsel : (Cond.selects C y y).before args s = true)
    (hcode : (Cond.code y bytes maxL ret).before args s = true) (hy : y.cls ≠ "java/lang/invoke/MethodHandle" ∧ y.cls ≠ "java/lang/invoke/VarHandle")
    {W : Nat} {Pre : Pt → Array Value → Prop} {Post : Pt → Array Value → Option Value → Pt → Prop} {PostX : Pt → Array Value → Addr → Pt → Prop} (hK : vx_Back l R p e below s args y 3 W Pre Post PostX)
    {b : Addr} {cellB : Cell} (hcell : T.heap[b]? = some cellB) (hobj : cellB.vm.isStatics = false) (hcls : s.vm.findClass C = some cellB.cls)
    {g : JFrame} (hg : g.method = m) (hsize : g.locals.size = c.maxLocals) {argsL rest : List Value} (hlen : ∀ sig, parseMethodDescriptor y.desc = some sig → argsL.length = sig.parameters.length)
    (hstack : g.stack = argsL.reverse ++ .ref b :: rest) (hW : 2 * g.monitorRoom + (rest.map fun v => v.category).sum ≤ W) (hdg : decode c.code g.pc = .ok (.invokevirtual index, 3))
    (hpre : ∀ vm₁, s.WarmedH vm₁ → Pre ⟨T.setVm vm₁, locs, cells, slots⟩ (Value.ref b :: argsL).toArray) :
    (∃ (v : Option Value) (vm₁ : Vm) (B : Pt), s.WarmedH vm₁ ∧ Stand p l e R s m args below meth c B.U B.locs B.cells B.slots ∧ Post ⟨T.setVm vm₁, locs, cells, slots⟩ (Value.ref b :: argsL).toArray v B ∧
      ∀ target, Steps p.tables e below (B.U.setTop { g with pc := g.pc + 3, stack := v.toList ++ rest }) target → Steps p.tables e below (T.setTop g) target) ∨
    (∃ (q : Addr) (vm₁ : Vm) (B : Pt), s.WarmedH vm₁ ∧ Stand p l e R s m args below meth c B.U B.locs B.cells B.slots ∧ PostX ⟨T.setVm vm₁, locs, cells, slots⟩ (Value.ref b :: argsL).toArray q B ∧
      Steps p.tables e below (T.setTop g) ((B.U.setTop { g with stack := rest }).pushFrame (.throwing q))) := by
  obtain ⟨mk, methM, hnamed, hmethM, hstM, habM⟩ := Cond.instanceMethod_spec hinst
  obtain ⟨methM', cM, hmethM', -, -, -, -, -, -, hsigM⟩ := Cond.code_spec hnamed hcode
  cases hmethM.symm.trans hmethM'
  obtain ⟨c2, r2, m2, q1, q2, q3, q4, kP, hkP, hkPi⟩ := Cond.selects_spec hsel
  cases hcls.symm.trans q1
  cases (State.methodFound?_of_named hnamed hy).symm.trans q2
  cases hnamed.symm.trans q3
  have hselP : selectMethod e.platform s.vm cellB.cls mk = .method mk := by rw [Launch.admits_selectMethod X.admits]; exact q4
  obtain ⟨vm₁, X₁, hstep₁⟩ := X.invokevirtualNest hexec hown hlink hnamed hmethM hstM hkP hkPi hy (a := b) (cell := cellB) hcell
    (fun z h => by rw [h] at hobj; cases hobj) hselP hmethM habM hkP hkPi (g := g) hg (argsL := argsL) (rest := rest) (hlen _ hsigM) hstack hdg
  rcases hK m meth c ⟨T.setVm vm₁, locs, cells, slots⟩ { g with stack := rest } (.invokevirtual index) mk (Value.ref b :: argsL).toArray X₁ hg hsize hdg hW (X₁.named hnamed) (hpre vm₁ X₁.warmed) with ⟨v, B, X', hpost, hsteps⟩ | ⟨q, B, X', hpost, hsteps⟩
  · exact Or.inl ⟨v, vm₁, B, X₁.warmed, X', hpost, fun target h => hstep₁ _ fun acts => by rw [doInvoke_state]; exact hsteps.trans h⟩
  · exact Or.inr ⟨q, vm₁, B, X₁.warmed, X', hpost, hstep₁ _ fun acts => by rw [doInvoke_state]; exact hsteps⟩
theorem vx_callSN (X : Stand p l e R s m args below meth c T locs cells slots) (hexec : p.tables.exec = Jvm.exec) {own : String} {index : Nat} {host : String} {y : MethodName} {bytes : ByteArray} {maxL : Nat} {ret : Option FieldType}
    (hown : s.vm.findClass own = some m.cls) (hlink : (Cond.methodLinkNest own index y host).before args s = true) (hstat : (Cond.static y).before args s = true) (hinit : (Cond.initialized y.cls).before args s = true)
    (hcode : (Cond.code y bytes maxL ret).before args s = true) (hy : y.cls ≠ "java/lang/invoke/MethodHandle" ∧ y.cls ≠ "java/lang/invoke/VarHandle")
    {W : Nat} {Pre : Pt → Array Value → Prop} {Post : Pt → Array Value → Option Value → Pt → Prop} {PostX : Pt → Array Value → Addr → Pt → Prop} (hK : vx_Back l R p e below s args y 3 W Pre Post PostX)
    {g : JFrame} (hg : g.method = m) (hsize : g.locals.size = c.maxLocals) {argsL rest : List Value} (hlen : ∀ sig, parseMethodDescriptor y.desc = some sig → argsL.length = sig.parameters.length)
    (hstack : g.stack = argsL.reverse ++ rest) (hW : 2 * g.monitorRoom + (rest.map fun v => v.category).sum ≤ W) (hdg : decode c.code g.pc = .ok (.invokestatic index, 3))
    (hpre : ∀ vm₁, s.WarmedH vm₁ → Pre ⟨T.setVm vm₁, locs, cells, slots⟩ argsL.toArray) :
    (∃ (v : Option Value) (vm₁ : Vm) (B : Pt), s.WarmedH vm₁ ∧ Stand p l e R s m args below meth c B.U B.locs B.cells B.slots ∧ Post ⟨T.setVm vm₁, locs, cells, slots⟩ argsL.toArray v B ∧
      ∀ target, Steps p.tables e below (B.U.setTop { g with pc := g.pc + 3, stack := v.toList ++ rest }) target → Steps p.tables e below (T.setTop g) target) ∨
    (∃ (q : Addr) (vm₁ : Vm) (B : Pt), s.WarmedH vm₁ ∧ Stand p l e R s m args below meth c B.U B.locs B.cells B.slots ∧ PostX ⟨T.setVm vm₁, locs, cells, slots⟩ argsL.toArray q B ∧
      Steps p.tables e below (T.setTop g) ((B.U.setTop { g with stack := rest }).pushFrame (.throwing q))) := by
  obtain ⟨mk, hnamed⟩ := Cond.code_named hcode
  obtain ⟨methM, cM, hmethM, -, -, -, -, -, -, hsigM⟩ := Cond.code_spec hnamed hcode
  have hstatic : methM.isStatic = true := Cond.static_spec hnamed hmethM hstat
  obtain ⟨kP, hkP, -⟩ := className_of_methodNamed hnamed
  have hinitP : kP.init = .initialized := Cond.initialized_spec (findClass_of_methodNamed hnamed) hkP hinit
  obtain ⟨vm₁, X₁, hstep₁⟩ := X.invokestaticNest hexec hown hlink hnamed hmethM hstatic hkP hinitP hy (g := g) hg (argsL := argsL) (rest := rest) (hlen _ hsigM) hstack hdg
  rcases hK m meth c ⟨T.setVm vm₁, locs, cells, slots⟩ { g with stack := rest } (.invokestatic index) mk argsL.toArray X₁ hg hsize hdg hW (X₁.named hnamed) (hpre vm₁ X₁.warmed) with ⟨v, B, X', hpost, hsteps⟩ | ⟨q, B, X', hpost, hsteps⟩
  · exact Or.inl ⟨v, vm₁, B, X₁.warmed, X', hpost, fun target h => hstep₁ _ fun acts => by rw [doInvoke_state]; exact hsteps.trans h⟩
  · exact Or.inr ⟨q, vm₁, B, X₁.warmed, X', hpost, hstep₁ _ fun acts => by rw [doInvoke_state]; exact hsteps⟩
theorem vx_runVN {y : MethodName} {bytes cc : ByteArray} {maxL nL mc ms n index : Nat} {ret : Option FieldType} {ws : List Cond} {rm : Room} {Pc : Array Value → State → Prop} {Qc : Array Value → State → Outcome → State → Prop} {XC : String → State → State → Prop} {free : Addr → Prop} {Ts : List Cond} {own C host : String} {b : Addr} {As rest : List Value} {g : JFrame}
    (S : CallFix p m c cc nL s args Ts own) (hM : vx_Met l y ws rm Pc Qc XC mc ms free) (cw : va_CN R s args own index y host bytes maxL ret ws rm mc ms n ∧ (Cond.instanceMethod y).before args s = true ∧ (Cond.selects C y y).before args s = true) (hp : PreV s H C b Pc As)
    (hg : g.method = m) (hn : As.length = n) (hsize : g.locals.size = nL) (hstack : g.stack = As.reverse ++ .ref b :: rest) (hW : 2 * g.monitorRoom + (rest.map fun v => v.category).sum ≤ 8) (hdg : decode cc g.pc = .ok (.invokevirtual index, 3)) (hf : cells + mc ≤ R.cells ∧ slots + ms ≤ R.slots) :
    vx_Run p l e R s m args below meth c H locs cells slots mc ms g rest (Qc (Value.ref b :: As).toArray) XC free := by
  obtain ⟨⟨⟨hrc, hrs, hfr, hlo, hws, hcw⟩, hcode, hini, hy, hlen, hl⟩, hx1, hx2⟩ := cw
  have hK : vx_Back l R p e below s args y 3 8 (PreOf R mc ms Pc) (PostOf Qc mc ms free) (vx_Post XC mc ms free) := vx_back (bytes := bytes) (maxL := maxL) (ret := ret) hM hp.1 hrc hrs hfr hlo hws hcw (fun a' U hW => word_at hW (Or.inl (by first | rfl | simp [Cond.onTables, Cond.keeps, Cond.steady])) hini)
  obtain ⟨hx, hb, hml, ho, -⟩ := S
  obtain ⟨-, ⟨cellB, hcB, hoB, hclB⟩, hPc⟩ := hp
  intro T hT X
  rcases vx_callVN X hx (C := C) (bytes := bytes) (maxL := maxL) (ret := ret) ho hl hx1 hx2 hcode hy hK (by rw [hT]; exact hcB) hoB hclB hg (hsize.trans hml.symm) (argsL := As) (rest := rest) (fun sig h => hn.trans (hlen sig h)) hstack hW (by rw [hb]; exact hdg)
    (fun vm₁ hW₁ => ⟨hf.1, hf.2, hPc (T.setVm vm₁) hT hW₁⟩) with ⟨v, vm₁, ⟨U', l2, c2, s2⟩, hW₁, X', ⟨g', mk, t, L, e1, e2, hq, h1, hL, h2, h3⟩, st⟩ | ⟨q, vm₁, ⟨U', l2, c2, s2⟩, hW₁, X', ⟨g', mk, t, L, E, ce, e1, e2, hq, hce, hcv, hcl, h1, hL, h2, h3⟩, st⟩
  · dsimp only [Pt.U, Pt.locs, Pt.cells, Pt.slots] at X' e1 e2 h1 h2 h3 st
    subst h1; subst h2; subst h3
    exact Or.inl ⟨v, (T.setVm vm₁).calling g' mk (Value.ref b :: As).toArray, t, U', L, hT, X', hL, e1, e2, hq, st⟩
  · dsimp only [Pt.U, Pt.locs, Pt.cells, Pt.slots] at X' e1 e2 h1 h2 h3 st hcl
    subst h1; subst h2; subst h3
    exact Or.inr ⟨q, (T.setVm vm₁).calling g' mk (Value.ref b :: As).toArray, t, U', L, E, ce, hT, X', hL, e1, e2, hq, hce, hcv, vx_cls hW₁ hcl, st⟩
theorem vx_runSN {y : MethodName} {bytes cc : ByteArray} {maxL nL mc ms n index : Nat} {ret : Option FieldType} {ws : List Cond} {rm : Room} {Pc : Array Value → State → Prop} {Qc : Array Value → State → Outcome → State → Prop} {XC : String → State → State → Prop} {free : Addr → Prop} {Ts : List Cond} {own host : String} {As rest : List Value} {g : JFrame}
    (S : CallFix p m c cc nL s args Ts own) (hM : vx_Met l y ws rm Pc Qc XC mc ms free) (cw : va_CN R s args own index y host bytes maxL ret ws rm mc ms n ∧ (Cond.static y).before args s = true ∧ True) (hp : PreS s H Pc As)
    (hg : g.method = m) (hn : As.length = n) (hsize : g.locals.size = nL) (hstack : g.stack = As.reverse ++ rest) (hW : 2 * g.monitorRoom + (rest.map fun v => v.category).sum ≤ 8) (hdg : decode cc g.pc = .ok (.invokestatic index, 3)) (hf : cells + mc ≤ R.cells ∧ slots + ms ≤ R.slots) :
    vx_Run p l e R s m args below meth c H locs cells slots mc ms g rest (Qc As.toArray) XC free := by
  obtain ⟨⟨⟨hrc, hrs, hfr, hlo, hws, hcw⟩, hcode, hini, hy, hlen, hl⟩, hx1, hx2⟩ := cw
  have hK : vx_Back l R p e below s args y 3 8 (PreOf R mc ms Pc) (PostOf Qc mc ms free) (vx_Post XC mc ms free) := vx_back (bytes := bytes) (maxL := maxL) (ret := ret) hM hp.1 hrc hrs hfr hlo hws hcw (fun a' U hW => word_at hW (Or.inl (by first | rfl | simp [Cond.onTables, Cond.keeps, Cond.steady])) hini)
  obtain ⟨hx, hb, hml, ho, -⟩ := S
  have hPc := hp.2
  intro T hT X
  rcases vx_callSN X hx (bytes := bytes) (maxL := maxL) (ret := ret) ho hl hx1 hini hcode hy hK hg (hsize.trans hml.symm) (argsL := As) (rest := rest) (fun sig h => hn.trans (hlen sig h)) hstack hW (by rw [hb]; exact hdg)
    (fun vm₁ hW₁ => ⟨hf.1, hf.2, hPc (T.setVm vm₁) hT hW₁⟩) with ⟨v, vm₁, ⟨U', l2, c2, s2⟩, hW₁, X', ⟨g', mk, t, L, e1, e2, hq, h1, hL, h2, h3⟩, st⟩ | ⟨q, vm₁, ⟨U', l2, c2, s2⟩, hW₁, X', ⟨g', mk, t, L, E, ce, e1, e2, hq, hce, hcv, hcl, h1, hL, h2, h3⟩, st⟩
  · dsimp only [Pt.U, Pt.locs, Pt.cells, Pt.slots] at X' e1 e2 h1 h2 h3 st
    subst h1; subst h2; subst h3
    exact Or.inl ⟨v, (T.setVm vm₁).calling g' mk As.toArray, t, U', L, hT, X', hL, e1, e2, hq, st⟩
  · dsimp only [Pt.U, Pt.locs, Pt.cells, Pt.slots] at X' e1 e2 h1 h2 h3 st hcl
    subst h1; subst h2; subst h3
    exact Or.inr ⟨q, (T.setVm vm₁).calling g' mk As.toArray, t, U', L, E, ce, hT, X', hL, e1, e2, hq, hce, hcv, vx_cls hW₁ hcl, st⟩
end
/-! ===== END ===== -/
end
section
-- ===== PART A: goes FIRST, ahead of the names: the tables' words, and 'selects' of the private methods out of them =====
/-- a private method of a class that the tables say can be made, by its rows of tables_1 -/
def lw_okq (q : MethodName × Nat) : Prop := (q.1.cls ≠ "java/lang/invoke/MethodHandle" ∧ q.1.cls ≠ "java/lang/invoke/VarHandle") ∧ Cond.instantiable q.1.cls q.2 ∈ tables_1 ∧ Cond.privateMethod q.1 ∈ tables_1 ∧ Cond.instanceMethod q.1 ∈ tables_1
theorem lw_p0 : lw_okq (⟨"PatentPool", "appendFour", "(I)V"⟩, 10) := ⟨⟨by decide +kernel, by decide +kernel⟩, List.mem_of_getElem? (i := 26) (by decide +kernel), List.mem_of_getElem? (i := 394) (by decide +kernel), List.mem_of_getElem? (i := 395) (by decide +kernel)⟩
theorem lw_p1 : lw_okq (⟨"PatentPool", "weighMembers", "()V"⟩, 10) := ⟨⟨by decide +kernel, by decide +kernel⟩, List.mem_of_getElem? (i := 26) (by decide +kernel), List.mem_of_getElem? (i := 414) (by decide +kernel), List.mem_of_getElem? (i := 415) (by decide +kernel)⟩
theorem lw_p2 : lw_okq (⟨"PatentPool$Assessor", "versionsOn", "(II)I"⟩, 2) := ⟨⟨by decide +kernel, by decide +kernel⟩, List.mem_of_getElem? (i := 302) (by decide +kernel), List.mem_of_getElem? (i := 422) (by decide +kernel), List.mem_of_getElem? (i := 423) (by decide +kernel)⟩
theorem lw_p3 : lw_okq (⟨"PatentPool$Assessor", "outcome", "(II)I"⟩, 2) := ⟨⟨by decide +kernel, by decide +kernel⟩, List.mem_of_getElem? (i := 302) (by decide +kernel), List.mem_of_getElem? (i := 451) (by decide +kernel), List.mem_of_getElem? (i := 452) (by decide +kernel)⟩
theorem lw_p4 : lw_okq (⟨"java/lang/Throwable", "fillInStackTrace", "(I)Ljava/lang/Throwable;"⟩, 6) := ⟨⟨by decide +kernel, by decide +kernel⟩, List.mem_of_getElem? (i := 542) (by decide +kernel), List.mem_of_getElem? (i := 540) (by decide +kernel), List.mem_of_getElem? (i := 541) (by decide +kernel)⟩
theorem lw_p5 : lw_okq (⟨"PatentPool$Tokens", "endOfRun", "(II)I"⟩, 6) := ⟨⟨by decide +kernel, by decide +kernel⟩, List.mem_of_getElem? (i := 246) (by decide +kernel), List.mem_of_getElem? (i := 586) (by decide +kernel), List.mem_of_getElem? (i := 587) (by decide +kernel)⟩
theorem lw_p6 : lw_okq (⟨"PatentPool$Tokens", "numberAtStart", "()I"⟩, 6) := ⟨⟨by decide +kernel, by decide +kernel⟩, List.mem_of_getElem? (i := 246) (by decide +kernel), List.mem_of_getElem? (i := 590) (by decide +kernel), List.mem_of_getElem? (i := 591) (by decide +kernel)⟩
theorem lw_p7 : lw_okq (⟨"PatentPool$Parser", "readStatement", "()I"⟩, 7) := ⟨⟨by decide +kernel, by decide +kernel⟩, List.mem_of_getElem? (i := 34) (by decide +kernel), List.mem_of_getElem? (i := 594) (by decide +kernel), List.mem_of_getElem? (i := 595) (by decide +kernel)⟩
theorem lw_p8 : lw_okq (⟨"PatentPool$Parser", "statementAtToken", "()I"⟩, 7) := ⟨⟨by decide +kernel, by decide +kernel⟩, List.mem_of_getElem? (i := 34) (by decide +kernel), List.mem_of_getElem? (i := 598) (by decide +kernel), List.mem_of_getElem? (i := 599) (by decide +kernel)⟩
theorem lw_p9 : lw_okq (⟨"PatentPool$Parser", "admit", "(I)I"⟩, 7) := ⟨⟨by decide +kernel, by decide +kernel⟩, List.mem_of_getElem? (i := 34) (by decide +kernel), List.mem_of_getElem? (i := 666) (by decide +kernel), List.mem_of_getElem? (i := 667) (by decide +kernel)⟩
theorem lw_p10 : lw_okq (⟨"PatentPool$Parser", "readSum", "(I)I"⟩, 7) := ⟨⟨by decide +kernel, by decide +kernel⟩, List.mem_of_getElem? (i := 34) (by decide +kernel), List.mem_of_getElem? (i := 672) (by decide +kernel), List.mem_of_getElem? (i := 673) (by decide +kernel)⟩
theorem lw_p11 : lw_okq (⟨"PatentPool$Parser", "readTerm", "(I)I"⟩, 7) := ⟨⟨by decide +kernel, by decide +kernel⟩, List.mem_of_getElem? (i := 34) (by decide +kernel), List.mem_of_getElem? (i := 676) (by decide +kernel), List.mem_of_getElem? (i := 677) (by decide +kernel)⟩
theorem lw_p12 : lw_okq (⟨"PatentPool$Parser", "readFactor", "(I)I"⟩, 7) := ⟨⟨by decide +kernel, by decide +kernel⟩, List.mem_of_getElem? (i := 34) (by decide +kernel), List.mem_of_getElem? (i := 680) (by decide +kernel), List.mem_of_getElem? (i := 681) (by decide +kernel)⟩
theorem lw_p13 : lw_okq (⟨"PatentPool$Parser", "readNumbers", "(I)I"⟩, 7) := ⟨⟨by decide +kernel, by decide +kernel⟩, List.mem_of_getElem? (i := 34) (by decide +kernel), List.mem_of_getElem? (i := 692) (by decide +kernel), List.mem_of_getElem? (i := 693) (by decide +kernel)⟩
theorem lw_p14 : lw_okq (⟨"PatentPool$Parser", "readOne", "(II)I"⟩, 7) := ⟨⟨by decide +kernel, by decide +kernel⟩, List.mem_of_getElem? (i := 34) (by decide +kernel), List.mem_of_getElem? (i := 696) (by decide +kernel), List.mem_of_getElem? (i := 697) (by decide +kernel)⟩
theorem lw_p15 : lw_okq (⟨"PatentPool$Parser", "readTwo", "(IIII)I"⟩, 7) := ⟨⟨by decide +kernel, by decide +kernel⟩, List.mem_of_getElem? (i := 34) (by decide +kernel), List.mem_of_getElem? (i := 700) (by decide +kernel), List.mem_of_getElem? (i := 701) (by decide +kernel)⟩
def lw_privs_1 : List (MethodName × Nat) := [(⟨"PatentPool", "appendFour", "(I)V"⟩, 10), (⟨"PatentPool", "weighMembers", "()V"⟩, 10), (⟨"PatentPool$Assessor", "versionsOn", "(II)I"⟩, 2), (⟨"PatentPool$Assessor", "outcome", "(II)I"⟩, 2), (⟨"java/lang/Throwable", "fillInStackTrace", "(I)Ljava/lang/Throwable;"⟩, 6), (⟨"PatentPool$Tokens", "endOfRun", "(II)I"⟩, 6), (⟨"PatentPool$Tokens", "numberAtStart", "()I"⟩, 6), (⟨"PatentPool$Parser", "readStatement", "()I"⟩, 7), (⟨"PatentPool$Parser", "statementAtToken", "()I"⟩, 7), (⟨"PatentPool$Parser", "admit", "(I)I"⟩, 7), (⟨"PatentPool$Parser", "readSum", "(I)I"⟩, 7), (⟨"PatentPool$Parser", "readTerm", "(I)I"⟩, 7), (⟨"PatentPool$Parser", "readFactor", "(I)I"⟩, 7), (⟨"PatentPool$Parser", "readNumbers", "(I)I"⟩, 7), (⟨"PatentPool$Parser", "readOne", "(II)I"⟩, 7), (⟨"PatentPool$Parser", "readTwo", "(IIII)I"⟩, 7)]
theorem lw_r1 : ∀ q ∈ lw_privs_1, lw_okq q := List.forall_mem_cons.mpr ⟨lw_p0, List.forall_mem_cons.mpr ⟨lw_p1, List.forall_mem_cons.mpr ⟨lw_p2, List.forall_mem_cons.mpr ⟨lw_p3, List.forall_mem_cons.mpr ⟨lw_p4, List.forall_mem_cons.mpr ⟨lw_p5, List.forall_mem_cons.mpr ⟨lw_p6, List.forall_mem_cons.mpr ⟨lw_p7, List.forall_mem_cons.mpr ⟨lw_p8, List.forall_mem_cons.mpr ⟨lw_p9, List.forall_mem_cons.mpr ⟨lw_p10, List.forall_mem_cons.mpr ⟨lw_p11, List.forall_mem_cons.mpr ⟨lw_p12, List.forall_mem_cons.mpr ⟨lw_p13, List.forall_mem_cons.mpr ⟨lw_p14, List.forall_mem_cons.mpr ⟨lw_p15, fun _ h => absurd h List.not_mem_nil⟩⟩⟩⟩⟩⟩⟩⟩⟩⟩⟩⟩⟩⟩⟩⟩
theorem lw_p16 : lw_okq (⟨"PatentPool$Parser", "keep", "(I)V"⟩, 7) := ⟨⟨by decide +kernel, by decide +kernel⟩, List.mem_of_getElem? (i := 34) (by decide +kernel), List.mem_of_getElem? (i := 704) (by decide +kernel), List.mem_of_getElem? (i := 705) (by decide +kernel)⟩
theorem lw_p17 : lw_okq (⟨"PatentPool$Parser", "keepRule", "(I)V"⟩, 7) := ⟨⟨by decide +kernel, by decide +kernel⟩, List.mem_of_getElem? (i := 34) (by decide +kernel), List.mem_of_getElem? (i := 724) (by decide +kernel), List.mem_of_getElem? (i := 725) (by decide +kernel)⟩
theorem lw_p18 : lw_okq (⟨"PatentPool", "startOver", "()V"⟩, 10) := ⟨⟨by decide +kernel, by decide +kernel⟩, List.mem_of_getElem? (i := 26) (by decide +kernel), List.mem_of_getElem? (i := 728) (by decide +kernel), List.mem_of_getElem? (i := 729) (by decide +kernel)⟩
theorem lw_p19 : lw_okq (⟨"PatentPool", "checkPatent", "(I)V"⟩, 10) := ⟨⟨by decide +kernel, by decide +kernel⟩, List.mem_of_getElem? (i := 26) (by decide +kernel), List.mem_of_getElem? (i := 767) (by decide +kernel), List.mem_of_getElem? (i := 768) (by decide +kernel)⟩
theorem lw_p20 : lw_okq (⟨"PatentPool", "checkVersion", "(I)V"⟩, 10) := ⟨⟨by decide +kernel, by decide +kernel⟩, List.mem_of_getElem? (i := 26) (by decide +kernel), List.mem_of_getElem? (i := 787) (by decide +kernel), List.mem_of_getElem? (i := 788) (by decide +kernel)⟩
theorem lw_p21 : lw_okq (⟨"PatentPool", "checkMember", "(I)V"⟩, 10) := ⟨⟨by decide +kernel, by decide +kernel⟩, List.mem_of_getElem? (i := 26) (by decide +kernel), List.mem_of_getElem? (i := 827) (by decide +kernel), List.mem_of_getElem? (i := 828) (by decide +kernel)⟩
theorem lw_p22 : lw_okq (⟨"PatentPool$Divider", "closeAbove", "(J)Z"⟩, 5) := ⟨⟨by decide +kernel, by decide +kernel⟩, List.mem_of_getElem? (i := 315) (by decide +kernel), List.mem_of_getElem? (i := 862) (by decide +kernel), List.mem_of_getElem? (i := 863) (by decide +kernel)⟩
theorem lw_p23 : lw_okq (⟨"PatentPool$Divider", "openWeight", "()J"⟩, 5) := ⟨⟨by decide +kernel, by decide +kernel⟩, List.mem_of_getElem? (i := 315) (by decide +kernel), List.mem_of_getElem? (i := 866) (by decide +kernel), List.mem_of_getElem? (i := 867) (by decide +kernel)⟩
theorem lw_p24 : lw_okq (⟨"PatentPool$Divider", "giveQuotas", "()V"⟩, 5) := ⟨⟨by decide +kernel, by decide +kernel⟩, List.mem_of_getElem? (i := 315) (by decide +kernel), List.mem_of_getElem? (i := 870) (by decide +kernel), List.mem_of_getElem? (i := 871) (by decide +kernel)⟩
theorem lw_p25 : lw_okq (⟨"PatentPool$Divider", "giveRemainders", "(J)V"⟩, 5) := ⟨⟨by decide +kernel, by decide +kernel⟩, List.mem_of_getElem? (i := 315) (by decide +kernel), List.mem_of_getElem? (i := 874) (by decide +kernel), List.mem_of_getElem? (i := 875) (by decide +kernel)⟩
theorem lw_p26 : lw_okq (⟨"PatentPool$Divider", "openWithLargestRemainder", "()I"⟩, 5) := ⟨⟨by decide +kernel, by decide +kernel⟩, List.mem_of_getElem? (i := 315) (by decide +kernel), List.mem_of_getElem? (i := 878) (by decide +kernel), List.mem_of_getElem? (i := 879) (by decide +kernel)⟩
theorem lw_p27 : lw_okq (⟨"PatentPool", "checkLicensee", "(I)V"⟩, 10) := ⟨⟨by decide +kernel, by decide +kernel⟩, List.mem_of_getElem? (i := 26) (by decide +kernel), List.mem_of_getElem? (i := 896) (by decide +kernel), List.mem_of_getElem? (i := 897) (by decide +kernel)⟩
theorem lw_p28 : lw_okq (⟨"PatentPool", "royaltyOf", "(III)J"⟩, 10) := ⟨⟨by decide +kernel, by decide +kernel⟩, List.mem_of_getElem? (i := 26) (by decide +kernel), List.mem_of_getElem? (i := 1005) (by decide +kernel), List.mem_of_getElem? (i := 1006) (by decide +kernel)⟩
theorem lw_p29 : lw_okq (⟨"PatentPool", "checkSlot", "(I)V"⟩, 10) := ⟨⟨by decide +kernel, by decide +kernel⟩, List.mem_of_getElem? (i := 26) (by decide +kernel), List.mem_of_getElem? (i := 1071) (by decide +kernel), List.mem_of_getElem? (i := 1072) (by decide +kernel)⟩
theorem lw_p30 : lw_okq (⟨"PatentPoolModel", "clearDraft", "()V"⟩, 31) := ⟨⟨by decide +kernel, by decide +kernel⟩, List.mem_of_getElem? (i := 1084) (by decide +kernel), List.mem_of_getElem? (i := 1090) (by decide +kernel), List.mem_of_getElem? (i := 1091) (by decide +kernel)⟩
theorem lw_p31 : lw_okq (⟨"PatentPoolModel", "emit", "(I)Z"⟩, 31) := ⟨⟨by decide +kernel, by decide +kernel⟩, List.mem_of_getElem? (i := 1084) (by decide +kernel), List.mem_of_getElem? (i := 1094) (by decide +kernel), List.mem_of_getElem? (i := 1095) (by decide +kernel)⟩
def lw_privs_2 : List (MethodName × Nat) := [(⟨"PatentPool$Parser", "keep", "(I)V"⟩, 7), (⟨"PatentPool$Parser", "keepRule", "(I)V"⟩, 7), (⟨"PatentPool", "startOver", "()V"⟩, 10), (⟨"PatentPool", "checkPatent", "(I)V"⟩, 10), (⟨"PatentPool", "checkVersion", "(I)V"⟩, 10), (⟨"PatentPool", "checkMember", "(I)V"⟩, 10), (⟨"PatentPool$Divider", "closeAbove", "(J)Z"⟩, 5), (⟨"PatentPool$Divider", "openWeight", "()J"⟩, 5), (⟨"PatentPool$Divider", "giveQuotas", "()V"⟩, 5), (⟨"PatentPool$Divider", "giveRemainders", "(J)V"⟩, 5), (⟨"PatentPool$Divider", "openWithLargestRemainder", "()I"⟩, 5), (⟨"PatentPool", "checkLicensee", "(I)V"⟩, 10), (⟨"PatentPool", "royaltyOf", "(III)J"⟩, 10), (⟨"PatentPool", "checkSlot", "(I)V"⟩, 10), (⟨"PatentPoolModel", "clearDraft", "()V"⟩, 31), (⟨"PatentPoolModel", "emit", "(I)Z"⟩, 31)]
theorem lw_r2 : ∀ q ∈ lw_privs_2, lw_okq q := List.forall_mem_cons.mpr ⟨lw_p16, List.forall_mem_cons.mpr ⟨lw_p17, List.forall_mem_cons.mpr ⟨lw_p18, List.forall_mem_cons.mpr ⟨lw_p19, List.forall_mem_cons.mpr ⟨lw_p20, List.forall_mem_cons.mpr ⟨lw_p21, List.forall_mem_cons.mpr ⟨lw_p22, List.forall_mem_cons.mpr ⟨lw_p23, List.forall_mem_cons.mpr ⟨lw_p24, List.forall_mem_cons.mpr ⟨lw_p25, List.forall_mem_cons.mpr ⟨lw_p26, List.forall_mem_cons.mpr ⟨lw_p27, List.forall_mem_cons.mpr ⟨lw_p28, List.forall_mem_cons.mpr ⟨lw_p29, List.forall_mem_cons.mpr ⟨lw_p30, List.forall_mem_cons.mpr ⟨lw_p31, fun _ h => absurd h List.not_mem_nil⟩⟩⟩⟩⟩⟩⟩⟩⟩⟩⟩⟩⟩⟩⟩⟩
theorem lw_p32 : lw_okq (⟨"PatentPoolModel", "liftsAll", "()V"⟩, 31) := ⟨⟨by decide +kernel, by decide +kernel⟩, List.mem_of_getElem? (i := 1084) (by decide +kernel), List.mem_of_getElem? (i := 1098) (by decide +kernel), List.mem_of_getElem? (i := 1099) (by decide +kernel)⟩
theorem lw_p33 : lw_okq (⟨"PatentPoolModel", "begins", "()V"⟩, 31) := ⟨⟨by decide +kernel, by decide +kernel⟩, List.mem_of_getElem? (i := 1084) (by decide +kernel), List.mem_of_getElem? (i := 1105) (by decide +kernel), List.mem_of_getElem? (i := 1106) (by decide +kernel)⟩
theorem lw_p34 : lw_okq (⟨"PatentPoolModel", "bytesOf", "(I)V"⟩, 31) := ⟨⟨by decide +kernel, by decide +kernel⟩, List.mem_of_getElem? (i := 1084) (by decide +kernel), List.mem_of_getElem? (i := 1211) (by decide +kernel), List.mem_of_getElem? (i := 1212) (by decide +kernel)⟩
theorem lw_p35 : lw_okq (⟨"PatentPoolModel", "throwsIf", "(ZI)Z"⟩, 31) := ⟨⟨by decide +kernel, by decide +kernel⟩, List.mem_of_getElem? (i := 1084) (by decide +kernel), List.mem_of_getElem? (i := 1222) (by decide +kernel), List.mem_of_getElem? (i := 1223) (by decide +kernel)⟩
theorem lw_p36 : lw_okq (⟨"PatentPoolModel", "advance", "()V"⟩, 31) := ⟨⟨by decide +kernel, by decide +kernel⟩, List.mem_of_getElem? (i := 1084) (by decide +kernel), List.mem_of_getElem? (i := 1226) (by decide +kernel), List.mem_of_getElem? (i := 1227) (by decide +kernel)⟩
theorem lw_p37 : lw_okq (⟨"PatentPoolModel", "byteAt", "(I)I"⟩, 31) := ⟨⟨by decide +kernel, by decide +kernel⟩, List.mem_of_getElem? (i := 1084) (by decide +kernel), List.mem_of_getElem? (i := 1230) (by decide +kernel), List.mem_of_getElem? (i := 1231) (by decide +kernel)⟩
theorem lw_p38 : lw_okq (⟨"PatentPoolModel", "statement", "()Z"⟩, 31) := ⟨⟨by decide +kernel, by decide +kernel⟩, List.mem_of_getElem? (i := 1084) (by decide +kernel), List.mem_of_getElem? (i := 1241) (by decide +kernel), List.mem_of_getElem? (i := 1242) (by decide +kernel)⟩
theorem lw_p39 : lw_okq (⟨"PatentPoolModel", "isWord", "(Ljava/lang/String;)Z"⟩, 31) := ⟨⟨by decide +kernel, by decide +kernel⟩, List.mem_of_getElem? (i := 1084) (by decide +kernel), List.mem_of_getElem? (i := 1246) (by decide +kernel), List.mem_of_getElem? (i := 1247) (by decide +kernel)⟩
theorem lw_p40 : lw_okq (⟨"PatentPoolModel", "oneMore", "(II)Z"⟩, 31) := ⟨⟨by decide +kernel, by decide +kernel⟩, List.mem_of_getElem? (i := 1084) (by decide +kernel), List.mem_of_getElem? (i := 1252) (by decide +kernel), List.mem_of_getElem? (i := 1253) (by decide +kernel)⟩
theorem lw_p41 : lw_okq (⟨"PatentPoolModel", "starts", "(IZ)Z"⟩, 31) := ⟨⟨by decide +kernel, by decide +kernel⟩, List.mem_of_getElem? (i := 1084) (by decide +kernel), List.mem_of_getElem? (i := 1256) (by decide +kernel), List.mem_of_getElem? (i := 1257) (by decide +kernel)⟩
theorem lw_p42 : lw_okq (⟨"PatentPoolModel", "fails", "(I)Z"⟩, 31) := ⟨⟨by decide +kernel, by decide +kernel⟩, List.mem_of_getElem? (i := 1084) (by decide +kernel), List.mem_of_getElem? (i := 1260) (by decide +kernel), List.mem_of_getElem? (i := 1261) (by decide +kernel)⟩
theorem lw_p43 : lw_okq (⟨"PatentPoolModel", "lays", "([IIII)Z"⟩, 31) := ⟨⟨by decide +kernel, by decide +kernel⟩, List.mem_of_getElem? (i := 1084) (by decide +kernel), List.mem_of_getElem? (i := 1264) (by decide +kernel), List.mem_of_getElem? (i := 1265) (by decide +kernel)⟩
theorem lw_p44 : lw_okq (⟨"PatentPoolModel", "takes", "(II)Z"⟩, 31) := ⟨⟨by decide +kernel, by decide +kernel⟩, List.mem_of_getElem? (i := 1084) (by decide +kernel), List.mem_of_getElem? (i := 1268) (by decide +kernel), List.mem_of_getElem? (i := 1269) (by decide +kernel)⟩
theorem lw_p45 : lw_okq (⟨"PatentPoolModel", "counted", "(I)Z"⟩, 31) := ⟨⟨by decide +kernel, by decide +kernel⟩, List.mem_of_getElem? (i := 1084) (by decide +kernel), List.mem_of_getElem? (i := 1272) (by decide +kernel), List.mem_of_getElem? (i := 1273) (by decide +kernel)⟩
theorem lw_p46 : lw_okq (⟨"PatentPoolModel", "setting", "()Z"⟩, 31) := ⟨⟨by decide +kernel, by decide +kernel⟩, List.mem_of_getElem? (i := 1084) (by decide +kernel), List.mem_of_getElem? (i := 1279) (by decide +kernel), List.mem_of_getElem? (i := 1280) (by decide +kernel)⟩
theorem lw_p47 : lw_okq (⟨"PatentPoolModel", "once", "(I)Z"⟩, 31) := ⟨⟨by decide +kernel, by decide +kernel⟩, List.mem_of_getElem? (i := 1084) (by decide +kernel), List.mem_of_getElem? (i := 1284) (by decide +kernel), List.mem_of_getElem? (i := 1285) (by decide +kernel)⟩
def lw_privs_3 : List (MethodName × Nat) := [(⟨"PatentPoolModel", "liftsAll", "()V"⟩, 31), (⟨"PatentPoolModel", "begins", "()V"⟩, 31), (⟨"PatentPoolModel", "bytesOf", "(I)V"⟩, 31), (⟨"PatentPoolModel", "throwsIf", "(ZI)Z"⟩, 31), (⟨"PatentPoolModel", "advance", "()V"⟩, 31), (⟨"PatentPoolModel", "byteAt", "(I)I"⟩, 31), (⟨"PatentPoolModel", "statement", "()Z"⟩, 31), (⟨"PatentPoolModel", "isWord", "(Ljava/lang/String;)Z"⟩, 31), (⟨"PatentPoolModel", "oneMore", "(II)Z"⟩, 31), (⟨"PatentPoolModel", "starts", "(IZ)Z"⟩, 31), (⟨"PatentPoolModel", "fails", "(I)Z"⟩, 31), (⟨"PatentPoolModel", "lays", "([IIII)Z"⟩, 31), (⟨"PatentPoolModel", "takes", "(II)Z"⟩, 31), (⟨"PatentPoolModel", "counted", "(I)Z"⟩, 31), (⟨"PatentPoolModel", "setting", "()Z"⟩, 31), (⟨"PatentPoolModel", "once", "(I)Z"⟩, 31)]
theorem lw_r3 : ∀ q ∈ lw_privs_3, lw_okq q := List.forall_mem_cons.mpr ⟨lw_p32, List.forall_mem_cons.mpr ⟨lw_p33, List.forall_mem_cons.mpr ⟨lw_p34, List.forall_mem_cons.mpr ⟨lw_p35, List.forall_mem_cons.mpr ⟨lw_p36, List.forall_mem_cons.mpr ⟨lw_p37, List.forall_mem_cons.mpr ⟨lw_p38, List.forall_mem_cons.mpr ⟨lw_p39, List.forall_mem_cons.mpr ⟨lw_p40, List.forall_mem_cons.mpr ⟨lw_p41, List.forall_mem_cons.mpr ⟨lw_p42, List.forall_mem_cons.mpr ⟨lw_p43, List.forall_mem_cons.mpr ⟨lw_p44, List.forall_mem_cons.mpr ⟨lw_p45, List.forall_mem_cons.mpr ⟨lw_p46, List.forall_mem_cons.mpr ⟨lw_p47, fun _ h => absurd h List.not_mem_nil⟩⟩⟩⟩⟩⟩⟩⟩⟩⟩⟩⟩⟩⟩⟩⟩
theorem lw_p48 : lw_okq (⟨"PatentPoolModel", "sets", "(III)Z"⟩, 31) := ⟨⟨by decide +kernel, by decide +kernel⟩, List.mem_of_getElem? (i := 1084) (by decide +kernel), List.mem_of_getElem? (i := 1291) (by decide +kernel), List.mem_of_getElem? (i := 1292) (by decide +kernel)⟩
theorem lw_p49 : lw_okq (⟨"PatentPoolModel", "sum", "()Z"⟩, 31) := ⟨⟨by decide +kernel, by decide +kernel⟩, List.mem_of_getElem? (i := 1084) (by decide +kernel), List.mem_of_getElem? (i := 1302) (by decide +kernel), List.mem_of_getElem? (i := 1303) (by decide +kernel)⟩
theorem lw_p50 : lw_okq (⟨"PatentPoolModel", "term", "()Z"⟩, 31) := ⟨⟨by decide +kernel, by decide +kernel⟩, List.mem_of_getElem? (i := 1084) (by decide +kernel), List.mem_of_getElem? (i := 1306) (by decide +kernel), List.mem_of_getElem? (i := 1307) (by decide +kernel)⟩
theorem lw_p51 : lw_okq (⟨"PatentPoolModel", "factor", "()Z"⟩, 31) := ⟨⟨by decide +kernel, by decide +kernel⟩, List.mem_of_getElem? (i := 1084) (by decide +kernel), List.mem_of_getElem? (i := 1310) (by decide +kernel), List.mem_of_getElem? (i := 1311) (by decide +kernel)⟩
theorem lw_p52 : lw_okq (⟨"PatentPoolModel", "isSignHere", "(I)Z"⟩, 31) := ⟨⟨by decide +kernel, by decide +kernel⟩, List.mem_of_getElem? (i := 1084) (by decide +kernel), List.mem_of_getElem? (i := 1314) (by decide +kernel), List.mem_of_getElem? (i := 1315) (by decide +kernel)⟩
theorem lw_p53 : lw_okq (⟨"PatentPoolModel", "closes", "(I)Z"⟩, 31) := ⟨⟨by decide +kernel, by decide +kernel⟩, List.mem_of_getElem? (i := 1084) (by decide +kernel), List.mem_of_getElem? (i := 1318) (by decide +kernel), List.mem_of_getElem? (i := 1319) (by decide +kernel)⟩
theorem lw_p54 : lw_okq (⟨"PatentPoolModel", "noPair", "(II)Z"⟩, 31) := ⟨⟨by decide +kernel, by decide +kernel⟩, List.mem_of_getElem? (i := 1084) (by decide +kernel), List.mem_of_getElem? (i := 1346) (by decide +kernel), List.mem_of_getElem? (i := 1347) (by decide +kernel)⟩
theorem lw_p55 : lw_okq (⟨"PatentPoolModel", "no", "(JJ)Z"⟩, 31) := ⟨⟨by decide +kernel, by decide +kernel⟩, List.mem_of_getElem? (i := 1084) (by decide +kernel), List.mem_of_getElem? (i := 1350) (by decide +kernel), List.mem_of_getElem? (i := 1351) (by decide +kernel)⟩
theorem lw_p56 : lw_okq (⟨"PatentPoolModel", "decided", "(II)I"⟩, 31) := ⟨⟨by decide +kernel, by decide +kernel⟩, List.mem_of_getElem? (i := 1084) (by decide +kernel), List.mem_of_getElem? (i := 1354) (by decide +kernel), List.mem_of_getElem? (i := 1355) (by decide +kernel)⟩
theorem lw_p57 : lw_okq (⟨"PatentPoolModel", "isPositive", "(II)Z"⟩, 31) := ⟨⟨by decide +kernel, by decide +kernel⟩, List.mem_of_getElem? (i := 1084) (by decide +kernel), List.mem_of_getElem? (i := 1364) (by decide +kernel), List.mem_of_getElem? (i := 1365) (by decide +kernel)⟩
theorem lw_p58 : lw_okq (⟨"PatentPoolModel", "isCounted", "(IIJ)Z"⟩, 31) := ⟨⟨by decide +kernel, by decide +kernel⟩, List.mem_of_getElem? (i := 1084) (by decide +kernel), List.mem_of_getElem? (i := 1380) (by decide +kernel), List.mem_of_getElem? (i := 1381) (by decide +kernel)⟩
theorem lw_p59 : lw_okq (⟨"PatentPoolModel", "isReleased", "(IJ)Z"⟩, 31) := ⟨⟨by decide +kernel, by decide +kernel⟩, List.mem_of_getElem? (i := 1084) (by decide +kernel), List.mem_of_getElem? (i := 1384) (by decide +kernel), List.mem_of_getElem? (i := 1385) (by decide +kernel)⟩
theorem lw_p60 : lw_okq (⟨"PatentPoolModel", "isInForce", "(IJ)Z"⟩, 31) := ⟨⟨by decide +kernel, by decide +kernel⟩, List.mem_of_getElem? (i := 1084) (by decide +kernel), List.mem_of_getElem? (i := 1388) (by decide +kernel), List.mem_of_getElem? (i := 1389) (by decide +kernel)⟩
theorem lw_p61 : lw_okq (⟨"PatentPoolModel", "noMember", "(I)Z"⟩, 31) := ⟨⟨by decide +kernel, by decide +kernel⟩, List.mem_of_getElem? (i := 1084) (by decide +kernel), List.mem_of_getElem? (i := 1396) (by decide +kernel), List.mem_of_getElem? (i := 1397) (by decide +kernel)⟩
theorem lw_p62 : lw_okq (⟨"PatentPoolModel", "weightOn", "(IJ)I"⟩, 31) := ⟨⟨by decide +kernel, by decide +kernel⟩, List.mem_of_getElem? (i := 1084) (by decide +kernel), List.mem_of_getElem? (i := 1404) (by decide +kernel), List.mem_of_getElem? (i := 1405) (by decide +kernel)⟩
theorem lw_p63 : lw_okq (⟨"PatentPoolModel", "worth", "()I"⟩, 31) := ⟨⟨by decide +kernel, by decide +kernel⟩, List.mem_of_getElem? (i := 1084) (by decide +kernel), List.mem_of_getElem? (i := 1408) (by decide +kernel), List.mem_of_getElem? (i := 1409) (by decide +kernel)⟩
def lw_privs_4 : List (MethodName × Nat) := [(⟨"PatentPoolModel", "sets", "(III)Z"⟩, 31), (⟨"PatentPoolModel", "sum", "()Z"⟩, 31), (⟨"PatentPoolModel", "term", "()Z"⟩, 31), (⟨"PatentPoolModel", "factor", "()Z"⟩, 31), (⟨"PatentPoolModel", "isSignHere", "(I)Z"⟩, 31), (⟨"PatentPoolModel", "closes", "(I)Z"⟩, 31), (⟨"PatentPoolModel", "noPair", "(II)Z"⟩, 31), (⟨"PatentPoolModel", "no", "(JJ)Z"⟩, 31), (⟨"PatentPoolModel", "decided", "(II)I"⟩, 31), (⟨"PatentPoolModel", "isPositive", "(II)Z"⟩, 31), (⟨"PatentPoolModel", "isCounted", "(IIJ)Z"⟩, 31), (⟨"PatentPoolModel", "isReleased", "(IJ)Z"⟩, 31), (⟨"PatentPoolModel", "isInForce", "(IJ)Z"⟩, 31), (⟨"PatentPoolModel", "noMember", "(I)Z"⟩, 31), (⟨"PatentPoolModel", "weightOn", "(IJ)I"⟩, 31), (⟨"PatentPoolModel", "worth", "()I"⟩, 31)]
theorem lw_r4 : ∀ q ∈ lw_privs_4, lw_okq q := List.forall_mem_cons.mpr ⟨lw_p48, List.forall_mem_cons.mpr ⟨lw_p49, List.forall_mem_cons.mpr ⟨lw_p50, List.forall_mem_cons.mpr ⟨lw_p51, List.forall_mem_cons.mpr ⟨lw_p52, List.forall_mem_cons.mpr ⟨lw_p53, List.forall_mem_cons.mpr ⟨lw_p54, List.forall_mem_cons.mpr ⟨lw_p55, List.forall_mem_cons.mpr ⟨lw_p56, List.forall_mem_cons.mpr ⟨lw_p57, List.forall_mem_cons.mpr ⟨lw_p58, List.forall_mem_cons.mpr ⟨lw_p59, List.forall_mem_cons.mpr ⟨lw_p60, List.forall_mem_cons.mpr ⟨lw_p61, List.forall_mem_cons.mpr ⟨lw_p62, List.forall_mem_cons.mpr ⟨lw_p63, fun _ h => absurd h List.not_mem_nil⟩⟩⟩⟩⟩⟩⟩⟩⟩⟩⟩⟩⟩⟩⟩⟩
theorem lw_p64 : lw_okq (⟨"PatentPoolModel", "shares", "(J)J"⟩, 31) := ⟨⟨by decide +kernel, by decide +kernel⟩, List.mem_of_getElem? (i := 1084) (by decide +kernel), List.mem_of_getElem? (i := 1426) (by decide +kernel), List.mem_of_getElem? (i := 1427) (by decide +kernel)⟩
theorem lw_p65 : lw_okq (⟨"PatentPoolModel", "weighs", "()V"⟩, 31) := ⟨⟨by decide +kernel, by decide +kernel⟩, List.mem_of_getElem? (i := 1084) (by decide +kernel), List.mem_of_getElem? (i := 1430) (by decide +kernel), List.mem_of_getElem? (i := 1431) (by decide +kernel)⟩
theorem lw_p66 : lw_okq (⟨"PatentPoolModel", "openOnes", "()J"⟩, 31) := ⟨⟨by decide +kernel, by decide +kernel⟩, List.mem_of_getElem? (i := 1084) (by decide +kernel), List.mem_of_getElem? (i := 1435) (by decide +kernel), List.mem_of_getElem? (i := 1436) (by decide +kernel)⟩
theorem lw_p67 : lw_okq (⟨"PatentPoolModel", "rounds", "(JJJ)J"⟩, 31) := ⟨⟨by decide +kernel, by decide +kernel⟩, List.mem_of_getElem? (i := 1084) (by decide +kernel), List.mem_of_getElem? (i := 1439) (by decide +kernel), List.mem_of_getElem? (i := 1440) (by decide +kernel)⟩
theorem lw_p68 : lw_okq (⟨"PatentPoolModel", "openAt", "(IJJ)I"⟩, 31) := ⟨⟨by decide +kernel, by decide +kernel⟩, List.mem_of_getElem? (i := 1084) (by decide +kernel), List.mem_of_getElem? (i := 1443) (by decide +kernel), List.mem_of_getElem? (i := 1444) (by decide +kernel)⟩
theorem lw_p69 : lw_okq (⟨"PatentPoolModel", "isMajority", "(I)Z"⟩, 31) := ⟨⟨by decide +kernel, by decide +kernel⟩, List.mem_of_getElem? (i := 1084) (by decide +kernel), List.mem_of_getElem? (i := 1452) (by decide +kernel), List.mem_of_getElem? (i := 1453) (by decide +kernel)⟩
theorem lw_p70 : lw_okq (⟨"PatentPoolModel", "heaviness", "(I)J"⟩, 31) := ⟨⟨by decide +kernel, by decide +kernel⟩, List.mem_of_getElem? (i := 1084) (by decide +kernel), List.mem_of_getElem? (i := 1457) (by decide +kernel), List.mem_of_getElem? (i := 1458) (by decide +kernel)⟩
theorem lw_p71 : lw_okq (⟨"PatentPoolModel", "noLicensee", "(I)Z"⟩, 31) := ⟨⟨by decide +kernel, by decide +kernel⟩, List.mem_of_getElem? (i := 1084) (by decide +kernel), List.mem_of_getElem? (i := 1469) (by decide +kernel), List.mem_of_getElem? (i := 1470) (by decide +kernel)⟩
theorem lw_p72 : lw_okq (⟨"PatentPoolModel", "noReport", "(II)Z"⟩, 31) := ⟨⟨by decide +kernel, by decide +kernel⟩, List.mem_of_getElem? (i := 1084) (by decide +kernel), List.mem_of_getElem? (i := 1477) (by decide +kernel), List.mem_of_getElem? (i := 1478) (by decide +kernel)⟩
theorem lw_p73 : lw_okq (⟨"PatentPoolModel", "keeps", "()V"⟩, 31) := ⟨⟨by decide +kernel, by decide +kernel⟩, List.mem_of_getElem? (i := 1084) (by decide +kernel), List.mem_of_getElem? (i := 1502) (by decide +kernel), List.mem_of_getElem? (i := 1503) (by decide +kernel)⟩
theorem lw_p74 : lw_okq (⟨"PatentPoolModel", "royalty", "(IIJ)J"⟩, 31) := ⟨⟨by decide +kernel, by decide +kernel⟩, List.mem_of_getElem? (i := 1084) (by decide +kernel), List.mem_of_getElem? (i := 1532) (by decide +kernel), List.mem_of_getElem? (i := 1533) (by decide +kernel)⟩
theorem lw_p75 : lw_okq (⟨"PatentPoolModel", "noSlot", "(I)Z"⟩, 31) := ⟨⟨by decide +kernel, by decide +kernel⟩, List.mem_of_getElem? (i := 1084) (by decide +kernel), List.mem_of_getElem? (i := 1565) (by decide +kernel), List.mem_of_getElem? (i := 1566) (by decide +kernel)⟩
def lw_privs_5 : List (MethodName × Nat) := [(⟨"PatentPoolModel", "shares", "(J)J"⟩, 31), (⟨"PatentPoolModel", "weighs", "()V"⟩, 31), (⟨"PatentPoolModel", "openOnes", "()J"⟩, 31), (⟨"PatentPoolModel", "rounds", "(JJJ)J"⟩, 31), (⟨"PatentPoolModel", "openAt", "(IJJ)I"⟩, 31), (⟨"PatentPoolModel", "isMajority", "(I)Z"⟩, 31), (⟨"PatentPoolModel", "heaviness", "(I)J"⟩, 31), (⟨"PatentPoolModel", "noLicensee", "(I)Z"⟩, 31), (⟨"PatentPoolModel", "noReport", "(II)Z"⟩, 31), (⟨"PatentPoolModel", "keeps", "()V"⟩, 31), (⟨"PatentPoolModel", "royalty", "(IIJ)J"⟩, 31), (⟨"PatentPoolModel", "noSlot", "(I)Z"⟩, 31)]
theorem lw_r5 : ∀ q ∈ lw_privs_5, lw_okq q := List.forall_mem_cons.mpr ⟨lw_p64, List.forall_mem_cons.mpr ⟨lw_p65, List.forall_mem_cons.mpr ⟨lw_p66, List.forall_mem_cons.mpr ⟨lw_p67, List.forall_mem_cons.mpr ⟨lw_p68, List.forall_mem_cons.mpr ⟨lw_p69, List.forall_mem_cons.mpr ⟨lw_p70, List.forall_mem_cons.mpr ⟨lw_p71, List.forall_mem_cons.mpr ⟨lw_p72, List.forall_mem_cons.mpr ⟨lw_p73, List.forall_mem_cons.mpr ⟨lw_p74, List.forall_mem_cons.mpr ⟨lw_p75, fun _ h => absurd h List.not_mem_nil⟩⟩⟩⟩⟩⟩⟩⟩⟩⟩⟩⟩
def lw_privs : List (MethodName × Nat) := lw_privs_1 ++ (lw_privs_2 ++ (lw_privs_3 ++ (lw_privs_4 ++ (lw_privs_5))))
def lw_tbl : List Cond := k2_sels lw_privs ++ tables_1
theorem lw_privs_ok : ∀ q ∈ lw_privs, lw_okq q := by
  show ∀ q ∈ lw_privs_1 ++ (lw_privs_2 ++ (lw_privs_3 ++ (lw_privs_4 ++ (lw_privs_5)))), lw_okq q
  exact List.forall_mem_append.mpr ⟨lw_r1, List.forall_mem_append.mpr ⟨lw_r2, List.forall_mem_append.mpr ⟨lw_r3, List.forall_mem_append.mpr ⟨lw_r4, lw_r5⟩⟩⟩⟩
-- ===== end of PART A; then your names; then what follows =====
end
section
/-! ===== BEGIN printed: names, fields, word lists, decode rows ===== -/
def RX0 : String := "PatentPool$Assessor"
def TX0 : u_T := fun k => match k with
  | 0 => ("PatentPool$Assessor", "terms", "LPatentPool$Terms;", true)
  | _ => ("PatentPool$Assessor", "ledger", "LPatentPool$Ledger;", true)
def tyX0 : Nat → FieldType := fun k => match k with
  | 0 => .object "PatentPool$Terms"
  | _ => .object "PatentPool$Ledger"
abbrev wsX00 : List Cond := u_ws RX0 TX0 2
theorem nmX0 : ∀ a, a < 2 → ∀ b, b < 2 → a ≠ b → (TX0 a).2.1 ≠ (TX0 b).2.1 := by decide +kernel
theorem tyX0_ok : ∀ k, k < 2 → parseFieldDescriptor (TX0 k).2.2.1 = some (tyX0 k) := by decide +kernel
abbrev cX0_init : ByteArray := prog_2_method_1_code
def yX0_init : MethodName := ⟨RX0, "<init>", "(LPatentPool$Terms;LPatentPool$Ledger;)V"⟩
abbrev cX0_decide : ByteArray := prog_2_method_2_code
def yX0_decide : MethodName := ⟨RX0, "decide", "(II)I"⟩
abbrev cX0_outcome : ByteArray := prog_2_method_3_code
def yX0_outcome : MethodName := ⟨RX0, "outcome", "(II)I"⟩
abbrev cX0_missingVotes : ByteArray := prog_2_method_4_code
def yX0_missingVotes : MethodName := ⟨RX0, "missingVotes", "(II)I"⟩
abbrev cX0_releasedOn : ByteArray := prog_2_method_5_code
def yX0_releasedOn : MethodName := ⟨RX0, "releasedOn", "(II)Z"⟩
abbrev cX0_inForceOn : ByteArray := prog_2_method_6_code
def yX0_inForceOn : MethodName := ⟨RX0, "inForceOn", "(II)Z"⟩
abbrev cX0_countsOn : ByteArray := prog_2_method_7_code
def yX0_countsOn : MethodName := ⟨RX0, "countsOn", "(III)Z"⟩
abbrev cX0_weightOn : ByteArray := prog_2_method_8_code
def yX0_weightOn : MethodName := ⟨RX0, "weightOn", "(II)I"⟩
abbrev cX0_versionsOn : ByteArray := prog_2_method_9_code
def yX0_versionsOn : MethodName := ⟨RX0, "versionsOn", "(II)I"⟩
def RX1 : String := "PatentPool$Divider"
def TX1 : u_T := fun k => match k with
  | 0 => ("PatentPool$Divider", "weights", "[I", true)
  | 1 => ("PatentPool$Divider", "shares", "[J", true)
  | 2 => ("PatentPool$Divider", "rest", "J", false)
  | 3 => ("PatentPool$Divider", "open", "[Z", true)
  | _ => ("PatentPool$Divider", "remainders", "[J", true)
def tyX1 : Nat → FieldType := fun k => match k with
  | 0 => .array .int
  | 1 => .array .long
  | 2 => .long
  | 3 => .array .boolean
  | _ => .array .long
abbrev wsX10 : List Cond := u_ws RX1 TX1 5
theorem nmX1 : ∀ a, a < 5 → ∀ b, b < 5 → a ≠ b → (TX1 a).2.1 ≠ (TX1 b).2.1 := by decide +kernel
theorem tyX1_ok : ∀ k, k < 5 → parseFieldDescriptor (TX1 k).2.2.1 = some (tyX1 k) := by decide +kernel
abbrev cX1_init : ByteArray := prog_3_method_1_code
def yX1_init : MethodName := ⟨RX1, "<init>", "()V"⟩
abbrev cX1_isMajority : ByteArray := prog_3_method_2_code
def yX1_isMajority : MethodName := ⟨RX1, "isMajority", "(I)Z"⟩
abbrev cX1_divide : ByteArray := prog_3_method_3_code
def yX1_divide : MethodName := ⟨RX1, "divide", "(JI)V"⟩
abbrev cX1_openWeight : ByteArray := prog_3_method_4_code
def yX1_openWeight : MethodName := ⟨RX1, "openWeight", "()J"⟩
abbrev cX1_closeAbove : ByteArray := prog_3_method_5_code
def yX1_closeAbove : MethodName := ⟨RX1, "closeAbove", "(J)Z"⟩
abbrev cX1_giveQuotas : ByteArray := prog_3_method_6_code
def yX1_giveQuotas : MethodName := ⟨RX1, "giveQuotas", "()V"⟩
abbrev cX1_giveRemainders : ByteArray := prog_3_method_7_code
def yX1_giveRemainders : MethodName := ⟨RX1, "giveRemainders", "(J)V"⟩
abbrev cX1_openWithLargestRemainder : ByteArray := prog_3_method_8_code
def yX1_openWithLargestRemainder : MethodName := ⟨RX1, "openWithLargestRemainder", "()I"⟩
def RX2 : String := "PatentPool$Formula"
def TX2 : u_T := fun k => match k with
  | 0 => ("PatentPool$Formula", "codes", "[I", true)
  | 1 => ("PatentPool$Formula", "length", "I", false)
  | _ => ("PatentPool$Formula", "stack", "[I", true)
def tyX2 : Nat → FieldType := fun k => match k with
  | 0 => .array .int
  | 1 => .int
  | _ => .array .int
abbrev wsX20 : List Cond := u_ws RX2 TX2 3
theorem nmX2 : ∀ a, a < 3 → ∀ b, b < 3 → a ≠ b → (TX2 a).2.1 ≠ (TX2 b).2.1 := by decide +kernel
theorem tyX2_ok : ∀ k, k < 3 → parseFieldDescriptor (TX2 k).2.2.1 = some (tyX2 k) := by decide +kernel
abbrev cX2_init : ByteArray := prog_4_method_1_code
def yX2_init : MethodName := ⟨RX2, "<init>", "()V"⟩
abbrev cX2_clear : ByteArray := prog_4_method_2_code
def yX2_clear : MethodName := ⟨RX2, "clear", "()V"⟩
abbrev cX2_add : ByteArray := prog_4_method_3_code
def yX2_add : MethodName := ⟨RX2, "add", "(I)V"⟩
abbrev cX2_copyFrom : ByteArray := prog_4_method_4_code
def yX2_copyFrom : MethodName := ⟨RX2, "copyFrom", "(LPatentPool$Formula;)V"⟩
abbrev cX2_evaluate : ByteArray := prog_4_method_5_code
def yX2_evaluate : MethodName := ⟨RX2, "evaluate", "(III)I"⟩
abbrev cX2_operand : ByteArray := prog_4_method_6_code
def yX2_operand : MethodName := ⟨RX2, "operand", "(IIII)I"⟩
abbrev cX2_combined : ByteArray := prog_4_method_7_code
def yX2_combined : MethodName := ⟨RX2, "combined", "(III)I"⟩
def RX3 : String := "PatentPool$History"
def TX3 : u_T := fun k => match k with
  | 0 => ("PatentPool$History", "ring", "[LPatentPool$Ledger;", true)
  | 1 => ("PatentPool$History", "newest", "I", false)
  | _ => ("PatentPool$History", "number", "I", false)
def tyX3 : Nat → FieldType := fun k => match k with
  | 0 => .array (.object "PatentPool$Ledger")
  | 1 => .int
  | _ => .int
abbrev wsX30 : List Cond := u_ws RX3 TX3 3
theorem nmX3 : ∀ a, a < 3 → ∀ b, b < 3 → a ≠ b → (TX3 a).2.1 ≠ (TX3 b).2.1 := by decide +kernel
theorem tyX3_ok : ∀ k, k < 3 → parseFieldDescriptor (TX3 k).2.2.1 = some (tyX3 k) := by decide +kernel
abbrev cX3_init : ByteArray := prog_5_method_1_code
def yX3_init : MethodName := ⟨RX3, "<init>", "()V"⟩
abbrev cX3_clear : ByteArray := prog_5_method_2_code
def yX3_clear : MethodName := ⟨RX3, "clear", "()V"⟩
abbrev cX3_remember : ByteArray := prog_5_method_3_code
def yX3_remember : MethodName := ⟨RX3, "remember", "(LPatentPool$Ledger;)V"⟩
abbrev cX3_takeBack : ByteArray := prog_5_method_4_code
def yX3_takeBack : MethodName := ⟨RX3, "takeBack", "(LPatentPool$Ledger;)I"⟩
def RX4 : String := "PatentPool$Ledger"
def TX4 : u_T := fun k => match k with
  | 0 => ("PatentPool$Ledger", "day", "I", false)
  | 1 => ("PatentPool$Ledger", "period", "I", false)
  | 2 => ("PatentPool$Ledger", "members", "I", false)
  | 3 => ("PatentPool$Ledger", "joinDay", "[I", true)
  | 4 => ("PatentPool$Ledger", "patents", "I", false)
  | 5 => ("PatentPool$Ledger", "owner", "[I", true)
  | 6 => ("PatentPool$Ledger", "expiry", "[I", true)
  | 7 => ("PatentPool$Ledger", "yesVotes", "[I", true)
  | 8 => ("PatentPool$Ledger", "noVotes", "[I", true)
  | 9 => ("PatentPool$Ledger", "units", "[I", true)
  | 10 => ("PatentPool$Ledger", "debts", "[J", true)
  | 11 => ("PatentPool$Ledger", "credited", "I", false)
  | 12 => ("PatentPool$Ledger", "accounts", "[J", true)
  | 13 => ("PatentPool$Ledger", "latestShares", "[J", true)
  | 14 => ("PatentPool$Ledger", "received", "J", false)
  | 15 => ("PatentPool$Ledger", "costs", "J", false)
  | 16 => ("PatentPool$Ledger", "reserve", "J", false)
  | 17 => ("PatentPool$Ledger", "paid", "J", false)
  | _ => ("PatentPool$Ledger", "paidOut", "J", false)
def tyX4 : Nat → FieldType := fun k => match k with
  | 0 => .int
  | 1 => .int
  | 2 => .int
  | 3 => .array .int
  | 4 => .int
  | 5 => .array .int
  | 6 => .array .int
  | 7 => .array .int
  | 8 => .array .int
  | 9 => .array .int
  | 10 => .array .long
  | 11 => .int
  | 12 => .array .long
  | 13 => .array .long
  | 14 => .long
  | 15 => .long
  | 16 => .long
  | 17 => .long
  | _ => .long
abbrev wsX40 : List Cond := u_ws RX4 TX4 19
theorem nmX4 : ∀ a, a < 19 → ∀ b, b < 19 → a ≠ b → (TX4 a).2.1 ≠ (TX4 b).2.1 := by decide +kernel
theorem tyX4_ok : ∀ k, k < 19 → parseFieldDescriptor (TX4 k).2.2.1 = some (tyX4 k) := by decide +kernel
abbrev cX4_init : ByteArray := prog_6_method_1_code
def yX4_init : MethodName := ⟨RX4, "<init>", "()V"⟩
abbrev cX4_copyFrom : ByteArray := prog_6_method_2_code
def yX4_copyFrom : MethodName := ⟨RX4, "copyFrom", "(LPatentPool$Ledger;)V"⟩
abbrev cX4_addMember : ByteArray := prog_6_method_3_code
def yX4_addMember : MethodName := ⟨RX4, "addMember", "(I)I"⟩
abbrev cX4_addPatent : ByteArray := prog_6_method_4_code
def yX4_addPatent : MethodName := ⟨RX4, "addPatent", "(II)I"⟩
abbrev cX4_bookShares : ByteArray := prog_6_method_5_code
def yX4_bookShares : MethodName := ⟨RX4, "bookShares", "([J)V"⟩
abbrev cX4_beginPeriod : ByteArray := prog_6_method_6_code
def yX4_beginPeriod : MethodName := ⟨RX4, "beginPeriod", "()V"⟩
def RX5 : String := "PatentPool$Parser"
def TX5 : u_T := fun k => match k with
  | 0 => ("PatentPool$Parser", "terms", "LPatentPool$Terms;", true)
  | 1 => ("PatentPool$Parser", "ledger", "LPatentPool$Ledger;", true)
  | 2 => ("PatentPool$Parser", "blank", "LPatentPool$Ledger;", true)
  | 3 => ("PatentPool$Parser", "tokens", "LPatentPool$Tokens;", true)
  | 4 => ("PatentPool$Parser", "seen", "I", false)
  | 5 => ("PatentPool$Parser", "first", "I", false)
  | _ => ("PatentPool$Parser", "second", "I", false)
def tyX5 : Nat → FieldType := fun k => match k with
  | 0 => .object "PatentPool$Terms"
  | 1 => .object "PatentPool$Ledger"
  | 2 => .object "PatentPool$Ledger"
  | 3 => .object "PatentPool$Tokens"
  | 4 => .int
  | 5 => .int
  | _ => .int
abbrev wsX50 : List Cond := u_ws RX5 TX5 7
theorem nmX5 : ∀ a, a < 7 → ∀ b, b < 7 → a ≠ b → (TX5 a).2.1 ≠ (TX5 b).2.1 := by decide +kernel
theorem tyX5_ok : ∀ k, k < 7 → parseFieldDescriptor (TX5 k).2.2.1 = some (tyX5 k) := by decide +kernel
abbrev cX5_init : ByteArray := prog_7_method_1_code
def yX5_init : MethodName := ⟨RX5, "<init>", "([B)V"⟩
abbrev cX5_position : ByteArray := prog_7_method_2_code
def yX5_position : MethodName := ⟨RX5, "position", "()I"⟩
abbrev cX5_readPool : ByteArray := prog_7_method_3_code
def yX5_readPool : MethodName := ⟨RX5, "readPool", "(I)I"⟩
abbrev cX5_readStatement : ByteArray := prog_7_method_4_code
def yX5_readStatement : MethodName := ⟨RX5, "readStatement", "()I"⟩
abbrev cX5_statementAtToken : ByteArray := prog_7_method_5_code
def yX5_statementAtToken : MethodName := ⟨RX5, "statementAtToken", "()I"⟩
abbrev cX5_admit : ByteArray := prog_7_method_6_code
def yX5_admit : MethodName := ⟨RX5, "admit", "(I)I"⟩
abbrev cX5_readNumbers : ByteArray := prog_7_method_7_code
def yX5_readNumbers : MethodName := ⟨RX5, "readNumbers", "(I)I"⟩
abbrev cX5_readTwo : ByteArray := prog_7_method_8_code
def yX5_readTwo : MethodName := ⟨RX5, "readTwo", "(IIII)I"⟩
abbrev cX5_readOne : ByteArray := prog_7_method_9_code
def yX5_readOne : MethodName := ⟨RX5, "readOne", "(II)I"⟩
abbrev cX5_keep : ByteArray := prog_7_method_10_code
def yX5_keep : MethodName := ⟨RX5, "keep", "(I)V"⟩
abbrev cX5_keepRule : ByteArray := prog_7_method_11_code
def yX5_keepRule : MethodName := ⟨RX5, "keepRule", "(I)V"⟩
abbrev cX5_readSum : ByteArray := prog_7_method_12_code
def yX5_readSum : MethodName := ⟨RX5, "readSum", "(I)I"⟩
abbrev cX5_readTerm : ByteArray := prog_7_method_13_code
def yX5_readTerm : MethodName := ⟨RX5, "readTerm", "(I)I"⟩
abbrev cX5_readFactor : ByteArray := prog_7_method_14_code
def yX5_readFactor : MethodName := ⟨RX5, "readFactor", "(I)I"⟩
def RX6 : String := "PatentPool$Terms"
def TX6 : u_T := fun k => match k with
  | 0 => ("PatentPool$Terms", "versions", "I", false)
  | 1 => ("PatentPool$Terms", "releaseDay", "[I", true)
  | 2 => ("PatentPool$Terms", "price", "[I", true)
  | 3 => ("PatentPool$Terms", "licensees", "I", false)
  | 4 => ("PatentPool$Terms", "discount", "[I", true)
  | 5 => ("PatentPool$Terms", "quorumVotes", "I", false)
  | 6 => ("PatentPool$Terms", "quorumPercent", "I", false)
  | 7 => ("PatentPool$Terms", "cap", "I", false)
  | 8 => ("PatentPool$Terms", "costs", "I", false)
  | 9 => ("PatentPool$Terms", "reserve", "I", false)
  | 10 => ("PatentPool$Terms", "lateDays", "I", false)
  | 11 => ("PatentPool$Terms", "latePercent", "I", false)
  | 12 => ("PatentPool$Terms", "creditAmount", "I", false)
  | 13 => ("PatentPool$Terms", "creditPercent", "I", false)
  | 14 => ("PatentPool$Terms", "penalty", "I", false)
  | _ => ("PatentPool$Terms", "formula", "LPatentPool$Formula;", true)
def tyX6 : Nat → FieldType := fun k => match k with
  | 0 => .int
  | 1 => .array .int
  | 2 => .array .int
  | 3 => .int
  | 4 => .array .int
  | 5 => .int
  | 6 => .int
  | 7 => .int
  | 8 => .int
  | 9 => .int
  | 10 => .int
  | 11 => .int
  | 12 => .int
  | 13 => .int
  | 14 => .int
  | _ => .object "PatentPool$Formula"
abbrev wsX60 : List Cond := u_ws RX6 TX6 16
theorem nmX6 : ∀ a, a < 16 → ∀ b, b < 16 → a ≠ b → (TX6 a).2.1 ≠ (TX6 b).2.1 := by decide +kernel
theorem tyX6_ok : ∀ k, k < 16 → parseFieldDescriptor (TX6 k).2.2.1 = some (tyX6 k) := by decide +kernel
abbrev cX6_init : ByteArray := prog_8_method_1_code
def yX6_init : MethodName := ⟨RX6, "<init>", "()V"⟩
abbrev cX6_reset : ByteArray := prog_8_method_2_code
def yX6_reset : MethodName := ⟨RX6, "reset", "()V"⟩
abbrev cX6_copyFrom : ByteArray := prog_8_method_3_code
def yX6_copyFrom : MethodName := ⟨RX6, "copyFrom", "(LPatentPool$Terms;)V"⟩
abbrev cX6_addVersion : ByteArray := prog_8_method_4_code
def yX6_addVersion : MethodName := ⟨RX6, "addVersion", "(II)V"⟩
abbrev cX6_addLicensee : ByteArray := prog_8_method_5_code
def yX6_addLicensee : MethodName := ⟨RX6, "addLicensee", "(I)V"⟩
def RX7 : String := "PatentPool$Tokens"
def TX7 : u_T := fun k => match k with
  | 0 => ("PatentPool$Tokens", "text", "[B", true)
  | 1 => ("PatentPool$Tokens", "length", "I", false)
  | 2 => ("PatentPool$Tokens", "end", "I", false)
  | 3 => ("PatentPool$Tokens", "kind", "I", false)
  | 4 => ("PatentPool$Tokens", "start", "I", false)
  | _ => ("PatentPool$Tokens", "value", "I", false)
def tyX7 : Nat → FieldType := fun k => match k with
  | 0 => .array .byte
  | 1 => .int
  | 2 => .int
  | 3 => .int
  | 4 => .int
  | _ => .int
abbrev wsX70 : List Cond := u_ws RX7 TX7 6
theorem nmX7 : ∀ a, a < 6 → ∀ b, b < 6 → a ≠ b → (TX7 a).2.1 ≠ (TX7 b).2.1 := by decide +kernel
theorem tyX7_ok : ∀ k, k < 6 → parseFieldDescriptor (TX7 k).2.2.1 = some (tyX7 k) := by decide +kernel
abbrev cX7_init : ByteArray := prog_9_method_1_code
def yX7_init : MethodName := ⟨RX7, "<init>", "([B)V"⟩
abbrev cX7_begin : ByteArray := prog_9_method_2_code
def yX7_begin : MethodName := ⟨RX7, "begin", "(I)V"⟩
abbrev cX7_next : ByteArray := prog_9_method_3_code
def yX7_next : MethodName := ⟨RX7, "next", "()V"⟩
abbrev cX7_endOfRun : ByteArray := prog_9_method_4_code
def yX7_endOfRun : MethodName := ⟨RX7, "endOfRun", "(II)I"⟩
abbrev cX7_numberAtStart : ByteArray := prog_9_method_5_code
def yX7_numberAtStart : MethodName := ⟨RX7, "numberAtStart", "()I"⟩
abbrev cX7_isWord : ByteArray := prog_9_method_6_code
def yX7_isWord : MethodName := ⟨RX7, "isWord", "(Ljava/lang/String;)Z"⟩
abbrev cX7_isSign : ByteArray := prog_9_method_7_code
def yX7_isSign : MethodName := ⟨RX7, "isSign", "(C)Z"⟩
def RX8 : String := "PatentPool"
def TX8 : u_T := fun k => match k with
  | 0 => ("PatentPool", "text", "[B", true)
  | 1 => ("PatentPool", "textLength", "I", false)
  | 2 => ("PatentPool", "errorPosition", "I", false)
  | 3 => ("PatentPool", "parser", "LPatentPool$Parser;", true)
  | 4 => ("PatentPool", "terms", "LPatentPool$Terms;", true)
  | 5 => ("PatentPool", "ledger", "LPatentPool$Ledger;", true)
  | 6 => ("PatentPool", "assessor", "LPatentPool$Assessor;", true)
  | 7 => ("PatentPool", "divider", "LPatentPool$Divider;", true)
  | 8 => ("PatentPool", "history", "LPatentPool$History;", true)
  | _ => ("PatentPool", "slots", "[LPatentPool$Ledger;", true)
def tyX8 : Nat → FieldType := fun k => match k with
  | 0 => .array .byte
  | 1 => .int
  | 2 => .int
  | 3 => .object "PatentPool$Parser"
  | 4 => .object "PatentPool$Terms"
  | 5 => .object "PatentPool$Ledger"
  | 6 => .object "PatentPool$Assessor"
  | 7 => .object "PatentPool$Divider"
  | 8 => .object "PatentPool$History"
  | _ => .array (.object "PatentPool$Ledger")
abbrev wsX80 : List Cond := u_ws RX8 TX8 10
theorem nmX8 : ∀ a, a < 10 → ∀ b, b < 10 → a ≠ b → (TX8 a).2.1 ≠ (TX8 b).2.1 := by decide +kernel
theorem tyX8_ok : ∀ k, k < 10 → parseFieldDescriptor (TX8 k).2.2.1 = some (tyX8 k) := by decide +kernel
abbrev cX8_init : ByteArray := prog_1_method_1_code
def yX8_init : MethodName := ⟨RX8, "<init>", "()V"⟩
abbrev cX8_append : ByteArray := prog_1_method_2_code
def yX8_append : MethodName := ⟨RX8, "append", "(IIIII)I"⟩
abbrev cX8_appendFour : ByteArray := prog_1_method_3_code
def yX8_appendFour : MethodName := ⟨RX8, "appendFour", "(I)V"⟩
abbrev cX8_parse : ByteArray := prog_1_method_4_code
def yX8_parse : MethodName := ⟨RX8, "parse", "(I)I"⟩
abbrev cX8_startOver : ByteArray := prog_1_method_5_code
def yX8_startOver : MethodName := ⟨RX8, "startOver", "()V"⟩
abbrev cX8_errorPosition : ByteArray := prog_1_method_6_code
def yX8_errorPosition : MethodName := ⟨RX8, "errorPosition", "()I"⟩
abbrev cX8_size : ByteArray := prog_1_method_7_code
def yX8_size : MethodName := ⟨RX8, "size", "(I)I"⟩
abbrev cX8_today : ByteArray := prog_1_method_8_code
def yX8_today : MethodName := ⟨RX8, "today", "()I"⟩
abbrev cX8_period : ByteArray := prog_1_method_9_code
def yX8_period : MethodName := ⟨RX8, "period", "()I"⟩
abbrev cX8_decision : ByteArray := prog_1_method_10_code
def yX8_decision : MethodName := ⟨RX8, "decision", "(II)I"⟩
abbrev cX8_voters : ByteArray := prog_1_method_11_code
def yX8_voters : MethodName := ⟨RX8, "voters", "(IIZ)I"⟩
abbrev cX8_votesNeeded : ByteArray := prog_1_method_12_code
def yX8_votesNeeded : MethodName := ⟨RX8, "votesNeeded", "(II)I"⟩
abbrev cX8_counts : ByteArray := prog_1_method_13_code
def yX8_counts : MethodName := ⟨RX8, "counts", "(II)Z"⟩
abbrev cX8_firstToExpire : ByteArray := prog_1_method_14_code
def yX8_firstToExpire : MethodName := ⟨RX8, "firstToExpire", "(I)I"⟩
abbrev cX8_weight : ByteArray := prog_1_method_15_code
def yX8_weight : MethodName := ⟨RX8, "weight", "(I)I"⟩
abbrev cX8_weightAfter : ByteArray := prog_1_method_16_code
def yX8_weightAfter : MethodName := ⟨RX8, "weightAfter", "(II)I"⟩
abbrev cX8_shareOf : ByteArray := prog_1_method_17_code
def yX8_shareOf : MethodName := ⟨RX8, "shareOf", "(II)I"⟩
abbrev cX8_smallestMajority : ByteArray := prog_1_method_18_code
def yX8_smallestMajority : MethodName := ⟨RX8, "smallestMajority", "()I"⟩
abbrev cX8_power : ByteArray := prog_1_method_19_code
def yX8_power : MethodName := ⟨RX8, "power", "(I)I"⟩
abbrev cX8_weighMembers : ByteArray := prog_1_method_20_code
def yX8_weighMembers : MethodName := ⟨RX8, "weighMembers", "()V"⟩
abbrev cX8_owed : ByteArray := prog_1_method_21_code
def yX8_owed : MethodName := ⟨RX8, "owed", "(I)J"⟩
abbrev cX8_reported : ByteArray := prog_1_method_22_code
def yX8_reported : MethodName := ⟨RX8, "reported", "(II)I"⟩
abbrev cX8_account : ByteArray := prog_1_method_23_code
def yX8_account : MethodName := ⟨RX8, "account", "(I)J"⟩
abbrev cX8_latestShare : ByteArray := prog_1_method_24_code
def yX8_latestShare : MethodName := ⟨RX8, "latestShare", "(I)J"⟩
abbrev cX8_total : ByteArray := prog_1_method_25_code
def yX8_total : MethodName := ⟨RX8, "total", "(I)J"⟩
abbrev cX8_largestDebtor : ByteArray := prog_1_method_26_code
def yX8_largestDebtor : MethodName := ⟨RX8, "largestDebtor", "()I"⟩
abbrev cX8_advance : ByteArray := prog_1_method_27_code
def yX8_advance : MethodName := ⟨RX8, "advance", "(I)I"⟩
abbrev cX8_join : ByteArray := prog_1_method_28_code
def yX8_join : MethodName := ⟨RX8, "join", "()I"⟩
abbrev cX8_declare : ByteArray := prog_1_method_29_code
def yX8_declare : MethodName := ⟨RX8, "declare", "(II)I"⟩
abbrev cX8_vote : ByteArray := prog_1_method_30_code
def yX8_vote : MethodName := ⟨RX8, "vote", "(IIIZ)I"⟩
abbrev cX8_reopen : ByteArray := prog_1_method_31_code
def yX8_reopen : MethodName := ⟨RX8, "reopen", "(II)I"⟩
abbrev cX8_report : ByteArray := prog_1_method_32_code
def yX8_report : MethodName := ⟨RX8, "report", "(III)I"⟩
abbrev cX8_grantBack : ByteArray := prog_1_method_33_code
def yX8_grantBack : MethodName := ⟨RX8, "grantBack", "(I)I"⟩
abbrev cX8_pay : ByteArray := prog_1_method_34_code
def yX8_pay : MethodName := ⟨RX8, "pay", "(II)J"⟩
abbrev cX8_audit : ByteArray := prog_1_method_35_code
def yX8_audit : MethodName := ⟨RX8, "audit", "(III)J"⟩
abbrev cX8_royaltyOf : ByteArray := prog_1_method_36_code
def yX8_royaltyOf : MethodName := ⟨RX8, "royaltyOf", "(III)J"⟩
abbrev cX8_close : ByteArray := prog_1_method_37_code
def yX8_close : MethodName := ⟨RX8, "close", "()J"⟩
abbrev cX8_payOut : ByteArray := prog_1_method_38_code
def yX8_payOut : MethodName := ⟨RX8, "payOut", "(I)J"⟩
abbrev cX8_undo : ByteArray := prog_1_method_39_code
def yX8_undo : MethodName := ⟨RX8, "undo", "()I"⟩
abbrev cX8_saveSnapshot : ByteArray := prog_1_method_40_code
def yX8_saveSnapshot : MethodName := ⟨RX8, "saveSnapshot", "(I)Z"⟩
abbrev cX8_restoreSnapshot : ByteArray := prog_1_method_41_code
def yX8_restoreSnapshot : MethodName := ⟨RX8, "restoreSnapshot", "(I)I"⟩
abbrev cX8_checkMember : ByteArray := prog_1_method_42_code
def yX8_checkMember : MethodName := ⟨RX8, "checkMember", "(I)V"⟩
abbrev cX8_checkVersion : ByteArray := prog_1_method_43_code
def yX8_checkVersion : MethodName := ⟨RX8, "checkVersion", "(I)V"⟩
abbrev cX8_checkPatent : ByteArray := prog_1_method_44_code
def yX8_checkPatent : MethodName := ⟨RX8, "checkPatent", "(I)V"⟩
abbrev cX8_checkLicensee : ByteArray := prog_1_method_45_code
def yX8_checkLicensee : MethodName := ⟨RX8, "checkLicensee", "(I)V"⟩
abbrev cX8_checkSlot : ByteArray := prog_1_method_46_code
def yX8_checkSlot : MethodName := ⟨RX8, "checkSlot", "(I)V"⟩
abbrev cX8_pairOf : ByteArray := prog_1_method_47_code
def yX8_pairOf : MethodName := ⟨RX8, "pairOf", "(II)I"⟩
def RX9 : String := "PatentPoolModel"
def TX9 : u_T := fun k => match k with
  | 0 => ("PatentPoolModel", "thrown", "I", false)
  | 1 => ("PatentPoolModel", "now", "[J", true)
  | 2 => ("PatentPoolModel", "told", "[I", true)
  | 3 => ("PatentPoolModel", "members", "[I", true)
  | 4 => ("PatentPoolModel", "versions", "[I", true)
  | 5 => ("PatentPoolModel", "patents", "[I", true)
  | 6 => ("PatentPoolModel", "discounts", "[I", true)
  | 7 => ("PatentPoolModel", "codes", "[I", true)
  | 8 => ("PatentPoolModel", "code", "[I", true)
  | 9 => ("PatentPoolModel", "text", "[B", true)
  | 10 => ("PatentPoolModel", "length", "I", false)
  | 11 => ("PatentPoolModel", "textSize", "I", false)
  | 12 => ("PatentPoolModel", "start", "I", false)
  | 13 => ("PatentPoolModel", "next", "I", false)
  | 14 => ("PatentPoolModel", "token", "I", false)
  | 15 => ("PatentPoolModel", "value", "I", false)
  | 16 => ("PatentPoolModel", "error", "I", false)
  | 17 => ("PatentPoolModel", "errorAt", "I", false)
  | 18 => ("PatentPoolModel", "number", "I", false)
  | 19 => ("PatentPoolModel", "seen", "I", false)
  | 20 => ("PatentPoolModel", "opened", "I", false)
  | 21 => ("PatentPoolModel", "pile", "[I", true)
  | 22 => ("PatentPoolModel", "facts", "[I", true)
  | 23 => ("PatentPoolModel", "weights", "[I", true)
  | 24 => ("PatentPoolModel", "shares", "[J", true)
  | 25 => ("PatentPoolModel", "quotas", "[J", true)
  | 26 => ("PatentPoolModel", "isOpen", "[Z", true)
  | 27 => ("PatentPoolModel", "undos", "I", false)
  | 28 => ("PatentPoolModel", "undo", "[J", true)
  | 29 => ("PatentPoolModel", "slots", "[J", true)
  | _ => ("PatentPoolModel", "isSaved", "[Z", true)
def tyX9 : Nat → FieldType := fun k => match k with
  | 0 => .int
  | 1 => .array .long
  | 2 => .array .int
  | 3 => .array .int
  | 4 => .array .int
  | 5 => .array .int
  | 6 => .array .int
  | 7 => .array .int
  | 8 => .array .int
  | 9 => .array .byte
  | 10 => .int
  | 11 => .int
  | 12 => .int
  | 13 => .int
  | 14 => .int
  | 15 => .int
  | 16 => .int
  | 17 => .int
  | 18 => .int
  | 19 => .int
  | 20 => .int
  | 21 => .array .int
  | 22 => .array .int
  | 23 => .array .int
  | 24 => .array .long
  | 25 => .array .long
  | 26 => .array .boolean
  | 27 => .int
  | 28 => .array .long
  | 29 => .array .long
  | _ => .array .boolean
abbrev wsX90 : List Cond := u_ws RX9 TX9 31
theorem nmX9 : ∀ a, a < 31 → ∀ b, b < 31 → a ≠ b → (TX9 a).2.1 ≠ (TX9 b).2.1 := by decide +kernel
theorem tyX9_ok : ∀ k, k < 31 → parseFieldDescriptor (TX9 k).2.2.1 = some (tyX9 k) := by decide +kernel
abbrev cX9_init : ByteArray := prog_11_method_1_code
def yX9_init : MethodName := ⟨RX9, "<init>", "()V"⟩
abbrev cX9_thrown : ByteArray := prog_11_method_2_code
def yX9_thrown : MethodName := ⟨RX9, "thrown", "()I"⟩
abbrev cX9_within : ByteArray := prog_11_method_3_code
def yX9_within : MethodName := ⟨RX9, "within", "(JJJ)Z"⟩
abbrev cX9_has : ByteArray := prog_11_method_4_code
def yX9_has : MethodName := ⟨RX9, "has", "(II)Z"⟩
abbrev cX9_bits : ByteArray := prog_11_method_5_code
def yX9_bits : MethodName := ⟨RX9, "bits", "(J)I"⟩
abbrev cX9_throwsIf : ByteArray := prog_11_method_6_code
def yX9_throwsIf : MethodName := ⟨RX9, "throwsIf", "(ZI)Z"⟩
abbrev cX9_lifts : ByteArray := prog_11_method_7_code
def yX9_lifts : MethodName := ⟨RX9, "lifts", "([I)V"⟩
abbrev cX9_liftsAll : ByteArray := prog_11_method_8_code
def yX9_liftsAll : MethodName := ⟨RX9, "liftsAll", "()V"⟩
abbrev cX9_clearDraft : ByteArray := prog_11_method_9_code
def yX9_clearDraft : MethodName := ⟨RX9, "clearDraft", "()V"⟩
abbrev cX9_append : ByteArray := prog_11_method_10_code
def yX9_append : MethodName := ⟨RX9, "append", "(IIIII)I"⟩
abbrev cX9_bytesOf : ByteArray := prog_11_method_11_code
def yX9_bytesOf : MethodName := ⟨RX9, "bytesOf", "(I)V"⟩
abbrev cX9_byteAt : ByteArray := prog_11_method_12_code
def yX9_byteAt : MethodName := ⟨RX9, "byteAt", "(I)I"⟩
abbrev cX9_isSign : ByteArray := prog_11_method_13_code
def yX9_isSign : MethodName := ⟨RX9, "isSign", "(I)Z"⟩
abbrev cX9_advance : ByteArray := prog_11_method_14_code
def yX9_advance : MethodName := ⟨RX9, "advance", "()V"⟩
abbrev cX9_isWord : ByteArray := prog_11_method_15_code
def yX9_isWord : MethodName := ⟨RX9, "isWord", "(Ljava/lang/String;)Z"⟩
abbrev cX9_isSignHere : ByteArray := prog_11_method_16_code
def yX9_isSignHere : MethodName := ⟨RX9, "isSignHere", "(I)Z"⟩
abbrev cX9_fails : ByteArray := prog_11_method_17_code
def yX9_fails : MethodName := ⟨RX9, "fails", "(I)Z"⟩
abbrev cX9_takes : ByteArray := prog_11_method_18_code
def yX9_takes : MethodName := ⟨RX9, "takes", "(II)Z"⟩
abbrev cX9_starts : ByteArray := prog_11_method_19_code
def yX9_starts : MethodName := ⟨RX9, "starts", "(IZ)Z"⟩
abbrev cX9_once : ByteArray := prog_11_method_20_code
def yX9_once : MethodName := ⟨RX9, "once", "(I)Z"⟩
abbrev cX9_sets : ByteArray := prog_11_method_21_code
def yX9_sets : MethodName := ⟨RX9, "sets", "(III)Z"⟩
abbrev cX9_closes : ByteArray := prog_11_method_22_code
def yX9_closes : MethodName := ⟨RX9, "closes", "(I)Z"⟩
abbrev cX9_lays : ByteArray := prog_11_method_23_code
def yX9_lays : MethodName := ⟨RX9, "lays", "([IIII)Z"⟩
abbrev cX9_oneMore : ByteArray := prog_11_method_24_code
def yX9_oneMore : MethodName := ⟨RX9, "oneMore", "(II)Z"⟩
abbrev cX9_counted : ByteArray := prog_11_method_25_code
def yX9_counted : MethodName := ⟨RX9, "counted", "(I)Z"⟩
abbrev cX9_statement : ByteArray := prog_11_method_26_code
def yX9_statement : MethodName := ⟨RX9, "statement", "()Z"⟩
abbrev cX9_setting : ByteArray := prog_11_method_27_code
def yX9_setting : MethodName := ⟨RX9, "setting", "()Z"⟩
abbrev cX9_emit : ByteArray := prog_11_method_28_code
def yX9_emit : MethodName := ⟨RX9, "emit", "(I)Z"⟩
abbrev cX9_sum : ByteArray := prog_11_method_29_code
def yX9_sum : MethodName := ⟨RX9, "sum", "()Z"⟩
abbrev cX9_term : ByteArray := prog_11_method_30_code
def yX9_term : MethodName := ⟨RX9, "term", "()Z"⟩
abbrev cX9_factor : ByteArray := prog_11_method_31_code
def yX9_factor : MethodName := ⟨RX9, "factor", "()Z"⟩
abbrev cX9_worth : ByteArray := prog_11_method_32_code
def yX9_worth : MethodName := ⟨RX9, "worth", "()I"⟩
abbrev cX9_joined : ByteArray := prog_11_method_33_code
def yX9_joined : MethodName := ⟨RX9, "joined", "(III)I"⟩
abbrev cX9_parse : ByteArray := prog_11_method_34_code
def yX9_parse : MethodName := ⟨RX9, "parse", "(I)I"⟩
abbrev cX9_errorPosition : ByteArray := prog_11_method_35_code
def yX9_errorPosition : MethodName := ⟨RX9, "errorPosition", "()I"⟩
abbrev cX9_begins : ByteArray := prog_11_method_36_code
def yX9_begins : MethodName := ⟨RX9, "begins", "()V"⟩
abbrev cX9_size : ByteArray := prog_11_method_37_code
def yX9_size : MethodName := ⟨RX9, "size", "(I)I"⟩
abbrev cX9_today : ByteArray := prog_11_method_38_code
def yX9_today : MethodName := ⟨RX9, "today", "()I"⟩
abbrev cX9_period : ByteArray := prog_11_method_39_code
def yX9_period : MethodName := ⟨RX9, "period", "()I"⟩
abbrev cX9_no : ByteArray := prog_11_method_40_code
def yX9_no : MethodName := ⟨RX9, "no", "(JJ)Z"⟩
abbrev cX9_noMember : ByteArray := prog_11_method_41_code
def yX9_noMember : MethodName := ⟨RX9, "noMember", "(I)Z"⟩
abbrev cX9_noPair : ByteArray := prog_11_method_42_code
def yX9_noPair : MethodName := ⟨RX9, "noPair", "(II)Z"⟩
abbrev cX9_pair : ByteArray := prog_11_method_43_code
def yX9_pair : MethodName := ⟨RX9, "pair", "(II)I"⟩
abbrev cX9_isPositive : ByteArray := prog_11_method_44_code
def yX9_isPositive : MethodName := ⟨RX9, "isPositive", "(II)Z"⟩
abbrev cX9_decided : ByteArray := prog_11_method_45_code
def yX9_decided : MethodName := ⟨RX9, "decided", "(II)I"⟩
abbrev cX9_decision : ByteArray := prog_11_method_46_code
def yX9_decision : MethodName := ⟨RX9, "decision", "(II)I"⟩
abbrev cX9_voters : ByteArray := prog_11_method_47_code
def yX9_voters : MethodName := ⟨RX9, "voters", "(IIZ)I"⟩
abbrev cX9_votesNeeded : ByteArray := prog_11_method_48_code
def yX9_votesNeeded : MethodName := ⟨RX9, "votesNeeded", "(II)I"⟩
abbrev cX9_isReleased : ByteArray := prog_11_method_49_code
def yX9_isReleased : MethodName := ⟨RX9, "isReleased", "(IJ)Z"⟩
abbrev cX9_isInForce : ByteArray := prog_11_method_50_code
def yX9_isInForce : MethodName := ⟨RX9, "isInForce", "(IJ)Z"⟩
abbrev cX9_isCounted : ByteArray := prog_11_method_51_code
def yX9_isCounted : MethodName := ⟨RX9, "isCounted", "(IIJ)Z"⟩
abbrev cX9_counts : ByteArray := prog_11_method_52_code
def yX9_counts : MethodName := ⟨RX9, "counts", "(II)Z"⟩
abbrev cX9_firstToExpire : ByteArray := prog_11_method_53_code
def yX9_firstToExpire : MethodName := ⟨RX9, "firstToExpire", "(I)I"⟩
abbrev cX9_weightOn : ByteArray := prog_11_method_54_code
def yX9_weightOn : MethodName := ⟨RX9, "weightOn", "(IJ)I"⟩
abbrev cX9_weight : ByteArray := prog_11_method_55_code
def yX9_weight : MethodName := ⟨RX9, "weight", "(I)I"⟩
abbrev cX9_weightAfter : ByteArray := prog_11_method_56_code
def yX9_weightAfter : MethodName := ⟨RX9, "weightAfter", "(II)I"⟩
abbrev cX9_weighs : ByteArray := prog_11_method_57_code
def yX9_weighs : MethodName := ⟨RX9, "weighs", "()V"⟩
abbrev cX9_shares : ByteArray := prog_11_method_58_code
def yX9_shares : MethodName := ⟨RX9, "shares", "(J)J"⟩
abbrev cX9_openOnes : ByteArray := prog_11_method_59_code
def yX9_openOnes : MethodName := ⟨RX9, "openOnes", "()J"⟩
abbrev cX9_rounds : ByteArray := prog_11_method_60_code
def yX9_rounds : MethodName := ⟨RX9, "rounds", "(JJJ)J"⟩
abbrev cX9_openAt : ByteArray := prog_11_method_61_code
def yX9_openAt : MethodName := ⟨RX9, "openAt", "(IJJ)I"⟩
abbrev cX9_shareOf : ByteArray := prog_11_method_62_code
def yX9_shareOf : MethodName := ⟨RX9, "shareOf", "(II)I"⟩
abbrev cX9_heaviness : ByteArray := prog_11_method_63_code
def yX9_heaviness : MethodName := ⟨RX9, "heaviness", "(I)J"⟩
abbrev cX9_isMajority : ByteArray := prog_11_method_64_code
def yX9_isMajority : MethodName := ⟨RX9, "isMajority", "(I)Z"⟩
abbrev cX9_smallestMajority : ByteArray := prog_11_method_65_code
def yX9_smallestMajority : MethodName := ⟨RX9, "smallestMajority", "()I"⟩
abbrev cX9_power : ByteArray := prog_11_method_66_code
def yX9_power : MethodName := ⟨RX9, "power", "(I)I"⟩
abbrev cX9_noLicensee : ByteArray := prog_11_method_67_code
def yX9_noLicensee : MethodName := ⟨RX9, "noLicensee", "(I)Z"⟩
abbrev cX9_noReport : ByteArray := prog_11_method_68_code
def yX9_noReport : MethodName := ⟨RX9, "noReport", "(II)Z"⟩
abbrev cX9_owed : ByteArray := prog_11_method_69_code
def yX9_owed : MethodName := ⟨RX9, "owed", "(I)J"⟩
abbrev cX9_reported : ByteArray := prog_11_method_70_code
def yX9_reported : MethodName := ⟨RX9, "reported", "(II)I"⟩
abbrev cX9_account : ByteArray := prog_11_method_71_code
def yX9_account : MethodName := ⟨RX9, "account", "(I)J"⟩
abbrev cX9_latestShare : ByteArray := prog_11_method_72_code
def yX9_latestShare : MethodName := ⟨RX9, "latestShare", "(I)J"⟩
abbrev cX9_total : ByteArray := prog_11_method_73_code
def yX9_total : MethodName := ⟨RX9, "total", "(I)J"⟩
abbrev cX9_largestDebtor : ByteArray := prog_11_method_74_code
def yX9_largestDebtor : MethodName := ⟨RX9, "largestDebtor", "()I"⟩
abbrev cX9_advance_ : ByteArray := prog_11_method_75_code
def yX9_advance_ : MethodName := ⟨RX9, "advance", "(I)I"⟩
abbrev cX9_join : ByteArray := prog_11_method_76_code
def yX9_join : MethodName := ⟨RX9, "join", "()I"⟩
abbrev cX9_declare : ByteArray := prog_11_method_77_code
def yX9_declare : MethodName := ⟨RX9, "declare", "(II)I"⟩
abbrev cX9_vote : ByteArray := prog_11_method_78_code
def yX9_vote : MethodName := ⟨RX9, "vote", "(IIIZ)I"⟩
abbrev cX9_reopen : ByteArray := prog_11_method_79_code
def yX9_reopen : MethodName := ⟨RX9, "reopen", "(II)I"⟩
abbrev cX9_royalty : ByteArray := prog_11_method_80_code
def yX9_royalty : MethodName := ⟨RX9, "royalty", "(IIJ)J"⟩
abbrev cX9_report : ByteArray := prog_11_method_81_code
def yX9_report : MethodName := ⟨RX9, "report", "(III)I"⟩
abbrev cX9_grantBack : ByteArray := prog_11_method_82_code
def yX9_grantBack : MethodName := ⟨RX9, "grantBack", "(I)I"⟩
abbrev cX9_pay : ByteArray := prog_11_method_83_code
def yX9_pay : MethodName := ⟨RX9, "pay", "(II)J"⟩
abbrev cX9_audit : ByteArray := prog_11_method_84_code
def yX9_audit : MethodName := ⟨RX9, "audit", "(III)J"⟩
abbrev cX9_close : ByteArray := prog_11_method_85_code
def yX9_close : MethodName := ⟨RX9, "close", "()J"⟩
abbrev cX9_payOut : ByteArray := prog_11_method_86_code
def yX9_payOut : MethodName := ⟨RX9, "payOut", "(I)J"⟩
abbrev cX9_copies : ByteArray := prog_11_method_87_code
def yX9_copies : MethodName := ⟨RX9, "copies", "([JI[JII)V"⟩
abbrev cX9_keeps : ByteArray := prog_11_method_88_code
def yX9_keeps : MethodName := ⟨RX9, "keeps", "()V"⟩
abbrev cX9_undo : ByteArray := prog_11_method_89_code
def yX9_undo : MethodName := ⟨RX9, "undo", "()I"⟩
abbrev cX9_noSlot : ByteArray := prog_11_method_90_code
def yX9_noSlot : MethodName := ⟨RX9, "noSlot", "(I)Z"⟩
abbrev cX9_saveSnapshot : ByteArray := prog_11_method_91_code
def yX9_saveSnapshot : MethodName := ⟨RX9, "saveSnapshot", "(I)Z"⟩
abbrev cX9_restoreSnapshot : ByteArray := prog_11_method_92_code
def yX9_restoreSnapshot : MethodName := ⟨RX9, "restoreSnapshot", "(I)I"⟩
def RJx145de : String := "java/io/Serializable"
def TJx145de : u_T := fun k => match k with
  | _ => ("", "", "", false)
def tyJx145de : Nat → FieldType := fun k => match k with
  | _ => .int
abbrev wsJx145de0 : List Cond := u_ws RJx145de TJx145de 0
theorem nmJx145de : ∀ a, a < 0 → ∀ b, b < 0 → a ≠ b → (TJx145de a).2.1 ≠ (TJx145de b).2.1 := by decide +kernel
theorem tyJx145de_ok : ∀ k, k < 0 → parseFieldDescriptor (TJx145de k).2.2.1 = some (tyJx145de k) := by decide +kernel
def RJx9f9b0 : String := "java/lang/CharSequence"
def TJx9f9b0 : u_T := fun k => match k with
  | _ => ("", "", "", false)
def tyJx9f9b0 : Nat → FieldType := fun k => match k with
  | _ => .int
abbrev wsJx9f9b00 : List Cond := u_ws RJx9f9b0 TJx9f9b0 0
theorem nmJx9f9b0 : ∀ a, a < 0 → ∀ b, b < 0 → a ≠ b → (TJx9f9b0 a).2.1 ≠ (TJx9f9b0 b).2.1 := by decide +kernel
theorem tyJx9f9b0_ok : ∀ k, k < 0 → parseFieldDescriptor (TJx9f9b0 k).2.2.1 = some (tyJx9f9b0 k) := by decide +kernel
def RJxb160c : String := "java/lang/Comparable"
def TJxb160c : u_T := fun k => match k with
  | _ => ("", "", "", false)
def tyJxb160c : Nat → FieldType := fun k => match k with
  | _ => .int
abbrev wsJxb160c0 : List Cond := u_ws RJxb160c TJxb160c 0
theorem nmJxb160c : ∀ a, a < 0 → ∀ b, b < 0 → a ≠ b → (TJxb160c a).2.1 ≠ (TJxb160c b).2.1 := by decide +kernel
theorem tyJxb160c_ok : ∀ k, k < 0 → parseFieldDescriptor (TJxb160c k).2.2.1 = some (tyJxb160c k) := by decide +kernel
def RJ6 : String := "java/lang/Integer"
def TJ6 : u_T := fun k => match k with
  | _ => ("", "", "", false)
def tyJ6 : Nat → FieldType := fun k => match k with
  | _ => .int
abbrev wsJ60 : List Cond := u_ws RJ6 TJ6 0
theorem nmJ6 : ∀ a, a < 0 → ∀ b, b < 0 → a ≠ b → (TJ6 a).2.1 ≠ (TJ6 b).2.1 := by decide +kernel
theorem tyJ6_ok : ∀ k, k < 0 → parseFieldDescriptor (TJ6 k).2.2.1 = some (tyJ6 k) := by decide +kernel
abbrev cJ6_bitCount_0f7a4 : ByteArray := prog_16_method_49_code
def yJ6_bitCount_0f7a4 : MethodName := ⟨RJ6, "bitCount", "(I)I"⟩
def RJ9 : String := "java/lang/Math"
def TJ9 : u_T := fun k => match k with
  | _ => ("", "", "", false)
def tyJ9 : Nat → FieldType := fun k => match k with
  | _ => .int
abbrev wsJ90 : List Cond := u_ws RJ9 TJ9 0
theorem nmJ9 : ∀ a, a < 0 → ∀ b, b < 0 → a ≠ b → (TJ9 a).2.1 ≠ (TJ9 b).2.1 := by decide +kernel
theorem tyJ9_ok : ∀ k, k < 0 → parseFieldDescriptor (TJ9 k).2.2.1 = some (tyJ9 k) := by decide +kernel
abbrev cJ9_max_7cf53 : ByteArray := prog_17_method_65_code
def yJ9_max_7cf53 : MethodName := ⟨RJ9, "max", "(II)I"⟩
abbrev cJ9_min_7cf53 : ByteArray := prog_17_method_69_code
def yJ9_min_7cf53 : MethodName := ⟨RJ9, "min", "(II)I"⟩
abbrev cJ9_min_f86c9 : ByteArray := prog_17_method_70_code
def yJ9_min_f86c9 : MethodName := ⟨RJ9, "min", "(JJ)J"⟩
def RJ0 : String := "java/lang/String"
def TJ0 : u_T := fun k => match k with
  | _ => ("", "", "", false)
def tyJ0 : Nat → FieldType := fun k => match k with
  | _ => .int
abbrev wsJ00 : List Cond := u_ws RJ0 TJ0 0
theorem nmJ0 : ∀ a, a < 0 → ∀ b, b < 0 → a ≠ b → (TJ0 a).2.1 ≠ (TJ0 b).2.1 := by decide +kernel
theorem tyJ0_ok : ∀ k, k < 0 → parseFieldDescriptor (TJ0 k).2.2.1 = some (tyJ0 k) := by decide +kernel
abbrev cJ0_length_8abf5 : ByteArray := prog_19_method_54_code
def yJ0_length_8abf5 : MethodName := ⟨RJ0, "length", "()I"⟩
abbrev cJ0_charAt_5068e : ByteArray := prog_19_method_56_code
def yJ0_charAt_5068e : MethodName := ⟨RJ0, "charAt", "(I)C"⟩
abbrev cJ0_coder_7d493 : ByteArray := prog_19_method_152_code
def yJ0_coder_7d493 : MethodName := ⟨RJ0, "coder", "()B"⟩
abbrev cJ0_isLatin1_aae02 : ByteArray := prog_19_method_154_code
def yJ0_isLatin1_aae02 : MethodName := ⟨RJ0, "isLatin1", "()Z"⟩
abbrev cJ0_checkIndex_df160 : ByteArray := prog_19_method_155_code
def yJ0_checkIndex_df160 : MethodName := ⟨RJ0, "checkIndex", "(II)V"⟩
def RJ1 : String := "java/lang/StringLatin1"
def TJ1 : u_T := fun k => match k with
  | _ => ("", "", "", false)
def tyJ1 : Nat → FieldType := fun k => match k with
  | _ => .int
abbrev wsJ10 : List Cond := u_ws RJ1 TJ1 0
theorem nmJ1 : ∀ a, a < 0 → ∀ b, b < 0 → a ≠ b → (TJ1 a).2.1 ≠ (TJ1 b).2.1 := by decide +kernel
theorem tyJ1_ok : ∀ k, k < 0 → parseFieldDescriptor (TJ1 k).2.2.1 = some (tyJ1 k) := by decide +kernel
abbrev cJ1_charAt_3b067 : ByteArray := prog_20_method_2_code
def yJ1_charAt_3b067 : MethodName := ⟨RJ1, "charAt", "([BI)C"⟩
def RJ2 : String := "java/lang/StringUTF16"
def TJ2 : u_T := fun k => match k with
  | _ => ("", "", "", false)
def tyJ2 : Nat → FieldType := fun k => match k with
  | _ => .int
abbrev wsJ20 : List Cond := u_ws RJ2 TJ2 0
theorem nmJ2 : ∀ a, a < 0 → ∀ b, b < 0 → a ≠ b → (TJ2 a).2.1 ≠ (TJ2 b).2.1 := by decide +kernel
theorem tyJ2_ok : ∀ k, k < 0 → parseFieldDescriptor (TJ2 k).2.2.1 = some (tyJ2 k) := by decide +kernel
abbrev cJ2_getChar_3b067 : ByteArray := prog_21_method_5_code
def yJ2_getChar_3b067 : MethodName := ⟨RJ2, "getChar", "([BI)C"⟩
abbrev cJ2_length_9d52b : ByteArray := prog_21_method_6_code
def yJ2_length_9d52b : MethodName := ⟨RJ2, "length", "([B)I"⟩
abbrev cJ2_charAt_3b067 : ByteArray := prog_21_method_83_code
def yJ2_charAt_3b067 : MethodName := ⟨RJ2, "charAt", "([BI)C"⟩
abbrev cJ2_checkIndex_2214a : ByteArray := prog_21_method_91_code
def yJ2_checkIndex_2214a : MethodName := ⟨RJ2, "checkIndex", "(I[B)V"⟩
def RJ10 : String := "java/lang/System"
def TJ10 : u_T := fun k => match k with
  | _ => ("", "", "", false)
def tyJ10 : Nat → FieldType := fun k => match k with
  | _ => .int
abbrev wsJ100 : List Cond := u_ws RJ10 TJ10 0
theorem nmJ10 : ∀ a, a < 0 → ∀ b, b < 0 → a ≠ b → (TJ10 a).2.1 ≠ (TJ10 b).2.1 := by decide +kernel
theorem tyJ10_ok : ∀ k, k < 0 → parseFieldDescriptor (TJ10 k).2.2.1 = some (tyJ10 k) := by decide +kernel
def RJxfd54e : String := "java/lang/constant/Constable"
def TJxfd54e : u_T := fun k => match k with
  | _ => ("", "", "", false)
def tyJxfd54e : Nat → FieldType := fun k => match k with
  | _ => .int
abbrev wsJxfd54e0 : List Cond := u_ws RJxfd54e TJxfd54e 0
theorem nmJxfd54e : ∀ a, a < 0 → ∀ b, b < 0 → a ≠ b → (TJxfd54e a).2.1 ≠ (TJxfd54e b).2.1 := by decide +kernel
theorem tyJxfd54e_ok : ∀ k, k < 0 → parseFieldDescriptor (TJxfd54e k).2.2.1 = some (tyJxfd54e k) := by decide +kernel
def RJx3cf43 : String := "java/lang/constant/ConstantDesc"
def TJx3cf43 : u_T := fun k => match k with
  | _ => ("", "", "", false)
def tyJx3cf43 : Nat → FieldType := fun k => match k with
  | _ => .int
abbrev wsJx3cf430 : List Cond := u_ws RJx3cf43 TJx3cf43 0
theorem nmJx3cf43 : ∀ a, a < 0 → ∀ b, b < 0 → a ≠ b → (TJx3cf43 a).2.1 ≠ (TJx3cf43 b).2.1 := by decide +kernel
theorem tyJx3cf43_ok : ∀ k, k < 0 → parseFieldDescriptor (TJx3cf43 k).2.2.1 = some (tyJx3cf43 k) := by decide +kernel
def RJ7 : String := "java/util/Arrays"
def TJ7 : u_T := fun k => match k with
  | _ => ("", "", "", false)
def tyJ7 : Nat → FieldType := fun k => match k with
  | _ => .int
abbrev wsJ70 : List Cond := u_ws RJ7 TJ7 0
theorem nmJ7 : ∀ a, a < 0 → ∀ b, b < 0 → a ≠ b → (TJ7 a).2.1 ≠ (TJ7 b).2.1 := by decide +kernel
theorem tyJ7_ok : ∀ k, k < 0 → parseFieldDescriptor (TJ7 k).2.2.1 = some (tyJ7 k) := by decide +kernel
abbrev cJ7_fill_53178 : ByteArray := prog_24_method_103_code
def yJ7_fill_53178 : MethodName := ⟨RJ7, "fill", "([II)V"⟩
def RJ3 : String := "jdk/internal/util/Preconditions"
def TJ3 : u_T := fun k => match k with
  | _ => ("", "", "", false)
def tyJ3 : Nat → FieldType := fun k => match k with
  | _ => .int
abbrev wsJ30 : List Cond := u_ws RJ3 TJ3 0
theorem nmJ3 : ∀ a, a < 0 → ∀ b, b < 0 → a ≠ b → (TJ3 a).2.1 ≠ (TJ3 b).2.1 := by decide +kernel
theorem tyJ3_ok : ∀ k, k < 0 → parseFieldDescriptor (TJ3 k).2.2.1 = some (tyJ3 k) := by decide +kernel
abbrev cJ3_checkIndex_8e157 : ByteArray := prog_25_method_11_code
def yJ3_checkIndex_8e157 : MethodName := ⟨RJ3, "checkIndex", "(IILjava/util/function/BiFunction;)I"⟩
def RL : String := "PatentPoolLaw"
abbrev cL_parse : ByteArray := method_3_code
def yL_parse : MethodName := ⟨RL, "parse", "(LPatentPool;I[J)I"⟩
abbrev cL_size : ByteArray := method_4_code
def yL_size : MethodName := ⟨RL, "size", "(LPatentPool;I[J)I"⟩
abbrev cL_decision : ByteArray := method_5_code
def yL_decision : MethodName := ⟨RL, "decision", "(LPatentPool;II[J)I"⟩
abbrev cL_voters : ByteArray := method_6_code
def yL_voters : MethodName := ⟨RL, "voters", "(LPatentPool;IIZ[J)I"⟩
abbrev cL_votesNeeded : ByteArray := method_7_code
def yL_votesNeeded : MethodName := ⟨RL, "votesNeeded", "(LPatentPool;II[J)I"⟩
abbrev cL_counts : ByteArray := method_8_code
def yL_counts : MethodName := ⟨RL, "counts", "(LPatentPool;II[J)I"⟩
abbrev cL_firstToExpire : ByteArray := method_9_code
def yL_firstToExpire : MethodName := ⟨RL, "firstToExpire", "(LPatentPool;I[J)I"⟩
abbrev cL_weight : ByteArray := method_10_code
def yL_weight : MethodName := ⟨RL, "weight", "(LPatentPool;I[J)I"⟩
abbrev cL_weightAfter : ByteArray := method_11_code
def yL_weightAfter : MethodName := ⟨RL, "weightAfter", "(LPatentPool;II[J)I"⟩
abbrev cL_shareOf : ByteArray := method_12_code
def yL_shareOf : MethodName := ⟨RL, "shareOf", "(LPatentPool;II[J)I"⟩
abbrev cL_power : ByteArray := method_13_code
def yL_power : MethodName := ⟨RL, "power", "(LPatentPool;I[J)I"⟩
abbrev cL_owed : ByteArray := method_14_code
def yL_owed : MethodName := ⟨RL, "owed", "(LPatentPool;I[J)I"⟩
abbrev cL_reported : ByteArray := method_15_code
def yL_reported : MethodName := ⟨RL, "reported", "(LPatentPool;II[J)I"⟩
abbrev cL_account : ByteArray := method_16_code
def yL_account : MethodName := ⟨RL, "account", "(LPatentPool;I[J)I"⟩
abbrev cL_latestShare : ByteArray := method_17_code
def yL_latestShare : MethodName := ⟨RL, "latestShare", "(LPatentPool;I[J)I"⟩
abbrev cL_total : ByteArray := method_18_code
def yL_total : MethodName := ⟨RL, "total", "(LPatentPool;I[J)I"⟩
abbrev cL_advance : ByteArray := method_19_code
def yL_advance : MethodName := ⟨RL, "advance", "(LPatentPool;I[J)I"⟩
abbrev cL_join : ByteArray := method_20_code
def yL_join : MethodName := ⟨RL, "join", "(LPatentPool;[J)I"⟩
abbrev cL_declare : ByteArray := method_21_code
def yL_declare : MethodName := ⟨RL, "declare", "(LPatentPool;II[J)I"⟩
abbrev cL_vote : ByteArray := method_22_code
def yL_vote : MethodName := ⟨RL, "vote", "(LPatentPool;IIIZ[J)I"⟩
abbrev cL_reopen : ByteArray := method_23_code
def yL_reopen : MethodName := ⟨RL, "reopen", "(LPatentPool;II[J)I"⟩
abbrev cL_report : ByteArray := method_24_code
def yL_report : MethodName := ⟨RL, "report", "(LPatentPool;III[J)I"⟩
abbrev cL_grantBack : ByteArray := method_25_code
def yL_grantBack : MethodName := ⟨RL, "grantBack", "(LPatentPool;I[J)I"⟩
abbrev cL_pay : ByteArray := method_26_code
def yL_pay : MethodName := ⟨RL, "pay", "(LPatentPool;II[J)I"⟩
abbrev cL_audit : ByteArray := method_27_code
def yL_audit : MethodName := ⟨RL, "audit", "(LPatentPool;III[J)I"⟩
abbrev cL_close : ByteArray := method_28_code
def yL_close : MethodName := ⟨RL, "close", "(LPatentPool;[J)I"⟩
abbrev cL_payOut : ByteArray := method_29_code
def yL_payOut : MethodName := ⟨RL, "payOut", "(LPatentPool;I[J)I"⟩
abbrev cL_saveSnapshot : ByteArray := method_30_code
def yL_saveSnapshot : MethodName := ⟨RL, "saveSnapshot", "(LPatentPool;I[J)I"⟩
abbrev cL_restoreSnapshot : ByteArray := method_31_code
def yL_restoreSnapshot : MethodName := ⟨RL, "restoreSnapshot", "(LPatentPool;I[J)I"⟩
abbrev cL_law : ByteArray := code
def yL_law : MethodName := ⟨RL, "law", "([I)Z"⟩
end
section
/-! THE ENGINE, 1: a typed memory and its picture in the heap. A world: kinds of the cells (0..9 an object of the class with that number, 10 int[], 11 byte[], 12 boolean[], 13 long[], 14 Ledger[], 15 unseen), ints, longs, references. Cell k >= 64 lies at base + (k - 64); the first 64 are places outside (the script, Strings). -/
abbrev pp_M : Type := (Nat → Nat → Int32) × (Nat → Nat → Int64) × (Nat → Nat → Option Nat)
abbrev pp_W : Type := List (Nat × Nat) × pp_M
abbrev pp_R : Type := Option Value ⊕ String
abbrev pp_G : Type := Launch × Nat × (Nat → Nat) × va_G × (Nat → ClassId) × (Nat → Nat) × Nat × (Nat → Int32)
abbrev pp_l (g : pp_G) : Launch := g.1
abbrev pp_b (g : pp_G) : Nat := g.2.1
abbrev pp_x (g : pp_G) : Nat → Nat := g.2.2.1
abbrev pp_D (g : pp_G) : va_G := g.2.2.2.1
abbrev pp_d (g : pp_G) : Nat → ClassId := g.2.2.2.2.1
abbrev pp_sv (g : pp_G) : Nat → Nat := g.2.2.2.2.2.1
abbrev pp_sL (g : pp_G) : Nat := g.2.2.2.2.2.2.1
abbrev pp_sx (g : pp_G) : Nat → Int32 := g.2.2.2.2.2.2.2
def pp_ft : Nat → List Nat
  | 0 => [2, 2]
  | 1 => [2, 2, 1, 2, 2]
  | 2 => [2, 0, 2]
  | 3 => [2, 0, 0]
  | 4 => [0, 0, 0, 2, 0, 2, 2, 2, 2, 2, 2, 0, 2, 2, 1, 1, 1, 1, 1]
  | 5 => [2, 2, 2, 2, 0, 0, 0]
  | 6 => [0, 2, 2, 0, 2, 0, 0, 0, 0, 0, 0, 0, 0, 0, 0, 2]
  | 7 => [2, 0, 0, 0, 0, 0]
  | 8 => [2, 0, 0, 2, 2, 2, 2, 2, 2, 2]
  | 9 => [0, 2, 2, 2, 2, 2, 2, 2, 2, 2, 0, 0, 0, 0, 0, 0, 0, 0, 0, 0, 0, 2, 2, 2, 2, 2, 2, 0, 2, 2, 2]
  | _ => []
abbrev pp_cl : List vw_C := [(RX0, TX0, 2), (RX1, TX1, 5), (RX2, TX2, 3), (RX3, TX3, 3), (RX4, TX4, 19), (RX5, TX5, 7), (RX6, TX6, 16), (RX7, TX7, 6), (RX8, TX8, 10), (RX9, TX9, 31)]
def pp_ad (g : pp_G) (k : Nat) : Nat := if k < 64 then pp_x g k else pp_b g + (k - 64)
def pp_A (g : pp_G) : Nat → Prop := fun q => pp_b g ≤ q
def pp_v (g : pp_G) : Value → Value
  | .ref k => .ref (pp_ad g k)
  | v => v
def pp_rf : Option Nat → Value
  | none => .null
  | some a => .ref a
theorem pp_v_rf (g : pp_G) (r : Option Nat) : pp_v g (pp_rf r) = va_rf (r.map (pp_ad g)) := by cases r <;> rfl
theorem pp_v_cat (g : pp_G) (v : Value) : (pp_v g v).category = v.category := by cases v <;> rfl
/-- row a replaced -/
def pp_s {α : Type} (f : Nat → α) (a : Nat) (r : α) : Nat → α := fun i => if i = a then r else f i
theorem pp_s_eq {α : Type} (f : Nat → α) (a : Nat) (r : α) : pp_s f a r a = r := if_pos rfl
theorem pp_s_ne {α : Type} (f : Nat → α) {a b : Nat} (r : α) (h : b ≠ a) : pp_s f a r b = f b := if_neg h
/-- the field k of an object at a, of the field kind t -/
def pp_fv (g : pp_G) (m : pp_M) (a t k : Nat) : Value := match t with
  | 0 => .int (m.1 a k)
  | 1 => .long (m.2.1 a k)
  | _ => va_rf ((m.2.2 a k).map (pp_ad g))
def pp_fk (c k : Nat) : Nat := (pp_ft c).getD k 9
def pp_at (g : pp_G) (m : pp_M) (a : Nat) (sh : Nat × Nat) (H : Heap) : Prop :=
  if sh.1 = 15 then True
  else if sh.1 = 10 then H[pp_ad g a]? = some (vp_cell (pp_d g 0) (sh.2, .inl (m.1 a)))
  else if sh.1 = 11 then H[pp_ad g a]? = some (vp_cell (pp_d g 1) (sh.2, .inl (m.1 a)))
  else if sh.1 = 12 then H[pp_ad g a]? = some (vp_cell (pp_d g 2) (sh.2, .inl (m.1 a)))
  else if sh.1 = 13 then H[pp_ad g a]? = some (vp_cell (pp_d g 3) (sh.2, .inr (.inl (m.2.1 a))))
  else if sh.1 = 14 then H[pp_ad g a]? = some (vp_cell (pp_d g 4) (sh.2, .inr (.inr (.inr (.inr (fun k => (m.2.2 a k).map (pp_ad g)))))))
  else ∃ r : vw_C, pp_cl[sh.1]? = some r ∧ t_OB (pp_ad g a) ((pp_D g).1 sh.1) r.2.2 ((pp_D g).2 sh.1) H (fun k => pp_fv g m a (pp_fk sh.1 k) k)
def pp_Rep (g : pp_G) (w : pp_W) (H : Heap) : Prop := 64 ≤ w.1.length ∧ H.size = pp_b g + (w.1.length - 64) ∧ (∀ i, i < 64 → w.1[i]? = some (15, 0)) ∧ ∀ (i : Nat) (sh : Nat × Nat), w.1[i]? = some sh → pp_at g w.2 i sh H
theorem pp_ad_hi (g : pp_G) {k : Nat} (h : 64 ≤ k) : pp_ad g k = pp_b g + (k - 64) := if_neg (by omega)
theorem pp_at.congr {g : pp_G} {m m' : pp_M} {a : Nat} {sh : Nat × Nat} {H H' : Heap} (h : pp_at g m a sh H) (h1 : m'.1 a = m.1 a) (h2 : m'.2.1 a = m.2.1 a) (h3 : m'.2.2 a = m.2.2 a) (hq : H'[pp_ad g a]? = H[pp_ad g a]?) : pp_at g m' a sh H' := by
  unfold pp_at at h ⊢
  rw [h1, h2, h3, hq]
  split
  · trivial
  · rename_i n15
    rw [if_neg n15] at h
    split
    · rename_i c; rw [if_pos c] at h; exact h
    · rename_i c; rw [if_neg c] at h
      split
      · rename_i c; rw [if_pos c] at h; exact h
      · rename_i c; rw [if_neg c] at h
        split
        · rename_i c; rw [if_pos c] at h; exact h
        · rename_i c; rw [if_neg c] at h
          split
          · rename_i c; rw [if_pos c] at h; exact h
          · rename_i c; rw [if_neg c] at h
            split
            · rename_i c; rw [if_pos c] at h; exact h
            · rename_i c; rw [if_neg c] at h
              obtain ⟨r, hr, hO⟩ := h
              refine ⟨r, hr, (hO.kept hq).to (fun k _ => ?_)⟩
              simp only [pp_fv, h1, h2, h3]
theorem pp_Rep.hi {g : pp_G} {w : pp_W} {H : Heap} (h : pp_Rep g w H) {i : Nat} {sh : Nat × Nat} (hi : w.1[i]? = some sh) (hk : sh.1 ≠ 15) : 64 ≤ i ∧ i < w.1.length ∧ pp_ad g i = pp_b g + (i - 64) ∧ pp_ad g i < H.size := by
  have hl : i < w.1.length := (List.getElem?_eq_some_iff.mp hi).1
  have h6 : 64 ≤ i := by
    rcases Nat.lt_or_ge i 64 with q | q
    · have := h.2.2.1 i q
      rw [hi] at this
      cases this
      exact absurd rfl hk
    · exact q
  refine ⟨h6, hl, pp_ad_hi g h6, ?_⟩
  rw [pp_ad_hi g h6, h.2.1]
  omega
/-- a cell is written: the others stay -/
theorem pp_Rep.store {g : pp_G} {w : pp_W} {H H' : Heap} (h : pp_Rep g w H) {a : Nat} {sh : Nat × Nat} (ha : w.1[a]? = some sh) (hk : sh.1 ≠ 15) {m' : pp_M} (h1 : ∀ i, i ≠ a → m'.1 i = w.2.1 i) (h2 : ∀ i, i ≠ a → m'.2.1 i = w.2.2.1 i) (h3 : ∀ i, i ≠ a → m'.2.2 i = w.2.2.2 i)
    (hz : H'.size = H.size) (oq : ∀ q : Nat, q ≠ pp_ad g a → H'[q]? = H[q]?) (hn : pp_at g m' a sh H') : pp_Rep g (w.1, m') H' := by
  obtain ⟨a6, al, aA, -⟩ := h.hi ha hk
  refine ⟨h.1, hz.trans h.2.1, h.2.2.1, fun i si hi => ?_⟩
  by_cases e : i = a
  · subst e
    cases ha.symm.trans hi
    exact hn
  · by_cases k15 : si.1 = 15
    · unfold pp_at; rw [if_pos k15]; trivial
    · obtain ⟨i6, il, iA, -⟩ := h.hi hi k15
      refine (h.2.2.2 i si hi).congr (h1 i e) (h2 i e) (h3 i e) (oq _ ?_)
      rw [iA, aA]
      omega
/-- a cell is new -/
theorem pp_Rep.push {g : pp_G} {w : pp_W} {H H' : Heap} (h : pp_Rep g w H) {sh : Nat × Nat} {m' : pp_M} (h1 : ∀ i, i ≠ w.1.length → m'.1 i = w.2.1 i) (h2 : ∀ i, i ≠ w.1.length → m'.2.1 i = w.2.2.1 i) (h3 : ∀ i, i ≠ w.1.length → m'.2.2 i = w.2.2.2 i)
    (hz : H'.size = H.size + 1) (oq : ∀ q : Nat, q < H.size → H'[q]? = H[q]?) (hn : pp_at g m' w.1.length sh H') : pp_Rep g (w.1 ++ [sh], m') H' := by
  have hl := h.1
  have hs := h.2.1
  refine ⟨by simp only [List.length_append, List.length_cons, List.length_nil]; omega, by simp only [List.length_append, List.length_cons, List.length_nil]; omega, fun i hi => ?_, fun i si hi => ?_⟩
  · show (w.1 ++ [sh])[i]? = _
    rw [List.getElem?_append_left (by omega)]
    exact h.2.2.1 i hi
  · by_cases e : i < w.1.length
    · have hi : (w.1 ++ [sh])[i]? = some si := hi
      rw [List.getElem?_append_left e] at hi
      by_cases k15 : si.1 = 15
      · unfold pp_at; rw [if_pos k15]; trivial
      · obtain ⟨i6, il, iA, iH⟩ := h.hi hi k15
        exact (h.2.2.2 i si hi).congr (h1 i (by omega)) (h2 i (by omega)) (h3 i (by omega)) (oq _ iH)
    · have hi : (w.1 ++ [sh])[i]? = some si := hi
      rw [List.getElem?_append_right (by omega)] at hi
      have hz : i - w.1.length < 1 := (List.getElem?_eq_some_iff.mp hi).1
      have hz0 : i = w.1.length := by omega
      subst hz0
      rw [Nat.sub_self] at hi
      cases hi
      exact hn
theorem pp_Rep.size {g : pp_G} {w : pp_W} {H : Heap} (h : pp_Rep g w H) : pp_ad g w.1.length = H.size := by
  rw [pp_ad_hi g h.1, h.2.1]
/-- cells that nobody sees come -/
theorem pp_Rep.grow {g : pp_G} {w : pp_W} {H H' : Heap} (h : pp_Rep g w H) (hz : H.size ≤ H'.size) (oq : ∀ q : Nat, q < H.size → H'[q]? = H[q]?) : pp_Rep g (w.1 ++ List.replicate (H'.size - H.size) (15, 0), w.2) H' := by
  have hl := h.1
  have hs := h.2.1
  refine ⟨by simp only [List.length_append, List.length_replicate]; omega, by simp only [List.length_append, List.length_replicate]; omega, fun i hi => ?_, fun i si hi => ?_⟩
  · show (w.1 ++ _)[i]? = _
    rw [List.getElem?_append_left (by omega)]
    exact h.2.2.1 i hi
  · by_cases k15 : si.1 = 15
    · unfold pp_at; rw [if_pos k15]; trivial
    · by_cases e : i < w.1.length
      · have hi : (w.1 ++ List.replicate (H'.size - H.size) (15, 0))[i]? = some si := hi
        rw [List.getElem?_append_left e] at hi
        obtain ⟨i6, il, iA, iH⟩ := h.hi hi k15
        exact (h.2.2.2 i si hi).congr rfl rfl rfl (oq _ iH)
      · have hi : (w.1 ++ List.replicate (H'.size - H.size) (15, 0))[i]? = some si := hi
        rw [List.getElem?_append_right (by omega)] at hi
        have := List.eq_of_mem_replicate (List.mem_of_getElem? hi)
        rw [this] at k15
        exact absurd rfl k15
theorem pp_Rep.same {g : pp_G} {w : pp_W} {H H' : Heap} (h : pp_Rep g w H) (e : H' = H) : pp_Rep g w H' := e ▸ h
theorem pp_Rep.Aa {g : pp_G} {w : pp_W} {H : Heap} (h : pp_Rep g w H) {i : Nat} {sh : Nat × Nat} (hi : w.1[i]? = some sh) (hk : sh.1 ≠ 15) : pp_A g (pp_ad g i) := by
  rw [(h.hi hi hk).2.2.1]
  exact Nat.le_add_right _ _
-- the kinds of a cell
theorem pp_at.i {g : pp_G} {m : pp_M} {a n : Nat} {H : Heap} : pp_at g m a (10, n) H ↔ H[pp_ad g a]? = some (vp_cell (pp_d g 0) (n, .inl (m.1 a))) := by simp [pp_at]
theorem pp_at.b {g : pp_G} {m : pp_M} {a n : Nat} {H : Heap} : pp_at g m a (11, n) H ↔ H[pp_ad g a]? = some (vp_cell (pp_d g 1) (n, .inl (m.1 a))) := by simp [pp_at]
theorem pp_at.z {g : pp_G} {m : pp_M} {a n : Nat} {H : Heap} : pp_at g m a (12, n) H ↔ H[pp_ad g a]? = some (vp_cell (pp_d g 2) (n, .inl (m.1 a))) := by simp [pp_at]
theorem pp_at.j {g : pp_G} {m : pp_M} {a n : Nat} {H : Heap} : pp_at g m a (13, n) H ↔ H[pp_ad g a]? = some (vp_cell (pp_d g 3) (n, .inr (.inl (m.2.1 a)))) := by simp [pp_at]
theorem pp_at.q {g : pp_G} {m : pp_M} {a n : Nat} {H : Heap} : pp_at g m a (14, n) H ↔ H[pp_ad g a]? = some (vp_cell (pp_d g 4) (n, .inr (.inr (.inr (.inr (fun k => (m.2.2 a k).map (pp_ad g))))))) := by simp [pp_at]
theorem pp_at.o {g : pp_G} {m : pp_M} {a c n : Nat} {H : Heap} (hc : c < 10) : pp_at g m a (c, n) H ↔ ∃ r : vw_C, pp_cl[c]? = some r ∧ t_OB (pp_ad g a) ((pp_D g).1 c) r.2.2 ((pp_D g).2 c) H (fun k => pp_fv g m a (pp_fk c k) k) := by
  unfold pp_at
  rw [if_neg (by show ¬ c = 15; omega), if_neg (by show ¬ c = 10; omega), if_neg (by show ¬ c = 11; omega), if_neg (by show ¬ c = 12; omega), if_neg (by show ¬ c = 13; omega), if_neg (by show ¬ c = 14; omega)]
end
section
/-! THE ENGINE, 2: words, methods, the judgements -/
def pp_ok (w : Cond) : Bool := match w with
  | .arrayClass _ => true
  | w => w.onTables && w.keepsFace
def pp_T : List Cond := lw_tbl.filter pp_ok
theorem pp_mem {w : Cond} (i : Nat) (h : lw_tbl[i]? = some w) (ok : pp_ok w = true) : w ∈ pp_T := List.mem_filter.mpr ⟨List.mem_of_getElem? h, ok⟩
theorem pp_word {w : Cond} {args a' : Array Value} {s U : State} (hW : s.WarmedH U.vm) (ok : pp_ok w = true) (h : w.before args s = true) : w.before a' U = true := by
  have key : (w.onTables && w.keepsFace) = true → w.before a' U = true := fun hc => by
    simp only [Bool.and_eq_true] at hc
    exact va_tabs hc.1 (rfl : (s.setVm U.vm).vm = U.vm) (Cond.before_shiftedFace (State.Shifted.of_warmed hW) _ hc.2 h)
  cases w with
  | arrayClass ty =>
    have h1 : (Cond.arrayClass ty).before args (s.setVm U.vm) = true := Cond.before_shiftedFace (State.Shifted.of_warmed hW) _ rfl h
    exact h1
  | _ => exact key ok
theorem pp_T_warm {args a' : Array Value} {s U : State} (hW : s.WarmedH U.vm) (h : ∀ w ∈ pp_T, w.before args s = true) : ∀ w ∈ pp_T, w.before a' U = true := fun w hw => pp_word hW (List.mem_filter.mp hw).2 (h w hw)
/-- a method: name, code, locals, answer; cells and slots that it may make; cells and slots at its labels; its handlers; what they answer; 0 static, 1 by a name, 2 a constructor; parameters -/
abbrev pp_MI : Type := MethodName × ByteArray × Nat × Option FieldType × (Nat × Nat) × List (Nat × Nat × Nat) × List (Nat × Nat × Nat × Nat) × List (String × Int32) × Nat × Nat
abbrev pp_MI.y (mi : pp_MI) : MethodName := mi.1
abbrev pp_MI.by_ (mi : pp_MI) : ByteArray := mi.2.1
abbrev pp_MI.nL (mi : pp_MI) : Nat := mi.2.2.1
abbrev pp_MI.ret (mi : pp_MI) : Option FieldType := mi.2.2.2.1
abbrev pp_MI.mc (mi : pp_MI) : Nat := mi.2.2.2.2.1.1
abbrev pp_MI.ms (mi : pp_MI) : Nat := mi.2.2.2.2.1.2
abbrev pp_MI.cnts (mi : pp_MI) : List (Nat × Nat × Nat) := mi.2.2.2.2.2.1
abbrev pp_MI.hh (mi : pp_MI) : List (Nat × Nat × Nat × Nat) := mi.2.2.2.2.2.2.1
abbrev pp_MI.hx (mi : pp_MI) : List (String × Int32) := mi.2.2.2.2.2.2.2.1
abbrev pp_MI.kd (mi : pp_MI) : Nat := mi.2.2.2.2.2.2.2.2.1
abbrev pp_MI.np (mi : pp_MI) : Nat := mi.2.2.2.2.2.2.2.2.2
def pp_cnt (mi : pp_MI) (pc : Nat) : Nat × Nat := (mi.cnts.lookup pc).getD (0, 0)
def pp_cw (mi : pp_MI) : Cond := if mi.hh = [] then .code mi.y mi.by_ mi.nL mi.ret else .codeWith mi.y mi.by_ mi.nL mi.ret mi.hh
def pp_room (h : Nat) (mi : pp_MI) : Room := { frames := h + 8, cells := mi.mc, slots := mi.ms, locals := 40 * h + 200 }
def pp_MIok (mi : pp_MI) : Prop := plainName mi.y.cls = true ∧ mi.nL ≤ 21 ∧ pp_cw mi ∈ pp_T ∧ Cond.initialized mi.y.cls ∈ pp_T ∧ (mi.y.cls ≠ "java/lang/invoke/MethodHandle" ∧ mi.y.cls ≠ "java/lang/invoke/VarHandle") ∧ (parseMethodDescriptor mi.y.desc).map (fun d => d.parameters.length) = some mi.np ∧
  (((mi.kd = 0 ∧ Cond.static mi.y ∈ pp_T) ∨ (mi.kd = 1 ∧ Cond.instanceMethod mi.y ∈ pp_T ∧ Cond.selects mi.y.cls mi.y mi.y ∈ pp_T) ∨ (mi.kd = 2 ∧ mi.y.name = "<init>" ∧ Cond.instanceMethod mi.y ∈ pp_T ∧ mi.ret = none)) ∧ mi.y ≠ yL_law)
def pp_tys (g : pp_G) : List (ClassId × FieldType) := [(pp_d g 0, .int), (pp_d g 1, .byte), (pp_d g 2, .boolean), (pp_d g 3, .long), (pp_d g 4, .object RX4)]
def pp_K (g : pp_G) (U : State) : Prop := va_K (pp_D g) pp_cl (pp_tys g) U
/-- the texts of the Strings, by their numbers -/
def pp_txt : List (List Int32) := [[109, 101, 109, 98, 101, 114], [118, 101, 114, 115, 105, 111, 110], [112, 97, 116, 101, 110, 116], [108, 105, 99, 101, 110, 115, 101, 101], [113, 117, 111, 114, 117, 109], [99, 97, 112], [99, 111, 115, 116, 115], [114, 101, 115, 101, 114, 118, 101], [108, 97, 116, 101], [99, 114, 101, 100, 105, 116], [112, 101, 110, 97, 108, 116, 121], [119, 101, 105, 103, 104, 116], [112, 97, 116, 101, 110, 116, 115], [112, 97, 105, 114, 115], [100, 97, 121, 115]]
/-- what lies outside and stays: Strings and their entries, texts of exceptions, statics, what isn't castable, a nest mate's link, the script -/
def pp_Str (g : pp_G) (U : State) (H : Heap) : Prop := ∀ i : Nat, i < 15 → va_O "java/lang/String" (pp_x g (i + 1)) (pp_A g) U H ∧ va_OF "java/lang/String" "coder" "B" (.int 0) (pp_x g (i + 1)) (pp_A g) U H ∧ va_OF "java/lang/String" "value" "[B" (.ref (pp_x g (i + 16))) (pp_x g (i + 1)) (pp_A g) U H ∧ va_T .byte (pp_x g (i + 16)) (pp_txt.getD i []).length (fun j => .int ((pp_txt.getD i []).getD j 0)) (pp_A g) U H
def pp_strs : List (String × Nat × String × Nat) := [(RX5, 94, "member", 1), (RX5, 100, "version", 2), (RX5, 102, "patent", 3), (RX5, 104, "licensee", 4), (RX5, 106, "quorum", 5), (RX5, 108, "cap", 6), (RX5, 110, "costs", 7), (RX5, 112, "reserve", 8), (RX5, 114, "late", 9), (RX5, 116, "credit", 10), (RX5, 118, "penalty", 11), (RX5, 120, "weight", 12), (RX5, 202, "patents", 13), (RX5, 203, "pairs", 14), (RX5, 205, "days", 15), (RX9, 170, "member", 1), (RX9, 186, "version", 2), (RX9, 188, "patent", 3), (RX9, 190, "licensee", 4), (RX9, 196, "quorum", 5), (RX9, 205, "cap", 6), (RX9, 207, "costs", 7), (RX9, 209, "reserve", 8), (RX9, 211, "late", 9), (RX9, 213, "credit", 10), (RX9, 215, "penalty", 11), (RX9, 217, "weight", 12), (RX9, 234, "patents", 13), (RX9, 235, "pairs", 14), (RX9, 237, "days", 15)]
def pp_msgs : List (Nat × String) := [(76, "length is out of range"), (116, "what is out of range"), (167, "days is out of range"), (170, "amount is out of range"), (231, "the day would be too late"), (237, "there are too many members"), (242, "expiry is out of range"), (244, "there are too many patents"), (251, "there is no such reviewer"), (257, "the version is not released or the patent not in force"), (259, "there are no votes"), (261, "units is out of range"), (263, "the version is not released"), (272, "there was a credit in this period already"), (288, "the credit would be 0"), (300, "nothing was received"), (316, "the account is 0"), (325, "the slot is empty"), (327, "there is no such member"), (329, "there is no such version"), (331, "there is no such patent"), (333, "there is no such licensee"), (335, "there is no such slot")]
def pp_ncs : List (String × String) := [("java/lang/IllegalArgumentException", "java/lang/IllegalStateException"), ("java/lang/IllegalArgumentException", "java/lang/IndexOutOfBoundsException"), ("java/lang/IllegalStateException", "java/lang/IllegalArgumentException"), ("java/lang/IllegalStateException", "java/lang/IndexOutOfBoundsException"), ("java/lang/IndexOutOfBoundsException", "java/lang/IllegalArgumentException"), ("java/lang/IndexOutOfBoundsException", "java/lang/IllegalStateException")]
def pp_nest : Cond := .methodLinkNest RX0 19 yX8_pairOf RX8
def pp_Ext (g : pp_G) (U : State) (H : Heap) : Prop :=
  pp_Str g U H ∧ (∀ q ∈ pp_strs, vk_R q.1 q.2.1 q.2.2.1 (pp_x g q.2.2.2) U) ∧ (∀ q ∈ pp_msgs, ∃ sa : Nat, vk_R RX8 q.1 q.2 sa U) ∧
  vx_Zq Bundle.tN "UNASSIGNED_STACK" Bundle.steD (pp_A g) U H ∧ vx_Zq Bundle.tN "SUPPRESSED_SENTINEL" Bundle.listD (pp_A g) U H ∧ (∀ q ∈ pp_ncs, va_Nc q.1 q.2 U) ∧ va_Nw pp_nest U ∧
  va_Z "java/lang/String" "COMPACT_STRINGS" "Z" (.int 1) (pp_A g) U H ∧ (va_Z "jdk/internal/util/Preconditions" "SIOOBE_FORMATTER" "Ljava/util/function/BiFunction;" .null (pp_A g) U H ∨ va_Z "jdk/internal/util/Preconditions" "SIOOBE_FORMATTER" "Ljava/util/function/BiFunction;" (.ref (pp_x g 31)) (pp_A g) U H) ∧ va_AO RX4 U
theorem pp_Ext.moved {g : pp_G} {u U : State} {H : Heap} (hW : u.WarmedH U.vm) (h : pp_Ext g u H) : pp_Ext g U H := by
  obtain ⟨h1, h2, h3, h4, h5, h6, h7, h8, h9, h10⟩ := h
  have hvm := hW.alike
  exact ⟨fun i hi => ⟨va_O.moved hvm (h1 i hi).1, va_OF.moved hvm (h1 i hi).2.1, va_OF.moved hvm (h1 i hi).2.2.1, va_T.moved hvm (h1 i hi).2.2.2⟩, fun q hq => vk_R.warm hW (h2 q hq), fun q hq => (h3 q hq).imp fun _ h => vk_R.warm hW h,
    vx_Zq.moved hvm h4, vx_Zq.moved hvm h5, fun q hq => va_Nc.moved hvm (h6 q hq), va_Nw.warmM hW h7, va_Z.moved hvm h8, h9.imp (va_Z.moved hvm) (va_Z.moved hvm), va_AO.moved hvm h10⟩
theorem pp_Ext.kept {g : pp_G} {U : State} {H H1 : Heap} (h : pp_Ext g U H) (hq : ∀ a : Nat, a < H.size → ¬ pp_A g a → H1[a]? = H[a]?) : pp_Ext g U H1 := by
  obtain ⟨h1, h2, h3, h4, h5, h6, h7, h8, h9, h10⟩ := h
  exact ⟨fun i hi => ⟨(h1 i hi).1.kept hq, (h1 i hi).2.1.kept hq, (h1 i hi).2.2.1.kept hq, (h1 i hi).2.2.2.kept hq⟩, h2, h3, h4.kept hq, h5.kept hq, h6, h7, h8.kept hq, h9.imp (fun z => z.kept hq) (fun z => z.kept hq), h10⟩
theorem pp_K.moved {g : pp_G} {u U : State} (hvm : u.vm.Alike U.vm) (h : pp_K g u) : pp_K g U := va_K.moved hvm h
/-- where a method stands: its machine, state at its entry, name, arguments, what lies below, itself, its code -/
abbrev pp_CT : Type := Program × Env × State × MethodId × Array Value × List Frame × Method × Code
abbrev pp_CT.p (t : pp_CT) : Program := t.1
abbrev pp_CT.e (t : pp_CT) : Env := t.2.1
abbrev pp_CT.s (t : pp_CT) : State := t.2.2.1
abbrev pp_CT.m (t : pp_CT) : MethodId := t.2.2.2.1
abbrev pp_CT.args (t : pp_CT) : Array Value := t.2.2.2.2.1
abbrev pp_CT.below (t : pp_CT) : List Frame := t.2.2.2.2.2.1
abbrev pp_CT.meth (t : pp_CT) : Method := t.2.2.2.2.2.2.1
abbrev pp_CT.c (t : pp_CT) : Code := t.2.2.2.2.2.2.2
def pp_Cx (g : pp_G) (mi : pp_MI) (t : pp_CT) : Prop :=
  t.p.tables.exec = Jvm.exec ∧ t.c.code = mi.by_ ∧ t.c.maxLocals = mi.nL ∧ t.s.vm.findClass mi.y.cls = some t.m.cls ∧ (∀ w ∈ pp_T, w.before t.args t.s = true) ∧ t.meth.sig.returnType = mi.ret ∧ t.meth.locks = false ∧ t.meth.name = mi.y.name ∧
  t.c.exceptionTable.toList = tableOf mi.hh ∧ pp_K g t.s ∧ pp_Ext g t.s t.s.heap ∧ pp_b g ≤ t.s.heap.size ∧ (pp_l g).stackTraces = false ∧ (mi.y = yL_law → va_X (pp_x g 0) (pp_sL g) (pp_sx g) t.s t.s.heap ∧ pp_x g 0 < pp_b g)
abbrev pp_Wt (g : pp_G) (R : Room) (t : pp_CT) (H : Heap) (locs : List Loc) (cells slots : Nat) (Q : State → Prop) (f : JFrame) : Prop := W t.p (pp_l g) t.e R t.s t.m t.args t.below t.meth t.c H locs cells slots Q f
/-- the locals that are known -/
def pp_ls (g : pp_G) (L : List (Nat × Value)) : List (Nat × Value) := L.map (fun q => (q.1, pp_v g q.2))
/-- THE JUDGEMENT: at pc, with these locals, this stack and this world, the machine comes to Z -/
def pp_ATc (g : pp_G) (R : Room) (mi : pp_MI) (Z : pp_CT → State → Prop) (cs : Nat × Nat) (pc : Nat) (L : List (Nat × Value)) (st : List Value) (w : pp_W) : Prop :=
  ∀ t : pp_CT, pp_Cx g mi t → ∀ (H : Heap) (locs : List Loc) (ls : Array Slot) (cells slots : Nat), pp_Rep g w H → va_S (pp_A g) t.s.heap H locs → lv_has ls mi.nL (pp_ls g L) → cells ≤ cs.1 → slots ≤ cs.2 →
    pp_Wt g R t H locs cells slots (Z t) (F0 t.m pc ls (st.map (pp_v g)))
def pp_AT (g : pp_G) (R : Room) (mi : pp_MI) (Z : pp_CT → State → Prop) (off : Nat × Nat) (pc : Nat) (L : List (Nat × Value)) (st : List Value) (w : pp_W) : Prop :=
  pp_ATc g R mi Z (off.1 + (pp_cnt mi pc).1, off.2 + (pp_cnt mi pc).2) pc L st w
theorem pp_ATc.le {g : pp_G} {R : Room} {mi : pp_MI} {Z : pp_CT → State → Prop} {cs cs' : Nat × Nat} {pc : Nat} {L : List (Nat × Value)} {st : List Value} {w : pp_W} (h : pp_ATc g R mi Z cs' pc L st w) (h1 : cs.1 ≤ cs'.1) (h2 : cs.2 ≤ cs'.2) : pp_ATc g R mi Z cs pc L st w :=
  fun t hc H locs ls cells slots hP hS hl a b => h t hc H locs ls cells slots hP hS hl (Nat.le_trans a h1) (Nat.le_trans b h2)
/-- fewer locals -/
theorem pp_ATc.sub {g : pp_G} {R : Room} {mi : pp_MI} {Z : pp_CT → State → Prop} {cs : Nat × Nat} {pc : Nat} {L L' : List (Nat × Value)} {st : List Value} {w : pp_W} (h : pp_ATc g R mi Z cs pc L' st w) (hL : ∀ q ∈ L', q ∈ L) : pp_ATc g R mi Z cs pc L st w :=
  fun t hc H locs ls cells slots hP hS hl a b => h t hc H locs ls cells slots hP hS ⟨hl.1, hl.2.1, fun q hq => by
    obtain ⟨q', h1, rfl⟩ := List.mem_map.mp hq
    exact hl.2.2 _ (List.mem_map.mpr ⟨q', hL q' h1, rfl⟩)⟩ a b
/-- what is behind a method, and what a contract of it says -/
def pp_Qc (g : pp_G) (P : pp_R → pp_W → Prop) : Array Value → State → Outcome → State → Prop := fun _ st o t => ∃ (v : Option Value) (w : pp_W), o = .returned (v.map (pp_v g)) ∧ P (.inl v) w ∧ pp_Rep g w t.heap ∧ va_F (pp_A g) st t
def pp_XC (g : pp_G) (P : pp_R → pp_W → Prop) : String → State → State → Prop := fun E st t => ∃ w : pp_W, P (.inr E) w ∧ pp_Rep g w t.heap ∧ va_F (pp_A g) st t
def pp_Pc (g : pp_G) (av : List Value) (w : pp_W) : Array Value → State → Prop := fun v U => v = (av.map (pp_v g)).toArray ∧ pp_Rep g w U.heap ∧ pp_K g U ∧ pp_Ext g U U.heap ∧ (pp_l g).stackTraces = false
def pp_MW (g : pp_G) (h : Nat) (mi : pp_MI) (av : List Value) (w : pp_W) (P : pp_R → pp_W → Prop) : Prop :=
  pp_MIok mi ∧ vx_Met (pp_l g) mi.y (pp_cw mi :: pp_T) (pp_room h mi) (pp_Pc g av w) (pp_Qc g P) (pp_XC g P) mi.mc mi.ms (pp_A g)
def pp_Z (g : pp_G) (mi : pp_MI) (P : pp_R → pp_W → Prop) (t : pp_CT) : State → Prop := vx_MQ t.below (pp_Qc g P) (pp_XC g P) t.args t.s mi.mc mi.ms (pp_A g)
theorem pp_blind (g : pp_G) (av : List Value) (w : pp_W) : FrameBlind (pp_Pc g av w) := fun a U f mk q => ⟨q.1, q.2.1, va_K.moved (u := U) (U := U.calling f mk a) (Vm.Alike.refl U.vm) q.2.2.1, pp_Ext.moved (u := U) (U := U.calling f mk a) (State.WarmedH.refl U) q.2.2.2.1, q.2.2.2.2⟩
end
section
/-! THE ENGINE, 3: a row an instruction -/
def pp_wide : Value → Bool
  | .long _ => true
  | .double _ => true
  | _ => false
theorem pp_wide_eq (v : Value) : (v.category == 2) = pp_wide v := by cases v <;> rfl
def pp_ins (i : Nat) (v : Value) : List (Nat × Value) → List (Nat × Value)
  | [] => [(i, v)]
  | q :: L => if q.1 < i then q :: pp_ins i v L else (i, v) :: q :: L
def pp_put1 (i : Nat) (v : Value) (L : List (Nat × Value)) : List (Nat × Value) := pp_ins i v (L.filter (fun q => !(q.1 == i) && !(q.1 + 1 == i && pp_wide q.2)))
def pp_put2 (i : Nat) (v : Value) (L : List (Nat × Value)) : List (Nat × Value) := pp_ins i v (L.filter (fun q => !(q.1 == i) && (!(q.1 == i + 1) && !(q.1 + 1 == i && pp_wide q.2))))
theorem pp_ins_mem (i : Nat) (v : Value) (L : List (Nat × Value)) : ∀ q ∈ pp_ins i v L, q ∈ (i, v) :: L := by
  induction L with
  | nil => intro q hq; exact hq
  | cons a L ih =>
    intro q hq
    unfold pp_ins at hq
    split at hq
    · rcases List.mem_cons.mp hq with rfl | h
      · simp
      · rcases List.mem_cons.mp (ih q h) with rfl | h
        · simp
        · simp [h]
    · exact hq
theorem pp_put1_has {g : pp_G} {ls : Array Slot} {nL i : Nat} {v : Value} {L : List (Nat × Value)} (h : lv_has ls nL ((i, pp_v g v) :: (pp_ls g L).filter (fun q => !(q.1 == i) && !(q.1 + 1 == i && q.2.category == 2)))) : lv_has ls nL (pp_ls g (pp_put1 i v L)) := by
  refine ⟨h.1, h.2.1, fun q hq => ?_⟩
  obtain ⟨q', h1, rfl⟩ := List.mem_map.mp hq
  rcases List.mem_cons.mp (pp_ins_mem i v _ q' h1) with rfl | h2
  · exact h.2.2 _ List.mem_cons_self
  · obtain ⟨h3, h4⟩ := List.mem_filter.mp h2
    refine h.2.2 _ (List.mem_cons_of_mem _ (List.mem_filter.mpr ⟨List.mem_map.mpr ⟨q', h3, rfl⟩, ?_⟩))
    rw [pp_v_cat, pp_wide_eq]
    exact h4
theorem pp_put2_has {g : pp_G} {ls : Array Slot} {nL i : Nat} {v : Value} {L : List (Nat × Value)} (h : lv_has ls nL ((i, pp_v g v) :: (pp_ls g L).filter (fun q => !(q.1 == i) && (!(q.1 == i + 1) && !(q.1 + 1 == i && q.2.category == 2))))) : lv_has ls nL (pp_ls g (pp_put2 i v L)) := by
  refine ⟨h.1, h.2.1, fun q hq => ?_⟩
  obtain ⟨q', h1, rfl⟩ := List.mem_map.mp hq
  rcases List.mem_cons.mp (pp_ins_mem i v _ q' h1) with rfl | h2
  · exact h.2.2 _ List.mem_cons_self
  · obtain ⟨h3, h4⟩ := List.mem_filter.mp h2
    refine h.2.2 _ (List.mem_cons_of_mem _ (List.mem_filter.mpr ⟨List.mem_map.mpr ⟨q', h3, rfl⟩, ?_⟩))
    rw [pp_v_cat, pp_wide_eq]
    exact h4
theorem pp_look {g : pp_G} {ls : Array Slot} {nL i : Nat} {v : Value} {L : List (Nat × Value)} (hl : lv_has ls nL (pp_ls g L)) (h : L.lookup i = some v) : ls[i]? = some (.val (pp_v g v)) := by
  have hm : (i, v) ∈ L := by
    induction L with
    | nil => cases h
    | cons a L ih =>
      rw [List.lookup_cons] at h
      by_cases e : (i == a.1) = true
      · simp only [e] at h
        cases h
        have : i = a.1 := by simpa using e
        subst this
        simp
      · simp only [Bool.not_eq_true] at e
        simp only [e] at h
        exact List.mem_cons_of_mem _ (ih ⟨hl.1, hl.2.1, fun q hq => hl.2.2 q (List.mem_cons_of_mem _ hq)⟩ h)
  exact hl.2.2 _ (List.mem_map.mpr ⟨(i, v), hm, rfl⟩)
section Rows
variable {g : pp_G} {R : Room} {mi : pp_MI} {Z : pp_CT → State → Prop} {cs : Nat × Nat} {pc : Nat} {L : List (Nat × Value)} {st : List Value} {w : pp_W}
-- constants
theorem pr_iconst {n : Int} {v : Int32} (hd : decode mi.by_ pc = .ok (.iconst n, 1)) (hv : Int32.ofInt n = v) (k : pp_ATc g R mi Z cs (pc + 1) L (.int v :: st) w) : pp_ATc g R mi Z cs pc L st w :=
  fun t C H locs ls cells slots hP hS hl a b => lv_iconst C.1 C.2.1 hd hv (k t C H locs ls cells slots hP hS hl a b)
theorem pr_bipush {n : Int} {v : Int32} (hd : decode mi.by_ pc = .ok (.bipush n, 2)) (hv : (Int8.ofInt n).toInt32 = v) (k : pp_ATc g R mi Z cs (pc + 2) L (.int v :: st) w) : pp_ATc g R mi Z cs pc L st w :=
  fun t C H locs ls cells slots hP hS hl a b => lv_bipush C.1 C.2.1 hd hv (k t C H locs ls cells slots hP hS hl a b)
theorem pr_sipush {n : Int} {v : Int32} (hd : decode mi.by_ pc = .ok (.sipush n, 3)) (hv : (Int16.ofInt n).toInt32 = v) (k : pp_ATc g R mi Z cs (pc + 3) L (.int v :: st) w) : pp_ATc g R mi Z cs pc L st w :=
  fun t C H locs ls cells slots hP hS hl a b => lv_sipush C.1 C.2.1 hd hv (k t C H locs ls cells slots hP hS hl a b)
theorem pr_lconst {n : Fin 2} {v : Int64} (hd : decode mi.by_ pc = .ok (.lconst n, 1)) (hv : Int64.ofNat (n : Nat) = v) (k : pp_ATc g R mi Z cs (pc + 1) L (.long v :: st) w) : pp_ATc g R mi Z cs pc L st w :=
  fun t C H locs ls cells slots hP hS hl a b => lv_lconst C.1 C.2.1 hd hv (k t C H locs ls cells slots hP hS hl a b)
theorem pr_ldc {i : Nat} {v : Int32} (hd : decode mi.by_ pc = .ok (.ldc i, 2)) (hc : Cond.constant mi.y.cls i v ∈ pp_T) (k : pp_ATc g R mi Z cs (pc + 2) L (.int v :: st) w) : pp_ATc g R mi Z cs pc L st w :=
  fun t C H locs ls cells slots hP hS hl a b => lv_ldc C.1 C.2.1 C.2.2.2.1 (C.2.2.2.2.1 _ hc) hd (k t C H locs ls cells slots hP hS hl a b)
theorem pr_ldcw {i : Nat} {v : Int32} (hd : decode mi.by_ pc = .ok (.ldc_w i, 3)) (hc : Cond.constant mi.y.cls i v ∈ pp_T) (k : pp_ATc g R mi Z cs (pc + 3) L (.int v :: st) w) : pp_ATc g R mi Z cs pc L st w :=
  fun t C H locs ls cells slots hP hS hl a b => lv_ldcw C.1 C.2.1 C.2.2.2.1 (C.2.2.2.2.1 _ hc) hd (k t C H locs ls cells slots hP hS hl a b)
theorem pr_ldc2 {i : Nat} {v : Int64} (hd : decode mi.by_ pc = .ok (.ldc2_w i, 3)) (hc : Cond.constantLong mi.y.cls i v ∈ pp_T) (k : pp_ATc g R mi Z cs (pc + 3) L (.long v :: st) w) : pp_ATc g R mi Z cs pc L st w :=
  fun t C H locs ls cells slots hP hS hl a b => lv_ldc2 C.1 C.2.1 C.2.2.2.1 (C.2.2.2.2.1 _ hc) hd (k t C H locs ls cells slots hP hS hl a b)
theorem pr_ldcS {i n : Nat} {tx : String} (hd : decode mi.by_ pc = .ok (.ldc i, 2)) (hc : (mi.y.cls, i, tx, n) ∈ pp_strs) (hn : n < 64) (k : pp_ATc g R mi Z cs (pc + 2) L (.ref n :: st) w) : pp_ATc g R mi Z cs pc L st w :=
  fun t C H locs ls cells slots hP hS hl a b => va_ldcS C.1 C.2.1 C.2.2.2.1 (C.2.2.2.2.2.2.2.2.2.2.1.2.1 _ hc) hd (by
    have := k t C H locs ls cells slots hP hS hl a b
    simp only [List.map_cons, pp_v, pp_ad, if_pos hn] at this
    exact this)
theorem pr_null (hd : decode mi.by_ pc = .ok (.aconst_null, 1)) (k : pp_ATc g R mi Z cs (pc + 1) L (.null :: st) w) : pp_ATc g R mi Z cs pc L st w :=
  fun t C H locs ls cells slots hP hS hl a b => lv_null C.1 C.2.1 hd (k t C H locs ls cells slots hP hS hl a b)
-- loads
theorem pr_iload {i : Nat} {x : Int32} (hd : decode mi.by_ pc = .ok (.iload i, 2)) (h : L.lookup i = some (.int x)) (k : pp_ATc g R mi Z cs (pc + 2) L (.int x :: st) w) : pp_ATc g R mi Z cs pc L st w :=
  fun t C H locs ls cells slots hP hS hl a b => lv_iload C.1 C.2.1 hd (pp_look hl h) (k t C H locs ls cells slots hP hS hl a b)
theorem pr_iload_n {n : Fin 4} {x : Int32} (hd : decode mi.by_ pc = .ok (.iload_n n, 1)) (h : L.lookup n.val = some (.int x)) (k : pp_ATc g R mi Z cs (pc + 1) L (.int x :: st) w) : pp_ATc g R mi Z cs pc L st w :=
  fun t C H locs ls cells slots hP hS hl a b => lv_iload_n C.1 C.2.1 hd rfl (pp_look hl h) (k t C H locs ls cells slots hP hS hl a b)
theorem pr_lload {i : Nat} {x : Int64} (hd : decode mi.by_ pc = .ok (.lload i, 2)) (h : L.lookup i = some (.long x)) (k : pp_ATc g R mi Z cs (pc + 2) L (.long x :: st) w) : pp_ATc g R mi Z cs pc L st w :=
  fun t C H locs ls cells slots hP hS hl a b => lv_lload C.1 C.2.1 hd (pp_look hl h) (k t C H locs ls cells slots hP hS hl a b)
theorem pr_lload_n {n : Fin 4} {x : Int64} (hd : decode mi.by_ pc = .ok (.lload_n n, 1)) (h : L.lookup n.val = some (.long x)) (k : pp_ATc g R mi Z cs (pc + 1) L (.long x :: st) w) : pp_ATc g R mi Z cs pc L st w :=
  fun t C H locs ls cells slots hP hS hl a b => lv_lload_n C.1 C.2.1 hd rfl (pp_look hl h) (k t C H locs ls cells slots hP hS hl a b)
theorem pr_aload {i : Nat} {x : Nat} (hd : decode mi.by_ pc = .ok (.aload i, 2)) (h : L.lookup i = some (.ref x)) (k : pp_ATc g R mi Z cs (pc + 2) L (.ref x :: st) w) : pp_ATc g R mi Z cs pc L st w :=
  fun t C H locs ls cells slots hP hS hl a b => lv_aload C.1 C.2.1 hd (pp_look hl h) (k t C H locs ls cells slots hP hS hl a b)
theorem pr_aload_n {n : Fin 4} {x : Nat} (hd : decode mi.by_ pc = .ok (.aload_n n, 1)) (h : L.lookup n.val = some (.ref x)) (k : pp_ATc g R mi Z cs (pc + 1) L (.ref x :: st) w) : pp_ATc g R mi Z cs pc L st w :=
  fun t C H locs ls cells slots hP hS hl a b => lv_aload_n C.1 C.2.1 hd rfl (pp_look hl h) (k t C H locs ls cells slots hP hS hl a b)
theorem pr_aloadN {i : Nat} (hd : decode mi.by_ pc = .ok (.aload i, 2)) (h : L.lookup i = some .null) (k : pp_ATc g R mi Z cs (pc + 2) L (.null :: st) w) : pp_ATc g R mi Z cs pc L st w :=
  fun t C H locs ls cells slots hP hS hl a b => lv_aloadN C.1 C.2.1 hd (pp_look hl h) (k t C H locs ls cells slots hP hS hl a b)
theorem pr_aload_nN {n : Fin 4} (hd : decode mi.by_ pc = .ok (.aload_n n, 1)) (h : L.lookup n.val = some .null) (k : pp_ATc g R mi Z cs (pc + 1) L (.null :: st) w) : pp_ATc g R mi Z cs pc L st w :=
  fun t C H locs ls cells slots hP hS hl a b => lv_aload_nN C.1 C.2.1 hd rfl (pp_look hl h) (k t C H locs ls cells slots hP hS hl a b)
-- stores
theorem pr_istore {i : Nat} {x : Int32} (hd : decode mi.by_ pc = .ok (.istore i, 2)) (hn : i < mi.nL) (k : pp_ATc g R mi Z cs (pc + 2) (pp_put1 i (.int x) L) st w) : pp_ATc g R mi Z cs pc L (.int x :: st) w :=
  fun t C H locs ls cells slots hP hS hl a b => lv_istore C.1 C.2.1 hd hl hn rfl (fun ls' hl' => k t C H locs ls' cells slots hP hS (pp_put1_has hl') a b)
theorem pr_istore_n {n : Fin 4} {x : Int32} (hd : decode mi.by_ pc = .ok (.istore_n n, 1)) (hn : n.val < mi.nL) (k : pp_ATc g R mi Z cs (pc + 1) (pp_put1 n.val (.int x) L) st w) : pp_ATc g R mi Z cs pc L (.int x :: st) w :=
  fun t C H locs ls cells slots hP hS hl a b => lv_istore_n C.1 C.2.1 hd rfl hl hn rfl (fun ls' hl' => k t C H locs ls' cells slots hP hS (pp_put1_has hl') a b)
theorem pr_lstore {i : Nat} {x : Int64} (hd : decode mi.by_ pc = .ok (.lstore i, 2)) (hn : i + 1 < mi.nL) (k : pp_ATc g R mi Z cs (pc + 2) (pp_put2 i (.long x) L) st w) : pp_ATc g R mi Z cs pc L (.long x :: st) w :=
  fun t C H locs ls cells slots hP hS hl a b => lv_lstore C.1 C.2.1 hd hl hn rfl (fun ls' hl' => k t C H locs ls' cells slots hP hS (pp_put2_has hl') a b)
theorem pr_lstore_n {n : Fin 4} {x : Int64} (hd : decode mi.by_ pc = .ok (.lstore_n n, 1)) (hn : n.val + 1 < mi.nL) (k : pp_ATc g R mi Z cs (pc + 1) (pp_put2 n.val (.long x) L) st w) : pp_ATc g R mi Z cs pc L (.long x :: st) w :=
  fun t C H locs ls cells slots hP hS hl a b => lv_lstore_n C.1 C.2.1 hd rfl hl hn rfl (fun ls' hl' => k t C H locs ls' cells slots hP hS (pp_put2_has hl') a b)
theorem pr_astore {i : Nat} {x : Nat} (hd : decode mi.by_ pc = .ok (.astore i, 2)) (hn : i < mi.nL) (k : pp_ATc g R mi Z cs (pc + 2) (pp_put1 i (.ref x) L) st w) : pp_ATc g R mi Z cs pc L (.ref x :: st) w :=
  fun t C H locs ls cells slots hP hS hl a b => lv_astore C.1 C.2.1 hd hl hn rfl (fun ls' hl' => k t C H locs ls' cells slots hP hS (pp_put1_has (v := .ref x) hl') a b)
theorem pr_astore_n {n : Fin 4} {x : Nat} (hd : decode mi.by_ pc = .ok (.astore_n n, 1)) (hn : n.val < mi.nL) (k : pp_ATc g R mi Z cs (pc + 1) (pp_put1 n.val (.ref x) L) st w) : pp_ATc g R mi Z cs pc L (.ref x :: st) w :=
  fun t C H locs ls cells slots hP hS hl a b => lv_astore_n C.1 C.2.1 hd rfl hl hn rfl (fun ls' hl' => k t C H locs ls' cells slots hP hS (pp_put1_has (v := .ref x) hl') a b)
theorem pr_astoreN {i : Nat} (hd : decode mi.by_ pc = .ok (.astore i, 2)) (hn : i < mi.nL) (k : pp_ATc g R mi Z cs (pc + 2) (pp_put1 i .null L) st w) : pp_ATc g R mi Z cs pc L (.null :: st) w :=
  fun t C H locs ls cells slots hP hS hl a b => lv_astoreN C.1 C.2.1 hd hl hn rfl (fun ls' hl' => k t C H locs ls' cells slots hP hS (pp_put1_has (v := .null) hl') a b)
theorem pr_astore_nN {n : Fin 4} (hd : decode mi.by_ pc = .ok (.astore_n n, 1)) (hn : n.val < mi.nL) (k : pp_ATc g R mi Z cs (pc + 1) (pp_put1 n.val .null L) st w) : pp_ATc g R mi Z cs pc L (.null :: st) w :=
  fun t C H locs ls cells slots hP hS hl a b => lv_astore_nN C.1 C.2.1 hd rfl hl hn rfl (fun ls' hl' => k t C H locs ls' cells slots hP hS (pp_put1_has (v := .null) hl') a b)
theorem pr_iinc {i : Nat} {n : Int} {x c : Int32} (hd : decode mi.by_ pc = .ok (.iinc i n, 3)) (h : L.lookup i = some (.int x)) (hc : Int32.ofInt n = c) (hn : i < mi.nL) (k : pp_ATc g R mi Z cs (pc + 3) (pp_put1 i (.int (x + c)) L) st w) : pp_ATc g R mi Z cs pc L st w :=
  fun t C H locs ls cells slots hP hS hl a b => lv_iinc (lv := (i, .int x) :: pp_ls g L) (k := 0) C.1 C.2.1 hd ⟨hl.1, hl.2.1, fun q hq => by
    rcases List.mem_cons.mp hq with rfl | hq
    · exact pp_look hl h
    · exact hl.2.2 q hq⟩ rfl (by rw [hc]) hn rfl (fun ls' hl' => k t C H locs ls' cells slots hP hS (pp_put1_has (v := .int (x + c)) ⟨hl'.1, hl'.2.1, fun q hq => hl'.2.2 q (by
      rcases List.mem_cons.mp hq with rfl | hq
      · exact List.mem_cons_self
      · refine List.mem_cons_of_mem _ ?_
        obtain ⟨q1, q2⟩ := List.mem_filter.mp hq
        exact List.mem_filter.mpr ⟨List.mem_cons_of_mem _ q1, q2⟩)⟩) a b)
-- arithmetic
theorem pr_iadd {x y : Int32} (hd : decode mi.by_ pc = .ok (.iadd, 1)) (k : pp_ATc g R mi Z cs (pc + 1) L (.int (x + y) :: st) w) : pp_ATc g R mi Z cs pc L (.int y :: .int x :: st) w :=
  fun t C H locs ls cells slots hP hS hl a b => lv_iadd C.1 C.2.1 hd (k t C H locs ls cells slots hP hS hl a b)
theorem pr_isub {x y : Int32} (hd : decode mi.by_ pc = .ok (.isub, 1)) (k : pp_ATc g R mi Z cs (pc + 1) L (.int (x - y) :: st) w) : pp_ATc g R mi Z cs pc L (.int y :: .int x :: st) w :=
  fun t C H locs ls cells slots hP hS hl a b => lv_isub C.1 C.2.1 hd (k t C H locs ls cells slots hP hS hl a b)
theorem pr_imul {x y : Int32} (hd : decode mi.by_ pc = .ok (.imul, 1)) (k : pp_ATc g R mi Z cs (pc + 1) L (.int (x * y) :: st) w) : pp_ATc g R mi Z cs pc L (.int y :: .int x :: st) w :=
  fun t C H locs ls cells slots hP hS hl a b => lv_imul C.1 C.2.1 hd (k t C H locs ls cells slots hP hS hl a b)
theorem pr_iand {x y : Int32} (hd : decode mi.by_ pc = .ok (.iand, 1)) (k : pp_ATc g R mi Z cs (pc + 1) L (.int (x &&& y) :: st) w) : pp_ATc g R mi Z cs pc L (.int y :: .int x :: st) w :=
  fun t C H locs ls cells slots hP hS hl a b => lv_iand C.1 C.2.1 hd (k t C H locs ls cells slots hP hS hl a b)
theorem pr_ior {x y : Int32} (hd : decode mi.by_ pc = .ok (.ior, 1)) (k : pp_ATc g R mi Z cs (pc + 1) L (.int (x ||| y) :: st) w) : pp_ATc g R mi Z cs pc L (.int y :: .int x :: st) w :=
  fun t C H locs ls cells slots hP hS hl a b => lv_ior C.1 C.2.1 hd (k t C H locs ls cells slots hP hS hl a b)
theorem pr_ixor {x y : Int32} (hd : decode mi.by_ pc = .ok (.ixor, 1)) (k : pp_ATc g R mi Z cs (pc + 1) L (.int (x ^^^ y) :: st) w) : pp_ATc g R mi Z cs pc L (.int y :: .int x :: st) w :=
  fun t C H locs ls cells slots hP hS hl a b => lv_ixor C.1 C.2.1 hd (k t C H locs ls cells slots hP hS hl a b)
theorem pr_ishl {x y : Int32} (hd : decode mi.by_ pc = .ok (.ishl, 1)) (k : pp_ATc g R mi Z cs (pc + 1) L (.int (x <<< (y &&& 31)) :: st) w) : pp_ATc g R mi Z cs pc L (.int y :: .int x :: st) w :=
  fun t C H locs ls cells slots hP hS hl a b => lv_ishl C.1 C.2.1 hd (k t C H locs ls cells slots hP hS hl a b)
theorem pr_ishr {x y : Int32} (hd : decode mi.by_ pc = .ok (.ishr, 1)) (k : pp_ATc g R mi Z cs (pc + 1) L (.int (x >>> (y &&& 31)) :: st) w) : pp_ATc g R mi Z cs pc L (.int y :: .int x :: st) w :=
  fun t C H locs ls cells slots hP hS hl a b => lv_ishr C.1 C.2.1 hd (k t C H locs ls cells slots hP hS hl a b)
theorem pr_iushr {x y : Int32} (hd : decode mi.by_ pc = .ok (.iushr, 1)) (k : pp_ATc g R mi Z cs (pc + 1) L (.int (x.toUInt32 >>> (y.toUInt32 &&& Int32.toUInt32 31)).toInt32 :: st) w) : pp_ATc g R mi Z cs pc L (.int y :: .int x :: st) w :=
  fun t C H locs ls cells slots hP hS hl a b => lv_iushr C.1 C.2.1 hd rfl (k t C H locs ls cells slots hP hS hl a b)
theorem pr_idiv {x y : Int32} (hd : decode mi.by_ pc = .ok (.idiv, 1)) (hy : ¬ y = 0) (k : pp_ATc g R mi Z cs (pc + 1) L (.int (x / y) :: st) w) : pp_ATc g R mi Z cs pc L (.int y :: .int x :: st) w :=
  fun t C H locs ls cells slots hP hS hl a b => lv_idiv C.1 C.2.1 hd hy (k t C H locs ls cells slots hP hS hl a b)
theorem pr_ladd {x y : Int64} (hd : decode mi.by_ pc = .ok (.ladd, 1)) (k : pp_ATc g R mi Z cs (pc + 1) L (.long (x + y) :: st) w) : pp_ATc g R mi Z cs pc L (.long y :: .long x :: st) w :=
  fun t C H locs ls cells slots hP hS hl a b => lv_ladd C.1 C.2.1 hd (k t C H locs ls cells slots hP hS hl a b)
theorem pr_lsub {x y : Int64} (hd : decode mi.by_ pc = .ok (.lsub, 1)) (k : pp_ATc g R mi Z cs (pc + 1) L (.long (x - y) :: st) w) : pp_ATc g R mi Z cs pc L (.long y :: .long x :: st) w :=
  fun t C H locs ls cells slots hP hS hl a b => lv_lsub C.1 C.2.1 hd (k t C H locs ls cells slots hP hS hl a b)
theorem pr_lmul {x y : Int64} (hd : decode mi.by_ pc = .ok (.lmul, 1)) (k : pp_ATc g R mi Z cs (pc + 1) L (.long (x * y) :: st) w) : pp_ATc g R mi Z cs pc L (.long y :: .long x :: st) w :=
  fun t C H locs ls cells slots hP hS hl a b => lv_lmul C.1 C.2.1 hd (k t C H locs ls cells slots hP hS hl a b)
theorem pr_land {x y : Int64} (hd : decode mi.by_ pc = .ok (.land, 1)) (k : pp_ATc g R mi Z cs (pc + 1) L (.long (x &&& y) :: st) w) : pp_ATc g R mi Z cs pc L (.long y :: .long x :: st) w :=
  fun t C H locs ls cells slots hP hS hl a b => lv_land C.1 C.2.1 hd (k t C H locs ls cells slots hP hS hl a b)
theorem pr_lor {x y : Int64} (hd : decode mi.by_ pc = .ok (.lor, 1)) (k : pp_ATc g R mi Z cs (pc + 1) L (.long (x ||| y) :: st) w) : pp_ATc g R mi Z cs pc L (.long y :: .long x :: st) w :=
  fun t C H locs ls cells slots hP hS hl a b => lv_lor C.1 C.2.1 hd (k t C H locs ls cells slots hP hS hl a b)
theorem pr_lxor {x y : Int64} (hd : decode mi.by_ pc = .ok (.lxor, 1)) (k : pp_ATc g R mi Z cs (pc + 1) L (.long (x ^^^ y) :: st) w) : pp_ATc g R mi Z cs pc L (.long y :: .long x :: st) w :=
  fun t C H locs ls cells slots hP hS hl a b => lv_lxor C.1 C.2.1 hd (k t C H locs ls cells slots hP hS hl a b)
theorem pr_ldiv {x y : Int64} (hd : decode mi.by_ pc = .ok (.ldiv, 1)) (hy : ¬ y = 0) (k : pp_ATc g R mi Z cs (pc + 1) L (.long (x / y) :: st) w) : pp_ATc g R mi Z cs pc L (.long y :: .long x :: st) w :=
  fun t C H locs ls cells slots hP hS hl a b => lv_ldiv C.1 C.2.1 hd hy (k t C H locs ls cells slots hP hS hl a b)
theorem pr_lrem {x y : Int64} (hd : decode mi.by_ pc = .ok (.lrem, 1)) (hy : ¬ y = 0) (k : pp_ATc g R mi Z cs (pc + 1) L (.long (x - x / y * y) :: st) w) : pp_ATc g R mi Z cs pc L (.long y :: .long x :: st) w :=
  fun t C H locs ls cells slots hP hS hl a b => lv_lrem C.1 C.2.1 hd hy (k t C H locs ls cells slots hP hS hl a b)
theorem pr_lcmp {x y : Int64} (hd : decode mi.by_ pc = .ok (.lcmp, 1)) (k : pp_ATc g R mi Z cs (pc + 1) L (.int (lg_cmp x y) :: st) w) : pp_ATc g R mi Z cs pc L (.long y :: .long x :: st) w :=
  fun t C H locs ls cells slots hP hS hl a b => W.lcmp C.1 C.2.1 hd (k t C H locs ls cells slots hP hS hl a b)
theorem pr_lshl {x : Int64} {y : Int32} (hd : decode mi.by_ pc = .ok (.lshl, 1)) (k : pp_ATc g R mi Z cs (pc + 1) L (.long (x <<< (y.toInt64 &&& 63)) :: st) w) : pp_ATc g R mi Z cs pc L (.int y :: .long x :: st) w :=
  fun t C H locs ls cells slots hP hS hl a b => lv_lshl C.1 C.2.1 hd rfl (k t C H locs ls cells slots hP hS hl a b)
theorem pr_i2l {x : Int32} (hd : decode mi.by_ pc = .ok (.i2l, 1)) (k : pp_ATc g R mi Z cs (pc + 1) L (.long x.toInt64 :: st) w) : pp_ATc g R mi Z cs pc L (.int x :: st) w :=
  fun t C H locs ls cells slots hP hS hl a b => lv_i2l C.1 C.2.1 hd rfl (k t C H locs ls cells slots hP hS hl a b)
theorem pr_i2b {x : Int32} (hd : decode mi.by_ pc = .ok (.i2b, 1)) (k : pp_ATc g R mi Z cs (pc + 1) L (.int x.toInt8.toInt32 :: st) w) : pp_ATc g R mi Z cs pc L (.int x :: st) w :=
  fun t C H locs ls cells slots hP hS hl a b => lv_i2b C.1 C.2.1 hd rfl (k t C H locs ls cells slots hP hS hl a b)
theorem pr_l2i {x : Int64} (hd : decode mi.by_ pc = .ok (.l2i, 1)) (k : pp_ATc g R mi Z cs (pc + 1) L (.int x.toInt32 :: st) w) : pp_ATc g R mi Z cs pc L (.long x :: st) w :=
  fun t C H locs ls cells slots hP hS hl a b => lv_l2i C.1 C.2.1 hd rfl (k t C H locs ls cells slots hP hS hl a b)
-- the stack
theorem pr_dup {v : Value} (hd : decode mi.by_ pc = .ok (.dup, 1)) (hv : v.category = 1) (k : pp_ATc g R mi Z cs (pc + 1) L (v :: v :: st) w) : pp_ATc g R mi Z cs pc L (v :: st) w :=
  fun t C H locs ls cells slots hP hS hl a b => lv_dup C.1 C.2.1 hd ((pp_v_cat g v).trans hv) (k t C H locs ls cells slots hP hS hl a b)
theorem pr_pop {v : Value} (hd : decode mi.by_ pc = .ok (.pop, 1)) (hv : v.category = 1) (k : pp_ATc g R mi Z cs (pc + 1) L (st) w) : pp_ATc g R mi Z cs pc L (v :: st) w :=
  fun t C H locs ls cells slots hP hS hl a b => lv_pop C.1 C.2.1 hd ((pp_v_cat g v).trans hv) (k t C H locs ls cells slots hP hS hl a b)
theorem pr_pop2 {v : Value} (hd : decode mi.by_ pc = .ok (.pop2, 1)) (hv : v.category = 2) (k : pp_ATc g R mi Z cs (pc + 1) L (st) w) : pp_ATc g R mi Z cs pc L (v :: st) w :=
  fun t C H locs ls cells slots hP hS hl a b => lv_pop2_2 C.1 C.2.1 hd ((pp_v_cat g v).trans hv) (k t C H locs ls cells slots hP hS hl a b)
theorem pr_dup2 {v u : Value} (hd : decode mi.by_ pc = .ok (.dup2, 1)) (hv : v.category = 1) (hu : u.category = 1) (k : pp_ATc g R mi Z cs (pc + 1) L (v :: u :: v :: u :: st) w) : pp_ATc g R mi Z cs pc L (v :: u :: st) w :=
  fun t C H locs ls cells slots hP hS hl a b => lv_dup2_11 C.1 C.2.1 hd ((pp_v_cat g v).trans hv) ((pp_v_cat g u).trans hu) (k t C H locs ls cells slots hP hS hl a b)
-- branches
theorem pr_if_eq {x : Int32} {off : Int} {tgt : Nat} (hd : decode mi.by_ pc = .ok (.ifCond .eq off, 3)) (ht : (pc : Int) + off = (tgt : Int)) (k1 : x = 0 → pp_ATc g R mi Z cs tgt L st w) (k2 : ¬ x = 0 → pp_ATc g R mi Z cs (pc + 3) L st w) : pp_ATc g R mi Z cs pc L (.int x :: st) w :=
  fun t C H locs ls cells slots hP hS hl a b => lv_if_eq C.1 C.2.1 hd ht (fun q => k1 q t C H locs ls cells slots hP hS hl a b) (fun q => k2 q t C H locs ls cells slots hP hS hl a b)
theorem pr_icmp_eq {x y : Int32} {off : Int} {tgt : Nat} (hd : decode mi.by_ pc = .ok (.if_icmp .eq off, 3)) (ht : (pc : Int) + off = (tgt : Int)) (k1 : x = y → pp_ATc g R mi Z cs tgt L st w) (k2 : ¬ x = y → pp_ATc g R mi Z cs (pc + 3) L st w) : pp_ATc g R mi Z cs pc L (.int y :: .int x :: st) w :=
  fun t C H locs ls cells slots hP hS hl a b => lv_icmp_eq C.1 C.2.1 hd ht (fun q => k1 q t C H locs ls cells slots hP hS hl a b) (fun q => k2 q t C H locs ls cells slots hP hS hl a b)
theorem pr_if_ne {x : Int32} {off : Int} {tgt : Nat} (hd : decode mi.by_ pc = .ok (.ifCond .ne off, 3)) (ht : (pc : Int) + off = (tgt : Int)) (k1 : ¬ x = 0 → pp_ATc g R mi Z cs tgt L st w) (k2 : x = 0 → pp_ATc g R mi Z cs (pc + 3) L st w) : pp_ATc g R mi Z cs pc L (.int x :: st) w :=
  fun t C H locs ls cells slots hP hS hl a b => lv_if_ne C.1 C.2.1 hd ht (fun q => k1 q t C H locs ls cells slots hP hS hl a b) (fun q => k2 q t C H locs ls cells slots hP hS hl a b)
theorem pr_icmp_ne {x y : Int32} {off : Int} {tgt : Nat} (hd : decode mi.by_ pc = .ok (.if_icmp .ne off, 3)) (ht : (pc : Int) + off = (tgt : Int)) (k1 : ¬ x = y → pp_ATc g R mi Z cs tgt L st w) (k2 : x = y → pp_ATc g R mi Z cs (pc + 3) L st w) : pp_ATc g R mi Z cs pc L (.int y :: .int x :: st) w :=
  fun t C H locs ls cells slots hP hS hl a b => lv_icmp_ne C.1 C.2.1 hd ht (fun q => k1 q t C H locs ls cells slots hP hS hl a b) (fun q => k2 q t C H locs ls cells slots hP hS hl a b)
theorem pr_if_lt {x : Int32} {off : Int} {tgt : Nat} (hd : decode mi.by_ pc = .ok (.ifCond .lt off, 3)) (ht : (pc : Int) + off = (tgt : Int)) (k1 : x < 0 → pp_ATc g R mi Z cs tgt L st w) (k2 : ¬ x < 0 → pp_ATc g R mi Z cs (pc + 3) L st w) : pp_ATc g R mi Z cs pc L (.int x :: st) w :=
  fun t C H locs ls cells slots hP hS hl a b => lv_if_lt C.1 C.2.1 hd ht (fun q => k1 q t C H locs ls cells slots hP hS hl a b) (fun q => k2 q t C H locs ls cells slots hP hS hl a b)
theorem pr_icmp_lt {x y : Int32} {off : Int} {tgt : Nat} (hd : decode mi.by_ pc = .ok (.if_icmp .lt off, 3)) (ht : (pc : Int) + off = (tgt : Int)) (k1 : x < y → pp_ATc g R mi Z cs tgt L st w) (k2 : ¬ x < y → pp_ATc g R mi Z cs (pc + 3) L st w) : pp_ATc g R mi Z cs pc L (.int y :: .int x :: st) w :=
  fun t C H locs ls cells slots hP hS hl a b => lv_icmp_lt C.1 C.2.1 hd ht (fun q => k1 q t C H locs ls cells slots hP hS hl a b) (fun q => k2 q t C H locs ls cells slots hP hS hl a b)
theorem pr_if_ge {x : Int32} {off : Int} {tgt : Nat} (hd : decode mi.by_ pc = .ok (.ifCond .ge off, 3)) (ht : (pc : Int) + off = (tgt : Int)) (k1 : 0 ≤ x → pp_ATc g R mi Z cs tgt L st w) (k2 : ¬ 0 ≤ x → pp_ATc g R mi Z cs (pc + 3) L st w) : pp_ATc g R mi Z cs pc L (.int x :: st) w :=
  fun t C H locs ls cells slots hP hS hl a b => lv_if_ge C.1 C.2.1 hd ht (fun q => k1 q t C H locs ls cells slots hP hS hl a b) (fun q => k2 q t C H locs ls cells slots hP hS hl a b)
theorem pr_icmp_ge {x y : Int32} {off : Int} {tgt : Nat} (hd : decode mi.by_ pc = .ok (.if_icmp .ge off, 3)) (ht : (pc : Int) + off = (tgt : Int)) (k1 : y ≤ x → pp_ATc g R mi Z cs tgt L st w) (k2 : ¬ y ≤ x → pp_ATc g R mi Z cs (pc + 3) L st w) : pp_ATc g R mi Z cs pc L (.int y :: .int x :: st) w :=
  fun t C H locs ls cells slots hP hS hl a b => lv_icmp_ge C.1 C.2.1 hd ht (fun q => k1 q t C H locs ls cells slots hP hS hl a b) (fun q => k2 q t C H locs ls cells slots hP hS hl a b)
theorem pr_if_gt {x : Int32} {off : Int} {tgt : Nat} (hd : decode mi.by_ pc = .ok (.ifCond .gt off, 3)) (ht : (pc : Int) + off = (tgt : Int)) (k1 : 0 < x → pp_ATc g R mi Z cs tgt L st w) (k2 : ¬ 0 < x → pp_ATc g R mi Z cs (pc + 3) L st w) : pp_ATc g R mi Z cs pc L (.int x :: st) w :=
  fun t C H locs ls cells slots hP hS hl a b => lv_if_gt C.1 C.2.1 hd ht (fun q => k1 q t C H locs ls cells slots hP hS hl a b) (fun q => k2 q t C H locs ls cells slots hP hS hl a b)
theorem pr_icmp_gt {x y : Int32} {off : Int} {tgt : Nat} (hd : decode mi.by_ pc = .ok (.if_icmp .gt off, 3)) (ht : (pc : Int) + off = (tgt : Int)) (k1 : y < x → pp_ATc g R mi Z cs tgt L st w) (k2 : ¬ y < x → pp_ATc g R mi Z cs (pc + 3) L st w) : pp_ATc g R mi Z cs pc L (.int y :: .int x :: st) w :=
  fun t C H locs ls cells slots hP hS hl a b => lv_icmp_gt C.1 C.2.1 hd ht (fun q => k1 q t C H locs ls cells slots hP hS hl a b) (fun q => k2 q t C H locs ls cells slots hP hS hl a b)
theorem pr_if_le {x : Int32} {off : Int} {tgt : Nat} (hd : decode mi.by_ pc = .ok (.ifCond .le off, 3)) (ht : (pc : Int) + off = (tgt : Int)) (k1 : x ≤ 0 → pp_ATc g R mi Z cs tgt L st w) (k2 : ¬ x ≤ 0 → pp_ATc g R mi Z cs (pc + 3) L st w) : pp_ATc g R mi Z cs pc L (.int x :: st) w :=
  fun t C H locs ls cells slots hP hS hl a b => lv_if_le C.1 C.2.1 hd ht (fun q => k1 q t C H locs ls cells slots hP hS hl a b) (fun q => k2 q t C H locs ls cells slots hP hS hl a b)
theorem pr_icmp_le {x y : Int32} {off : Int} {tgt : Nat} (hd : decode mi.by_ pc = .ok (.if_icmp .le off, 3)) (ht : (pc : Int) + off = (tgt : Int)) (k1 : x ≤ y → pp_ATc g R mi Z cs tgt L st w) (k2 : ¬ x ≤ y → pp_ATc g R mi Z cs (pc + 3) L st w) : pp_ATc g R mi Z cs pc L (.int y :: .int x :: st) w :=
  fun t C H locs ls cells slots hP hS hl a b => lv_icmp_le C.1 C.2.1 hd ht (fun q => k1 q t C H locs ls cells slots hP hS hl a b) (fun q => k2 q t C H locs ls cells slots hP hS hl a b)
theorem pr_goto {off : Int} {tgt : Nat} (hd : decode mi.by_ pc = .ok (.goto off, 3)) (ht : (pc : Int) + off = (tgt : Int)) (k : pp_ATc g R mi Z cs tgt L st w) : pp_ATc g R mi Z cs pc L st w :=
  fun t C H locs ls cells slots hP hS hl a b => lv_goto C.1 C.2.1 hd ht (k t C H locs ls cells slots hP hS hl a b)
theorem pr_ifnull {x : Nat} {off : Int} (hd : decode mi.by_ pc = .ok (.ifnull off, 3)) (k : pp_ATc g R mi Z cs (pc + 3) L st w) : pp_ATc g R mi Z cs pc L (.ref x :: st) w :=
  fun t C H locs ls cells slots hP hS hl a b => lv_ifnull C.1 C.2.1 hd (k t C H locs ls cells slots hP hS hl a b)
theorem pr_ifnullN {off : Int} {tgt : Nat} (hd : decode mi.by_ pc = .ok (.ifnull off, 3)) (ht : (pc : Int) + off = (tgt : Int)) (k : pp_ATc g R mi Z cs tgt L st w) : pp_ATc g R mi Z cs pc L (.null :: st) w :=
  fun t C H locs ls cells slots hP hS hl a b => lv_ifnullN C.1 C.2.1 hd ht (k t C H locs ls cells slots hP hS hl a b)
theorem pr_ifnonnull {x : Nat} {off : Int} {tgt : Nat} (hd : decode mi.by_ pc = .ok (.ifnonnull off, 3)) (ht : (pc : Int) + off = (tgt : Int)) (k : pp_ATc g R mi Z cs tgt L st w) : pp_ATc g R mi Z cs pc L (.ref x :: st) w :=
  fun t C H locs ls cells slots hP hS hl a b => lv_ifnonnull C.1 C.2.1 hd ht (k t C H locs ls cells slots hP hS hl a b)
theorem pr_ifnonnullN {off : Int} (hd : decode mi.by_ pc = .ok (.ifnonnull off, 3)) (k : pp_ATc g R mi Z cs (pc + 3) L st w) : pp_ATc g R mi Z cs pc L (.null :: st) w :=
  fun t C H locs ls cells slots hP hS hl a b => lv_ifnonnullN C.1 C.2.1 hd (k t C H locs ls cells slots hP hS hl a b)
theorem pr_tableOut {dflt lo hi : Int} {offs : Array Int} {len : Nat} {x : Int32} {tgt : Nat} (hd : decode mi.by_ pc = .ok (.tableswitch dflt lo hi offs, len)) (h : x.toInt < lo ∨ hi < x.toInt) (ht : (pc : Int) + dflt = (tgt : Int)) (k : pp_ATc g R mi Z cs tgt L st w) : pp_ATc g R mi Z cs pc L (.int x :: st) w :=
  fun t C H locs ls cells slots hP hS hl a b => lv_tableOut C.1 C.2.1 hd h ht (k t C H locs ls cells slots hP hS hl a b)
theorem pr_tableIn {dflt lo hi : Int} {offs : Array Int} {len : Nat} {x : Int32} {off : Int} {tgt : Nat} (hd : decode mi.by_ pc = .ok (.tableswitch dflt lo hi offs, len)) (h1 : ¬ x.toInt < lo) (h2 : ¬ hi < x.toInt) (ho : offs[(x.toInt - lo).toNat]? = some off) (ht : (pc : Int) + off = (tgt : Int)) (k : pp_ATc g R mi Z cs tgt L st w) : pp_ATc g R mi Z cs pc L (.int x :: st) w :=
  fun t C H locs ls cells slots hP hS hl a b => lv_tableIn C.1 C.2.1 hd h1 h2 ho ht (k t C H locs ls cells slots hP hS hl a b)
end Rows
end
section
/-! THE ENGINE, 4: rows that look at the heap -/
def pp_ty (ci : Nat) : Nat → FieldType := match ci with
  | 0 => tyX0
  | 1 => tyX1
  | 2 => tyX2
  | 3 => tyX3
  | 4 => tyX4
  | 5 => tyX5
  | 6 => tyX6
  | 7 => tyX7
  | 8 => tyX8
  | _ => tyX9
theorem pp_sub {ws : List Cond} (h : ws.all (fun w => decide (w ∈ lw_tbl) && pp_ok w) = true) : ∀ w ∈ ws, w ∈ pp_T := fun w hw => by
  have := List.all_eq_true.mp h w hw
  simp only [Bool.and_eq_true, decide_eq_true_eq] at this
  exact List.mem_filter.mpr this
theorem pp_in0 : ∀ w ∈ u_ws RX0 TX0 2, w ∈ pp_T := pp_sub (by decide +kernel)
theorem pp_in1 : ∀ w ∈ u_ws RX1 TX1 5, w ∈ pp_T := pp_sub (by decide +kernel)
theorem pp_in2 : ∀ w ∈ u_ws RX2 TX2 3, w ∈ pp_T := pp_sub (by decide +kernel)
theorem pp_in3 : ∀ w ∈ u_ws RX3 TX3 3, w ∈ pp_T := pp_sub (by decide +kernel)
theorem pp_in4 : ∀ w ∈ u_ws RX4 TX4 19, w ∈ pp_T := pp_sub (by decide +kernel)
theorem pp_in5 : ∀ w ∈ u_ws RX5 TX5 7, w ∈ pp_T := pp_sub (by decide +kernel)
theorem pp_in6 : ∀ w ∈ u_ws RX6 TX6 16, w ∈ pp_T := pp_sub (by decide +kernel)
theorem pp_in7 : ∀ w ∈ u_ws RX7 TX7 6, w ∈ pp_T := pp_sub (by decide +kernel)
theorem pp_in8 : ∀ w ∈ u_ws RX8 TX8 10, w ∈ pp_T := pp_sub (by decide +kernel)
theorem pp_in9 : ∀ w ∈ u_ws RX9 TX9 31, w ∈ pp_T := pp_sub (by decide +kernel)
theorem pp_made : ∀ w ∈ pp_cl.flatMap (fun r => [Cond.instantiable r.1 r.2.2, Cond.initialized r.1]), w ∈ pp_T := pp_sub (by decide +kernel)
theorem pp_clOK {ci : Nat} {r : vw_C} (h : pp_cl[ci]? = some r) : ci < 10 ∧ (∀ w ∈ u_ws r.1 r.2.1 r.2.2, w ∈ pp_T) ∧ (∀ k, k < r.2.2 → parseFieldDescriptor (r.2.1 k).2.2.1 = some (pp_ty ci k)) ∧ (∀ a, a < r.2.2 → ∀ b, b < r.2.2 → a ≠ b → (r.2.1 a).2.1 ≠ (r.2.1 b).2.1) := by
  match ci, h with
  | 0, h => cases h; exact ⟨by decide, pp_in0, tyX0_ok, nmX0⟩
  | 1, h => cases h; exact ⟨by decide, pp_in1, tyX1_ok, nmX1⟩
  | 2, h => cases h; exact ⟨by decide, pp_in2, tyX2_ok, nmX2⟩
  | 3, h => cases h; exact ⟨by decide, pp_in3, tyX3_ok, nmX3⟩
  | 4, h => cases h; exact ⟨by decide, pp_in4, tyX4_ok, nmX4⟩
  | 5, h => cases h; exact ⟨by decide, pp_in5, tyX5_ok, nmX5⟩
  | 6, h => cases h; exact ⟨by decide, pp_in6, tyX6_ok, nmX6⟩
  | 7, h => cases h; exact ⟨by decide, pp_in7, tyX7_ok, nmX7⟩
  | 8, h => cases h; exact ⟨by decide, pp_in8, tyX8_ok, nmX8⟩
  | 9, h => cases h; exact ⟨by decide, pp_in9, tyX9_ok, nmX9⟩
  | n + 10, h => simp at h
section Heap
variable {g : pp_G} {R : Room} {mi : pp_MI} {Z : pp_CT → State → Prop} {cs : Nat × Nat} {pc : Nat} {L : List (Nat × Value)} {st : List Value} {w : pp_W}
theorem pr_get {ci k idx a : Nat} {r : vw_C} {v : Value} (hd : decode mi.by_ pc = .ok (.getfield idx, 3)) (hr : pp_cl[ci]? = some r) (hk : k < r.2.2) (hlk : Cond.fieldLink mi.y.cls idx (r.2.1 k).1 (r.2.1 k).2.1 (r.2.1 k).2.2.1 ∈ pp_T) (ha : w.1[a]? = some (ci, 0)) (hv : pp_v g v = pp_fv g w.2 a (pp_fk ci k) k)
    (kk : pp_ATc g R mi Z cs (pc + 3) L (v :: st) w) : pp_ATc g R mi Z cs pc L (.ref a :: st) w := by
  intro t C H locs ls cells slots hP hS hl h1 h2
  have kw := kk t C H locs ls cells slots hP hS hl h1 h2
  obtain ⟨hc10, hin, hty, hnm⟩ := pp_clOK hr
  obtain ⟨hx, hb, hml, hown, hts, hret, hlocks, hname, htab, hK, hE, hb0, htr⟩ := C
  obtain ⟨r', e1, cell, q1, q2, q3, q4⟩ := (pp_at.o hc10).mp (hP.2.2.2 a _ ha)
  cases Option.some.inj (e1.symm.trans hr)
  obtain ⟨hSl, hfc, kC, hkC, hkind⟩ := hK.1 ci _ hr
  obtain ⟨cf, kf, fi, f, hi, hsl⟩ := hSl k hk
  refine W.getf hx hb hown (hts _ hlk) hi (u_facts hfc hkC (u_lays hts hin hk) hi).1 q1 (by rw [q3]; exact fun h => by cases h) (v := pp_v g v) ?_ rfl rfl hd kw
  rw [hsl, q4 k hk, hv]
theorem pp_at_put {m m' : pp_M} {a ci k : Nat} {H' : Heap} {r : vw_C} {cell : Cell} {v : Value} (hr : pp_cl[ci]? = some r) (hc10 : ci < 10) (hk : k < r.2.2) (q2 : cell.cls = (pp_D g).1 ci) (q3 : cell.vm = .none) (q4 : ∀ j, j < r.2.2 → cell.slots[(pp_D g).2 ci j]? = some (pp_fv g m a (pp_fk ci j) j)) (hap : ∀ x y, x < r.2.2 → y < r.2.2 → x ≠ y → (pp_D g).2 ci x ≠ (pp_D g).2 ci y)
    (e1 : H'[pp_ad g a]? = some (cell.setSlot ((pp_D g).2 ci k) v)) (hv : v = pp_fv g m' a (pp_fk ci k) k) (ho : ∀ j, j ≠ k → pp_fv g m' a (pp_fk ci j) j = pp_fv g m a (pp_fk ci j) j) : pp_at g m' a (ci, 0) H' := by
  refine (pp_at.o hc10).mpr ⟨r, hr, t_OB.to (V := updV (fun j => pp_fv g m a (pp_fk ci j) j) k v) ⟨_, e1, q2, q3, t_set q4 hap hk v⟩ (fun j _ => ?_)⟩
  by_cases e : j = k
  · subst e
    simp [updV, hv]
  · simp only [updV, if_neg e]
    exact (ho j e).symm
theorem pr_put {ci k idx a : Nat} {r : vw_C} {v : Value} {m' : pp_M} (hd : decode mi.by_ pc = .ok (.putfield idx, 3)) (hr : pp_cl[ci]? = some r) (hk : k < r.2.2) (hlk : Cond.fieldLink mi.y.cls idx (r.2.1 k).1 (r.2.1 k).2.1 (r.2.1 k).2.2.1 ∈ pp_T) (hfin : (r.2.1 k).2.2.2 = false ∨ ((r.2.1 k).2.2.2 = true ∧ mi.y.name = "<init>" ∧ (r.2.1 k).1 = mi.y.cls))
    (hn : narrow (pp_ty ci k) (pp_v g v) = pp_v g v) (hfit : fits (pp_ty ci k) (pp_v g v) = true) (ha : w.1[a]? = some (ci, 0))
    (m1 : ∀ i, i ≠ a → m'.1 i = w.2.1 i) (m2 : ∀ i, i ≠ a → m'.2.1 i = w.2.2.1 i) (m3 : ∀ i, i ≠ a → m'.2.2 i = w.2.2.2 i) (hv : pp_v g v = pp_fv g m' a (pp_fk ci k) k) (ho : ∀ j, j ≠ k → pp_fv g m' a (pp_fk ci j) j = pp_fv g w.2 a (pp_fk ci j) j)
    (kk : pp_ATc g R mi Z cs (pc + 3) L st (w.1, m')) : pp_ATc g R mi Z cs pc L (v :: .ref a :: st) w := by
  intro t C H locs ls cells slots hP hS hl h1 h2
  have kw := kk t C
  obtain ⟨hc10, hin, hty, hnm⟩ := pp_clOK hr
  obtain ⟨hx, hb, hml, hown, hts, hret, hlocks, hname, htab, hK, hE, hb0, htr⟩ := C
  have hap := va_apart (own := mi.y.cls) hts hin (pp_ty ci) hty hnm hK hr
  have h15 : ((ci, 0) : Nat × Nat).1 ≠ 15 := by show ci ≠ 15; omega
  obtain ⟨r', e1, cell, q1, q2, q3, q4⟩ := (pp_at.o hc10).mp (hP.2.2.2 a _ ha)
  cases Option.some.inj (e1.symm.trans hr)
  obtain ⟨hSl, hfc, kC, hkC, hkind⟩ := hK.1 ci _ hr
  obtain ⟨cf, kf, fi, f, hi, hsl⟩ := hSl k hk
  have hlay := hts _ (hin _ (u_in_lay hk))
  have hst := (u_facts hfc hkC (u_lays hts hin hk) hi).1
  unfold u_lay at hlay
  rcases hfin with hfin | ⟨hfin, hin2, hdecl⟩
  · rw [if_neg (by rw [hfin]; decide)] at hlay
    have h6 := u_store hfc hkC hkind hlay hi (hty k hk) hn hfit
    refine W.putK hx hb (f := f) ⟨hown, hts _ hlk, ⟨_, _, _, hi⟩, hst⟩ (by rw [q2]; exact h6) q1 q3 (by rw [hsl]; exact k2_hasslot (q4 k hk)) rfl rfl hd fun H' e1 e2 e3 => ?_
    rw [hsl] at e1
    exact kw H' _ ls cells slots (hP.store ha h15 m1 m2 m3 e2 e3 (pp_at_put hr hc10 hk q2 q3 q4 hap e1 hv ho)) (hS.put e2 e3 (hP.Aa ha h15)) hl h1 h2
  · rw [if_pos hfin] at hlay
    have hcf : t.m.cls = cf := by
      obtain ⟨_, _, c', _, _, _, -, -, hf', -, -, -, hown2, -⟩ := Cond.laysFinal_spec hlay
      have e1 : c' = cf := by have := hi.symm.trans hf'; simp at this; exact this.1.symm
      rw [hdecl] at hown2
      rw [← e1]; exact Option.some.inj (hown.symm.trans hown2)
    have h6 := u_fits hfc hkC hkind (Or.inr hlay) hi (hty k hk) hn hfit
    refine W.putFinK hx hb hown (hts _ hlk) hi hst hcf (hname.trans hin2) (by rw [q2]; exact h6) q1 q3 (by rw [hsl]; exact k2_hasslot (q4 k hk)) rfl rfl hd fun H' e1 e2 e3 => ?_
    rw [hsl] at e1
    exact kw H' _ ls cells slots (hP.store ha h15 m1 m2 m3 e2 e3 (pp_at_put hr hc10 hk q2 q3 q4 hap e1 hv ho)) (hS.put e2 e3 (hP.Aa ha h15)) hl h1 h2
-- arrays: looking
theorem pr_iald {a n : Nat} {j : Int32} (hd : decode mi.by_ pc = .ok (.iaload, 1)) (ha : w.1[a]? = some (10, n)) (hin : vp_in j n) (kk : pp_ATc g R mi Z cs (pc + 1) L (.int (w.2.1 a j.toNatClampNeg) :: st) w) : pp_ATc g R mi Z cs pc L (.int j :: .ref a :: st) w :=
  fun t C H locs ls cells slots hP hS hl h1 h2 => va_iald (ws := [(pp_ad g a, .inl (pp_d g 0, n, .inl (w.2.1 a)))]) C.1 C.2.1 C.2.2.2.2.2.2.2.2.2.1 (fun k q hq => by cases k with
    | zero => cases hq; exact pp_at.i.mp (hP.2.2.2 a _ ha)
    | succ k => simp at hq) 0 0 rfl rfl hin hd (kk t C H locs ls cells slots hP hS hl h1 h2)
theorem pr_bald {a n : Nat} {j : Int32} (hd : decode mi.by_ pc = .ok (.baload, 1)) (ha : w.1[a]? = some (11, n)) (hin : vp_in j n) (kk : pp_ATc g R mi Z cs (pc + 1) L (.int (w.2.1 a j.toNatClampNeg) :: st) w) : pp_ATc g R mi Z cs pc L (.int j :: .ref a :: st) w :=
  fun t C H locs ls cells slots hP hS hl h1 h2 => va_bald (ws := [(pp_ad g a, .inl (pp_d g 1, n, .inl (w.2.1 a)))]) C.1 C.2.1 C.2.2.2.2.2.2.2.2.2.1 (fun k q hq => by cases k with
    | zero => cases hq; exact pp_at.b.mp (hP.2.2.2 a _ ha)
    | succ k => simp at hq) 0 1 rfl rfl hin hd (kk t C H locs ls cells slots hP hS hl h1 h2)
theorem pr_zald {a n : Nat} {j : Int32} (hd : decode mi.by_ pc = .ok (.baload, 1)) (ha : w.1[a]? = some (12, n)) (hin : vp_in j n) (kk : pp_ATc g R mi Z cs (pc + 1) L (.int (w.2.1 a j.toNatClampNeg) :: st) w) : pp_ATc g R mi Z cs pc L (.int j :: .ref a :: st) w :=
  fun t C H locs ls cells slots hP hS hl h1 h2 => va_zald (ws := [(pp_ad g a, .inl (pp_d g 2, n, .inl (w.2.1 a)))]) C.1 C.2.1 C.2.2.2.2.2.2.2.2.2.1 (fun k q hq => by cases k with
    | zero => cases hq; exact pp_at.z.mp (hP.2.2.2 a _ ha)
    | succ k => simp at hq) 0 2 rfl rfl hin hd (kk t C H locs ls cells slots hP hS hl h1 h2)
theorem pr_lald {a n : Nat} {j : Int32} (hd : decode mi.by_ pc = .ok (.laload, 1)) (ha : w.1[a]? = some (13, n)) (hin : vp_in j n) (kk : pp_ATc g R mi Z cs (pc + 1) L (.long (w.2.2.1 a j.toNatClampNeg) :: st) w) : pp_ATc g R mi Z cs pc L (.int j :: .ref a :: st) w :=
  fun t C H locs ls cells slots hP hS hl h1 h2 => va_lald (ws := [(pp_ad g a, .inl (pp_d g 3, n, .inr (.inl (w.2.2.1 a))))]) C.1 C.2.1 C.2.2.2.2.2.2.2.2.2.1 (fun k q hq => by cases k with
    | zero => cases hq; exact pp_at.j.mp (hP.2.2.2 a _ ha)
    | succ k => simp at hq) 0 3 rfl rfl hin hd (kk t C H locs ls cells slots hP hS hl h1 h2)
theorem pr_aald {a n : Nat} {j : Int32} (hd : decode mi.by_ pc = .ok (.aaload, 1)) (ha : w.1[a]? = some (14, n)) (hin : vp_in j n) (kk : pp_ATc g R mi Z cs (pc + 1) L (pp_rf (w.2.2.2 a j.toNatClampNeg) :: st) w) : pp_ATc g R mi Z cs pc L (.int j :: .ref a :: st) w :=
  fun t C H locs ls cells slots hP hS hl h1 h2 => va_aldq (ws := [(pp_ad g a, .inl (pp_d g 4, n, .inr (.inr (.inr (.inr (fun k => (w.2.2.2 a k).map (pp_ad g)))))))]) C.1 C.2.1 C.2.2.2.2.2.2.2.2.2.1 (fun k q hq => by cases k with
    | zero => cases hq; exact pp_at.q.mp (hP.2.2.2 a _ ha)
    | succ k => simp at hq) 0 4 rfl rfl hin hd (by
      have := kk t C H locs ls cells slots hP hS hl h1 h2
      simp only [List.map_cons, pp_v_rf] at this
      exact this)
theorem pr_alen {a t9 n : Nat} {v : Int32} (hd : decode mi.by_ pc = .ok (.arraylength, 1)) (ha : w.1[a]? = some (t9, n)) (ht : 10 ≤ t9 ∧ t9 ≤ 14) (hv : Int32.ofNat n = v) (kk : pp_ATc g R mi Z cs (pc + 1) L (.int v :: st) w) : pp_ATc g R mi Z cs pc L (.ref a :: st) w := by
  intro t C H locs ls cells slots hP hS hl h1 h2
  have hc := hP.2.2.2 a _ ha
  rcases (by omega : t9 = 10 ∨ t9 = 11 ∨ t9 = 12 ∨ t9 = 13 ∨ t9 = 14) with rfl | rfl | rfl | rfl | rfl
  · exact va_alen (ws := [(pp_ad g a, .inl (pp_d g 0, n, .inl (w.2.1 a)))]) C.1 C.2.1 C.2.2.2.2.2.2.2.2.2.1 (fun k q hq => by cases k with
      | zero => cases hq; exact pp_at.i.mp hc
      | succ k => simp at hq) 0 0 rfl rfl hv hd (kk t C H locs ls cells slots hP hS hl h1 h2)
  · exact va_alen (ws := [(pp_ad g a, .inl (pp_d g 1, n, .inl (w.2.1 a)))]) C.1 C.2.1 C.2.2.2.2.2.2.2.2.2.1 (fun k q hq => by cases k with
      | zero => cases hq; exact pp_at.b.mp hc
      | succ k => simp at hq) 0 1 rfl rfl hv hd (kk t C H locs ls cells slots hP hS hl h1 h2)
  · exact va_alen (ws := [(pp_ad g a, .inl (pp_d g 2, n, .inl (w.2.1 a)))]) C.1 C.2.1 C.2.2.2.2.2.2.2.2.2.1 (fun k q hq => by cases k with
      | zero => cases hq; exact pp_at.z.mp hc
      | succ k => simp at hq) 0 2 rfl rfl hv hd (kk t C H locs ls cells slots hP hS hl h1 h2)
  · exact va_alen (ws := [(pp_ad g a, .inl (pp_d g 3, n, .inr (.inl (w.2.2.1 a))))]) C.1 C.2.1 C.2.2.2.2.2.2.2.2.2.1 (fun k q hq => by cases k with
      | zero => cases hq; exact pp_at.j.mp hc
      | succ k => simp at hq) 0 3 rfl rfl hv hd (kk t C H locs ls cells slots hP hS hl h1 h2)
  · exact va_alen (ws := [(pp_ad g a, .inl (pp_d g 4, n, .inr (.inr (.inr (.inr (fun k => (w.2.2.2 a k).map (pp_ad g)))))))]) C.1 C.2.1 C.2.2.2.2.2.2.2.2.2.1 (fun k q hq => by cases k with
      | zero => cases hq; exact pp_at.q.mp hc
      | succ k => simp at hq) 0 4 rfl rfl hv hd (kk t C H locs ls cells slots hP hS hl h1 h2)
-- arrays: writing
theorem pp_up_arr {α : Type} (mk : α → Value) (cA : ClassId) (n k : Nat) (f : Nat → α) (x : α) : (arrV cA n (fun j => mk (f j))).setSlot k (mk x) = arrV cA n (fun j => mk (va_up f k x j)) := by
  rw [arrV_store]
  congr 1
  funext q
  by_cases hq : q = k
  · simp [updV, va_up, hq]
  · simp [updV, va_up, hq]
theorem pr_iast {a n : Nat} {j x : Int32} (hd : decode mi.by_ pc = .ok (.iastore, 1)) (ha : w.1[a]? = some (10, n)) (hin : vp_in j n) (kk : pp_ATc g R mi Z cs (pc + 1) L st (w.1, pp_s w.2.1 a (va_up (w.2.1 a) j.toNatClampNeg x), w.2.2)) : pp_ATc g R mi Z cs pc L (.int x :: .int j :: .ref a :: st) w := by
  intro t C H locs ls cells slots hP hS hl h1 h2
  have hc := pp_at.i.mp (hP.2.2.2 a _ ha)
  refine W.iast C.1 C.2.1 hc ((C.2.2.2.2.2.2.2.2.2.1.2 0 _ rfl).1 n (fun j => .int (w.2.1 a j))) (fun q => by cases q) (by show ¬ (j < 0 ∨ (arrV _ _ _).slots.size ≤ _); rw [arrV_size]; exact hin) rfl rfl hd fun H1 e z oq => ?_
  refine kk t C H1 _ ls cells slots (hP.store ha (fun q => nomatch q) (fun i hi => pp_s_ne _ _ hi) (fun i hi => rfl) (fun i hi => rfl) z oq (pp_at.i.mpr ?_)) (hS.put z oq (hP.Aa ha (fun q => nomatch q))) hl h1 h2
  rw [e, vp_cell_i, vp_cell_i, pp_up_arr (fun z => Value.int z)]
  simp only [pp_s_eq]
theorem pr_last {a n : Nat} {j : Int32} {x : Int64} (hd : decode mi.by_ pc = .ok (.lastore, 1)) (ha : w.1[a]? = some (13, n)) (hin : vp_in j n) (kk : pp_ATc g R mi Z cs (pc + 1) L st (w.1, w.2.1, pp_s w.2.2.1 a (va_up (w.2.2.1 a) j.toNatClampNeg x), w.2.2.2)) : pp_ATc g R mi Z cs pc L (.long x :: .int j :: .ref a :: st) w := by
  intro t C H locs ls cells slots hP hS hl h1 h2
  have hc := pp_at.j.mp (hP.2.2.2 a _ ha)
  refine W.last C.1 C.2.1 hc ((C.2.2.2.2.2.2.2.2.2.1.2 3 _ rfl).1 n (fun j => .long (w.2.2.1 a j))) (fun q => by cases q) (by show ¬ (j < 0 ∨ (arrV _ _ _).slots.size ≤ _); rw [arrV_size]; exact hin) rfl rfl hd fun H1 e z oq => ?_
  refine kk t C H1 _ ls cells slots (hP.store ha (fun q => nomatch q) (fun i hi => rfl) (fun i hi => pp_s_ne _ _ hi) (fun i hi => rfl) z oq (pp_at.j.mpr ?_)) (hS.put z oq (hP.Aa ha (fun q => nomatch q))) hl h1 h2
  rw [e, vp_cell_l, vp_cell_l, pp_up_arr (fun z => Value.long z)]
  simp only [pp_s_eq]
theorem pr_bast {a n : Nat} {j x : Int32} (hd : decode mi.by_ pc = .ok (.bastore, 1)) (ha : w.1[a]? = some (11, n)) (hin : vp_in j n) (kk : pp_ATc g R mi Z cs (pc + 1) L st (w.1, pp_s w.2.1 a (va_up (w.2.1 a) j.toNatClampNeg x.toInt8.toInt32), w.2.2)) : pp_ATc g R mi Z cs pc L (.int x :: .int j :: .ref a :: st) w := by
  intro t C H locs ls cells slots hP hS hl h1 h2
  have hc := pp_at.b.mp (hP.2.2.2 a _ ha)
  refine W.bast C.1 C.2.1 hc ((C.2.2.2.2.2.2.2.2.2.1.2 1 _ rfl).1 n (fun j => .int (w.2.1 a j))) (fun q => by cases q) (by show ¬ (j < 0 ∨ (arrV _ _ _).slots.size ≤ _); rw [arrV_size]; exact hin) rfl rfl hd fun H1 e z oq => ?_
  refine kk t C H1 _ ls cells slots (hP.store ha (fun q => nomatch q) (fun i hi => pp_s_ne _ _ hi) (fun i hi => rfl) (fun i hi => rfl) z oq (pp_at.b.mpr ?_)) (hS.put z oq (hP.Aa ha (fun q => nomatch q))) hl h1 h2
  rw [e, vp_cell_i, vp_cell_i, show narrow .byte (.int x) = Value.int x.toInt8.toInt32 from rfl, pp_up_arr (fun z => Value.int z)]
  simp only [pp_s_eq]
theorem pr_zast {a n : Nat} {j x : Int32} (hd : decode mi.by_ pc = .ok (.bastore, 1)) (ha : w.1[a]? = some (12, n)) (hin : vp_in j n) (hx : x = 0 ∨ x = 1) (kk : pp_ATc g R mi Z cs (pc + 1) L st (w.1, pp_s w.2.1 a (va_up (w.2.1 a) j.toNatClampNeg x), w.2.2)) : pp_ATc g R mi Z cs pc L (.int x :: .int j :: .ref a :: st) w := by
  intro t C H locs ls cells slots hP hS hl h1 h2
  have hc := pp_at.z.mp (hP.2.2.2 a _ ha)
  refine W.zast C.1 C.2.1 hc ((C.2.2.2.2.2.2.2.2.2.1.2 2 _ rfl).1 n (fun j => .int (w.2.1 a j))) (fun q => by cases q) (by show ¬ (j < 0 ∨ (arrV _ _ _).slots.size ≤ _); rw [arrV_size]; exact hin) rfl rfl hd fun H1 e z oq => ?_
  refine kk t C H1 _ ls cells slots (hP.store ha (fun q => nomatch q) (fun i hi => pp_s_ne _ _ hi) (fun i hi => rfl) (fun i hi => rfl) z oq (pp_at.z.mpr ?_)) (hS.put z oq (hP.Aa ha (fun q => nomatch q))) hl h1 h2
  have hnar : narrow .boolean (.int x) = Value.int x := by rcases hx with rfl | rfl <;> rfl
  rw [e, vp_cell_i, vp_cell_i, hnar, pp_up_arr (fun z => Value.int z)]
  simp only [pp_s_eq]
theorem pr_aast {a b n : Nat} {j : Int32} (hd : decode mi.by_ pc = .ok (.aastore, 1)) (ha : w.1[a]? = some (14, n)) (hb9 : w.1[b]? = some (4, 0)) (hin : vp_in j n) (kk : pp_ATc g R mi Z cs (pc + 1) L st (w.1, w.2.1, w.2.2.1, pp_s w.2.2.2 a (va_up (w.2.2.2 a) j.toNatClampNeg (some b)))) : pp_ATc g R mi Z cs pc L (.ref b :: .int j :: .ref a :: st) w := by
  intro t C H locs ls cells slots hP hS hl h1 h2
  have kw := kk t C
  obtain ⟨hx, hb, hml, hown, hts, hret, hlocks, hname, htab, hK, hE, hb0, htr⟩ := C
  have hc := pp_at.q.mp (hP.2.2.2 a _ ha)
  obtain ⟨r', e1, cell, q1, q2, q3, q4⟩ := (pp_at.o (by decide)).mp (hP.2.2.2 b _ hb9)
  obtain ⟨hSl, hfc, kC, hkC, hkind⟩ := hK.1 4 _ rfl
  obtain ⟨kA, comp, g1, g2, g3, g4⟩ := (hK.2 4 _ rfl).2
  have g3' : t.s.vm.findClass RX4 = some comp := g3
  cases Option.some.inj (g3'.symm.trans hfc)
  have hlt : j.toNatClampNeg < n := Nat.not_le.mp fun q => hin (Or.inr q)
  intro T hT X
  obtain ⟨X', step⟩ := X.aastoreRefT hx (a := pp_ad g a) (v := pp_ad g b) (cell := vp_cell (pp_d g 4) (n, .inr (.inr (.inr (.inr (fun k => (w.2.2.2 a k).map (pp_ad g))))))) (cv := cell) (j := j) (k := kA) (kv := kC) (kcomp := kC) (comp := (pp_D g).1 4) (t := .object RX4)
    (by rw [hT]; exact hc) (fun q h => by cases h) (fun h => by cases h) g1 g2 rfl hkC ⟨fun q => hin (Or.inl q), by rw [vp_cell_q, arrV_size]; exact hlt⟩ (by rw [hT]; exact q1) (fun q h => by rw [q3] at h; cases h) (by rw [q2]; exact hkC) (by rw [q2]; exact va_asg _ _) (g := F0 t.m pc ls (.ref (pp_ad g b) :: .int j :: .ref (pp_ad g a) :: st.map (pp_v g))) rfl rfl (by rw [hb]; exact hd)
  have hl9 : pp_ad g a < H.size := (Array.getElem?_eq_some_iff.mp hc).1
  have e9 : (vp_cell (pp_d g 4) (n, .inr (.inr (.inr (.inr (fun k => (w.2.2.2 a k).map (pp_ad g))))))).setSlot j.toNatClampNeg (.ref (pp_ad g b)) = vp_cell (pp_d g 4) (n, .inr (.inr (.inr (.inr (fun k => (pp_s w.2.2.2 a (va_up (w.2.2.2 a) j.toNatClampNeg (some b)) a k).map (pp_ad g)))))) := by
    rw [vp_cell_q, vp_cell_q, show Value.ref (pp_ad g b) = va_rf (some (pp_ad g b)) from rfl, pp_up_arr va_rf]
    congr 1
    funext q
    simp only [pp_s_eq, va_up]
    by_cases hq : q = j.toNatClampNeg
    · simp [hq]
    · simp [hq]
  rw [e9] at X' step
  obtain ⟨H1, hH1⟩ : ∃ z, z = (T.setCell (pp_ad g a) (vp_cell (pp_d g 4) (n, .inr (.inr (.inr (.inr (fun k => (pp_s w.2.2.2 a (va_up (w.2.2.2 a) j.toNatClampNeg (some b)) a k).map (pp_ad g)))))))).heap := ⟨_, rfl⟩
  have z : H1.size = H.size := by rw [hH1, size_setCell, hT]
  have oq : ∀ q : Nat, q ≠ pp_ad g a → H1[q]? = H[q]? := fun q hq => by rw [hH1, heapAt_setCell_ne _ (Ne.symm hq), hT]
  obtain ⟨t2, a1, b1⟩ := kw H1 _ ls cells slots (hP.store ha (fun q => nomatch q) (fun i hi => rfl) (fun i hi => rfl) (fun i hi => pp_s_ne _ _ hi) z oq (pp_at.q.mpr (by rw [hH1]; exact heapAt_setCell_self _ (by rw [hT]; exact hl9)))) (hS.put z oq (hP.Aa ha (fun q => nomatch q))) hl h1 h2 _ hH1.symm X'
  exact ⟨t2, step t2 a1, b1⟩
theorem pr_aastN {a n : Nat} {j : Int32} (hd : decode mi.by_ pc = .ok (.aastore, 1)) (ha : w.1[a]? = some (14, n)) (hin : vp_in j n) (kk : pp_ATc g R mi Z cs (pc + 1) L st (w.1, w.2.1, w.2.2.1, pp_s w.2.2.2 a (va_up (w.2.2.2 a) j.toNatClampNeg none))) : pp_ATc g R mi Z cs pc L (.null :: .int j :: .ref a :: st) w := by
  intro t C H locs ls cells slots hP hS hl h1 h2
  have kw := kk t C
  obtain ⟨hx, hb, hml, hown, hts, hret, hlocks, hname, htab, hK, hE, hb0, htr⟩ := C
  have hc := pp_at.q.mp (hP.2.2.2 a _ ha)
  obtain ⟨kA, comp, g1, g2, g3, g4⟩ := (hK.2 4 _ rfl).2
  have hlt : j.toNatClampNeg < n := Nat.not_le.mp fun q => hin (Or.inr q)
  intro T hT X
  obtain ⟨X', step⟩ := X.aastoreNullIn hx (a := pp_ad g a) (cell := vp_cell (pp_d g 4) (n, .inr (.inr (.inr (.inr (fun k => (w.2.2.2 a k).map (pp_ad g))))))) (j := j) (k := kA) (comp := comp) (t := .object RX4)
    (by rw [hT]; exact hc) (fun q h => by cases h) (fun h => by cases h) g1 g2 rfl ⟨fun q => hin (Or.inl q), by rw [vp_cell_q, arrV_size]; exact hlt⟩ (g := F0 t.m pc ls (.null :: .int j :: .ref (pp_ad g a) :: st.map (pp_v g))) rfl rfl (by rw [hb]; exact hd)
  have hl9 : pp_ad g a < H.size := (Array.getElem?_eq_some_iff.mp hc).1
  have e9 : (vp_cell (pp_d g 4) (n, .inr (.inr (.inr (.inr (fun k => (w.2.2.2 a k).map (pp_ad g))))))).setSlot j.toNatClampNeg .null = vp_cell (pp_d g 4) (n, .inr (.inr (.inr (.inr (fun k => (pp_s w.2.2.2 a (va_up (w.2.2.2 a) j.toNatClampNeg none) a k).map (pp_ad g)))))) := by
    rw [vp_cell_q, vp_cell_q, show Value.null = va_rf none from rfl, pp_up_arr va_rf]
    congr 1
    funext q
    simp only [pp_s_eq, va_up]
    by_cases hq : q = j.toNatClampNeg
    · simp [hq]
    · simp [hq]
  rw [e9] at X' step
  obtain ⟨H1, hH1⟩ : ∃ z, z = (T.setCell (pp_ad g a) (vp_cell (pp_d g 4) (n, .inr (.inr (.inr (.inr (fun k => (pp_s w.2.2.2 a (va_up (w.2.2.2 a) j.toNatClampNeg none) a k).map (pp_ad g)))))))).heap := ⟨_, rfl⟩
  have z : H1.size = H.size := by rw [hH1, size_setCell, hT]
  have oq : ∀ q : Nat, q ≠ pp_ad g a → H1[q]? = H[q]? := fun q hq => by rw [hH1, heapAt_setCell_ne _ (Ne.symm hq), hT]
  obtain ⟨t2, a1, b1⟩ := kw H1 _ ls cells slots (hP.store ha (fun q => nomatch q) (fun i hi => rfl) (fun i hi => rfl) (fun i hi => pp_s_ne _ _ hi) z oq (pp_at.q.mpr (by rw [hH1]; exact heapAt_setCell_self _ (by rw [hT]; exact hl9)))) (hS.put z oq (hP.Aa ha (fun q => nomatch q))) hl h1 h2 _ hH1.symm X'
  exact ⟨t2, step t2 a1, b1⟩
end Heap
end
section
/-! THE ENGINE, 5: making, copying -/
def pp_fkb (ci k : Nat) : Bool := match pp_fk ci k, pp_ty ci k with
  | 0, .int => true
  | 1, .long => true
  | 2, .object _ => true
  | 2, .array _ => true
  | _, _ => false
theorem pp_fkOK {ci : Nat} {r : vw_C} (h : pp_cl[ci]? = some r) : ∀ k, k < r.2.2 → pp_fkb ci k = true := by
  match ci, h with
  | 0, h => cases h; decide
  | 1, h => cases h; decide
  | 2, h => cases h; decide
  | 3, h => cases h; decide
  | 4, h => cases h; decide
  | 5, h => cases h; decide
  | 6, h => cases h; decide
  | 7, h => cases h; decide
  | 8, h => cases h; decide
  | 9, h => cases h; decide
  | n + 10, h => simp at h
theorem pp_fkD {ci k : Nat} (h : pp_fkb ci k = true) : (pp_fk ci k = 0 ∧ pp_ty ci k = .int) ∨ (pp_fk ci k = 1 ∧ pp_ty ci k = .long) ∨ (pp_fk ci k = 2 ∧ ((∃ C, pp_ty ci k = .object C) ∨ ∃ t, pp_ty ci k = .array t)) := by
  unfold pp_fkb at h
  split at h
  · rename_i a b; exact Or.inl ⟨a, b⟩
  · rename_i a b; exact Or.inr (Or.inl ⟨a, b⟩)
  · rename_i a b; exact Or.inr (Or.inr ⟨a, Or.inl ⟨_, b⟩⟩)
  · rename_i a b; exact Or.inr (Or.inr ⟨a, Or.inr ⟨_, b⟩⟩)
  · cases h
theorem pp_made_in {ci : Nat} {r : vw_C} (h : pp_cl[ci]? = some r) : Cond.instantiable r.1 r.2.2 ∈ pp_T ∧ Cond.initialized r.1 ∈ pp_T :=
  ⟨pp_made _ (List.mem_flatMap.mpr ⟨r, List.mem_of_getElem? h, by simp⟩), pp_made _ (List.mem_flatMap.mpr ⟨r, List.mem_of_getElem? h, by simp⟩)⟩
theorem pp_arrs : ∀ w ∈ [Cond.arrayClass .int, Cond.arrayClass .byte, Cond.arrayClass .boolean, Cond.arrayClass .long], w ∈ pp_T := pp_sub (by decide +kernel)
/-- a new cell of that kind: everything in it is 0 or null -/
def pp_nw (w : pp_W) (sh : Nat × Nat) : pp_W := (w.1 ++ [sh], pp_s w.2.1 w.1.length (fun _ => 0), pp_s w.2.2.1 w.1.length (fun _ => 0), pp_s w.2.2.2 w.1.length (fun _ => none))
section Make
variable {g : pp_G} {R : Room} {mi : pp_MI} {Z : pp_CT → State → Prop} {cs : Nat × Nat} {pc : Nat} {L : List (Nat × Value)} {st : List Value} {w : pp_W}
theorem pp_S_push {H0 H H1 : Heap} {locs : List Loc} (hS : va_S (pp_A g) H0 H locs) (z1 : H1.size = H.size + 1) (o1 : ∀ q : Nat, q < H.size → H1[q]? = H[q]?) : va_S (pp_A g) H0 H1 locs :=
  ⟨Nat.le_trans hS.1 (by omega), fun x h1 h2 => (o1 x (Nat.lt_of_lt_of_le h1 hS.1)).trans (hS.2.1 x h1 h2), hS.2.2⟩
theorem pr_new {ci idx : Nat} {r : vw_C} (hd : decode mi.by_ pc = .ok (.new idx, 3)) (hr : pp_cl[ci]? = some r) (hlk : Cond.classLink mi.y.cls idx r.1 ∈ pp_T) (hc : cs.1 + 1 ≤ R.cells) (hs : cs.2 + r.2.2 ≤ R.slots)
    (kk : pp_ATc g R mi Z (cs.1 + 1, cs.2 + r.2.2) (pc + 3) L (.ref w.1.length :: st) (pp_nw w (ci, 0))) : pp_ATc g R mi Z cs pc L st w := by
  intro t C H locs ls cells slots hP hS hl h1 h2
  have kw := kk t C
  obtain ⟨hc10, hin, hty, hnm⟩ := pp_clOK hr
  obtain ⟨hx, hb, hml, hown, hts, hret, hlocks, hname, htab, hK, hE, hb0, htr⟩ := C
  have hKn := hK.1 ci _ hr
  refine W.newcK hx hb hown (hts _ hlk) (hts _ (pp_made_in hr).1) (hts _ (pp_made_in hr).2) rfl hd (by omega) (by omega) hKn.2.1 rfl fun H1 kC hkC e1 z1 o1 => ?_
  have h9 : pp_Rep g (pp_nw w (ci, 0)) H1 := by
    refine hP.push (fun i hi => pp_s_ne _ _ hi) (fun i hi => pp_s_ne _ _ hi) (fun i hi => pp_s_ne _ _ hi) z1 o1 ((pp_at.o hc10).mpr ⟨r, hr, t_OB.to (u_born (pp_ty ci) hts hin hKn hkC (by rw [hP.size]; exact e1) hty) (fun k hk => ?_)⟩)
    simp only [pp_fv, pp_s_eq]
    rcases pp_fkD (pp_fkOK hr k hk) with ⟨a, b⟩ | ⟨a, b⟩ | ⟨a, ⟨_, b⟩ | ⟨_, b⟩⟩ <;> rw [a, b] <;> rfl
  have := kw H1 locs ls (cells + 1) (slots + r.2.2) h9 (pp_S_push hS z1 o1) hl (by show cells + 1 ≤ cs.1 + 1; omega) (by show slots + _ ≤ cs.2 + _; omega)
  simp only [List.map_cons, pp_v, hP.size] at this
  exact this
theorem pr_newarr {at9 : ArrayType} {t9 i9 N : Nat} {ty : FieldType} {n : Int32} (hd : decode mi.by_ pc = .ok (.newarray at9, 2)) (hty : newarray.typeOf at9 = ty) (hw : Cond.arrayClass ty ∈ pp_T) (hn : n = Int32.ofNat N) (hN : N < 100000) (hc : cs.1 + 1 ≤ R.cells) (hs : cs.2 + N ≤ R.slots)
    (hb8 : componentBytes ty ≤ 8) (hK9 : ∀ U : State, pp_K g U → U.vm.findClass ("[" ++ ty.toString) = some (pp_d g i9)) (hat : ∀ H1 : Heap, H1[pp_ad g w.1.length]? = some (arrV (pp_d g i9) N (fun _ => defaultValue ty)) → pp_at g (pp_nw w (t9, N)).2 w.1.length (t9, N) H1)
    (kk : pp_ATc g R mi Z (cs.1 + 1, cs.2 + N) (pc + 2) L (.ref w.1.length :: st) (pp_nw w (t9, N))) : pp_ATc g R mi Z cs pc L (.int n :: st) w := by
  intro t C H locs ls cells slots hP hS hl h1 h2
  have kw := kk t C
  obtain ⟨hx, hb, hml, hown, hts, hret, hlocks, hname, htab, hK, hE, hb0, htr⟩ := C
  subst hty
  have hcl : n.toNatClampNeg = N := by rw [hn]; exact nI_clamp (by omega)
  have hb8' : N * componentBytes (newarray.typeOf at9) ≤ 536870912 := by
    have := Nat.mul_le_mul_left N hb8
    omega
  refine va_newaK hx hb (hts _ hw) rfl hd rfl (by rw [hn]; exact nI_pos (by omega)) hcl hb8' (by omega) (by omega) rfl fun H1 cA e1 z1 o1 hAr hNm => ?_
  cases Option.some.inj (hNm.symm.trans (hK9 t.s hK))
  have h9 : pp_Rep g (pp_nw w (t9, N)) H1 := hP.push (fun i hi => pp_s_ne _ _ hi) (fun i hi => pp_s_ne _ _ hi) (fun i hi => pp_s_ne _ _ hi) z1 o1 (hat H1 (by rw [hP.size]; exact e1))
  have := kw H1 locs ls (cells + 1) (slots + N) h9 (pp_S_push hS z1 o1) hl (by show cells + 1 ≤ cs.1 + 1; omega) (by show slots + _ ≤ cs.2 + _; omega)
  simp only [List.map_cons, pp_v, hP.size] at this
  exact this
theorem pr_newi {N : Nat} {n : Int32} (hd : decode mi.by_ pc = .ok (.newarray .int, 2)) (hn : n = Int32.ofNat N) (hN : N < 100000) (hc : cs.1 + 1 ≤ R.cells) (hs : cs.2 + N ≤ R.slots) (kk : pp_ATc g R mi Z (cs.1 + 1, cs.2 + N) (pc + 2) L (.ref w.1.length :: st) (pp_nw w (10, N))) : pp_ATc g R mi Z cs pc L (.int n :: st) w :=
  pr_newarr (i9 := 0) (ty := .int) hd rfl (pp_arrs _ (by simp)) hn hN hc hs (by decide) (fun U hK => (hK.2 0 _ rfl).2) (fun H1 h => pp_at.i.mpr (by rw [h]; simp only [pp_nw, pp_s_eq]; rfl)) kk
theorem pr_newb {N : Nat} {n : Int32} (hd : decode mi.by_ pc = .ok (.newarray .byte, 2)) (hn : n = Int32.ofNat N) (hN : N < 100000) (hc : cs.1 + 1 ≤ R.cells) (hs : cs.2 + N ≤ R.slots) (kk : pp_ATc g R mi Z (cs.1 + 1, cs.2 + N) (pc + 2) L (.ref w.1.length :: st) (pp_nw w (11, N))) : pp_ATc g R mi Z cs pc L (.int n :: st) w :=
  pr_newarr (i9 := 1) (ty := .byte) hd rfl (pp_arrs _ (by simp)) hn hN hc hs (by decide) (fun U hK => (hK.2 1 _ rfl).2) (fun H1 h => pp_at.b.mpr (by rw [h]; simp only [pp_nw, pp_s_eq]; rfl)) kk
theorem pr_newz {N : Nat} {n : Int32} (hd : decode mi.by_ pc = .ok (.newarray .boolean, 2)) (hn : n = Int32.ofNat N) (hN : N < 100000) (hc : cs.1 + 1 ≤ R.cells) (hs : cs.2 + N ≤ R.slots) (kk : pp_ATc g R mi Z (cs.1 + 1, cs.2 + N) (pc + 2) L (.ref w.1.length :: st) (pp_nw w (12, N))) : pp_ATc g R mi Z cs pc L (.int n :: st) w :=
  pr_newarr (i9 := 2) (ty := .boolean) hd rfl (pp_arrs _ (by simp)) hn hN hc hs (by decide) (fun U hK => (hK.2 2 _ rfl).2) (fun H1 h => pp_at.z.mpr (by rw [h]; simp only [pp_nw, pp_s_eq]; rfl)) kk
theorem pr_newj {N : Nat} {n : Int32} (hd : decode mi.by_ pc = .ok (.newarray .long, 2)) (hn : n = Int32.ofNat N) (hN : N < 100000) (hc : cs.1 + 1 ≤ R.cells) (hs : cs.2 + N ≤ R.slots) (kk : pp_ATc g R mi Z (cs.1 + 1, cs.2 + N) (pc + 2) L (.ref w.1.length :: st) (pp_nw w (13, N))) : pp_ATc g R mi Z cs pc L (.int n :: st) w :=
  pr_newarr (i9 := 3) (ty := .long) hd rfl (pp_arrs _ (by simp)) hn hN hc hs (by decide) (fun U hK => (hK.2 3 _ rfl).2) (fun H1 h => pp_at.j.mpr (by rw [h]; simp only [pp_nw, pp_s_eq]; rfl)) kk
theorem pr_newq {idx N : Nat} {n : Int32} (hd : decode mi.by_ pc = .ok (.anewarray idx, 3)) (hlk : Cond.classLink mi.y.cls idx RX4 ∈ pp_T) (hn : n = Int32.ofNat N) (hN : N < 100000) (hc : cs.1 + 1 ≤ R.cells) (hs : cs.2 + N ≤ R.slots) (kk : pp_ATc g R mi Z (cs.1 + 1, cs.2 + N) (pc + 3) L (.ref w.1.length :: st) (pp_nw w (14, N))) : pp_ATc g R mi Z cs pc L (.int n :: st) w := by
  intro t C H locs ls cells slots hP hS hl h1 h2
  have kw := kk t C
  obtain ⟨hx, hb, hml, hown, hts, hret, hlocks, hname, htab, hK, hE, hb0, htr⟩ := C
  have hcl : n.toNatClampNeg = N := by rw [hn]; exact nI_clamp (by omega)
  refine W.anew hx hb hown (hts _ hlk) (va_AO.use hE.2.2.2.2.2.2.2.2.2) rfl hd rfl (by rw [hn]; exact nI_pos (by omega)) (by rw [hcl]; omega) (by omega) (by rw [hcl]; omega) fun cA kA comp f1 f2 f3 f4 => ?_
  rw [hcl]
  obtain ⟨kA', comp', g1, g2, g3, g4⟩ := (hK.2 4 _ rfl).2
  cases Option.some.inj (f1.symm.trans g4)
  generalize hH1 : H.push ({ cls := pp_d g 4, slots := Array.replicate N .null, vm := .none } : Cell) = H1
  have z1 : H1.size = H.size + 1 := by rw [← hH1, Array.size_push]
  have e1 : H1[H.size]? = some (arrV (pp_d g 4) N (fun _ => .null)) := by rw [← hH1, Array.getElem?_push_size, ← arrV_new]
  have o1 : ∀ q : Nat, q < H.size → H1[q]? = H[q]? := fun q hq => by rw [← hH1, Array.getElem?_push, if_neg (Nat.ne_of_lt hq)]
  have h9 : pp_Rep g (pp_nw w (14, N)) H1 := hP.push (fun i hi => pp_s_ne _ _ hi) (fun i hi => pp_s_ne _ _ hi) (fun i hi => pp_s_ne _ _ hi) z1 o1 (pp_at.q.mpr (by rw [hP.size, e1]; simp only [pp_nw, pp_s_eq]; rfl))
  have := kw H1 locs ls (cells + 1) (slots + N) h9 (pp_S_push hS z1 o1) hl (by show cells + 1 ≤ cs.1 + 1; omega) (by show slots + _ ≤ cs.2 + _; omega)
  simp only [List.map_cons, pp_v, hP.size] at this
  exact this
theorem pr_objInit {idx a : Nat} (hd : decode mi.by_ pc = .ok (.invokespecial idx, 3)) (hlk : Cond.methodLink mi.y.cls idx Lib.objectInit ∈ pp_T) (h1 : Cond.instanceMethod Lib.objectInit ∈ pp_T) (h2 : Cond.code Lib.objectInit ⟨#[0xb1]⟩ 1 none ∈ pp_T) (hf : 1 ≤ R.frames) (hlo : 40 ≤ R.locals) (hst : st.length ≤ 4)
    (kk : pp_ATc g R mi Z cs (pc + 3) L st w) : pp_ATc g R mi Z cs pc L (.ref a :: st) w := by
  intro t C H locs ls cells slots hP hS hl q1 q2
  have kw := kk t C H locs ls cells slots hP hS hl q1 q2
  refine W.objInit C.1 C.2.1 C.2.2.2.1 (C.2.2.2.2.1 _ hlk) (C.2.2.2.2.1 _ h1) (C.2.2.2.2.1 _ h2) rfl (by rw [C.2.2.1]; exact hl.1) rfl hd hf ?_ kw
  show 2 * 0 + ((st.map (pp_v g)).map fun v => v.category).sum + 12 ≤ R.locals
  have : ∀ (l : List Value), ((l.map (pp_v g)).map fun v => v.category).sum ≤ 2 * l.length := by
    intro l
    induction l with
    | nil => simp
    | cons v l ih =>
      have hv : (pp_v g v).category ≤ 2 := by rcases lv_cat (pp_v g v) with h | h <;> omega
      simp only [List.map_cons, List.sum_cons, List.length_cons]
      omega
  have := this st
  omega
end Make
end
section
/-! THE ENGINE, 6: copying -/
theorem pp_cat_le (g : pp_G) : ∀ (l : List Value), ((l.map (pp_v g)).map fun v => v.category).sum ≤ 2 * l.length := by
  intro l
  induction l with
  | nil => simp
  | cons v l ih =>
    have hv : (pp_v g v).category ≤ 2 := by rcases lv_cat (pp_v g v) with h | h <;> omega
    simp only [List.map_cons, List.sum_cons, List.length_cons]
    omega
theorem pp_copyW0 : ∀ w ∈ [Cond.native arraycopyName, Cond.static arraycopyName, Cond.initialized "java/lang/System"], w ∈ pp_T := pp_sub (by decide +kernel)
theorem pp_copyW : Cond.native arraycopyName ∈ pp_T ∧ Cond.static arraycopyName ∈ pp_T ∧ Cond.initialized "java/lang/System" ∈ pp_T := ⟨pp_copyW0 _ (by simp), pp_copyW0 _ (by simp), pp_copyW0 _ (by simp)⟩
theorem pp_copyN : nativeFrameWords "java/lang/System" "arraycopy" 5 + 11 ≤ 90 := by decide +kernel
section Copy
variable {g : pp_G} {R : Room} {mi : pp_MI} {Z : pp_CT → State → Prop} {cs : Nat × Nat} {pc : Nat} {L : List (Nat × Value)} {st : List Value} {w : pp_W}
theorem pr_copyi {idx a b n0 n1 : Nat} {sp dp n : Int32} (hd : decode mi.by_ pc = .ok (.invokestatic idx, 3)) (hlk : Cond.methodLink mi.y.cls idx arraycopyName ∈ pp_T) (hR1 : 1 ≤ R.frames) (hR2 : 100 ≤ R.locals) (hst : st.length ≤ 4) (ha : w.1[a]? = some (10, n0)) (hb9 : w.1[b]? = some (10, n1))
    (g1 : ¬ sp < 0) (g2 : ¬ dp < 0) (g3 : ¬ n < 0) (g4 : sp.toNatClampNeg + n.toNatClampNeg ≤ n0) (g5 : dp.toNatClampNeg + n.toNatClampNeg ≤ n1)
    (kk : pp_ATc g R mi Z cs (pc + 3) L st (w.1, pp_s w.2.1 b (va_cpy (w.2.1 a) (w.2.1 b) sp.toNatClampNeg dp.toNatClampNeg n.toNatClampNeg), w.2.2)) : pp_ATc g R mi Z cs pc L (.int n :: .int dp :: .ref b :: .int sp :: .ref a :: st) w := by
  intro t C H locs ls cells slots hP hS hl q1 q2
  have kw := kk t C
  obtain ⟨hx, hb, hml, hown, hts, hret, hlocks, hname, htab, hK, hE, hb0, htr⟩ := C
  have nn : ∀ z : Int32, ¬ z < 0 → z.toInt = (z.toNatClampNeg : Int) := by
    intro z hz
    have hz0 : (0 : Int) ≤ z.toInt := by
      have := Int32.not_lt.mp hz
      simpa using Int32.le_iff_toInt_le.mp this
    show z.toInt = ((z.toInt.toNat : Nat) : Int)
    omega
  have hcat : ((st.map (pp_v g)).map fun v => v.category).sum ≤ 2 * st.length := pp_cat_le g st
  intro T hT X
  have hc0 : H[pp_ad g a]? = some (vp_cell (pp_d g 0) (n0, .inl (w.2.1 a))) := pp_at.i.mp (hP.2.2.2 a _ ha)
  have hc1 : H[pp_ad g b]? = some (vp_cell (pp_d g 0) (n1, .inl (w.2.1 b))) := pp_at.i.mp (hP.2.2.2 b _ hb9)
  obtain ⟨-, k0, hk0, cm0, hkk0⟩ := (hK.2 0 _ rfl).1 n0 (fun j => Value.int (w.2.1 a j))
  obtain ⟨-, k1, hk1, cm1, hkk1⟩ := (hK.2 0 _ rfl).1 n1 (fun j => Value.int (w.2.1 b j))
  obtain ⟨vm', X', step⟩ := X.arraycopy hx hown (hts _ hlk) (hts _ pp_copyW.1) (hts _ pp_copyW.2.1) (hts _ pp_copyW.2.2) (src := pp_ad g a) (dst := pp_ad g b) (cs := vp_cell (pp_d g 0) (n0, .inl (w.2.1 a))) (cd := vp_cell (pp_d g 0) (n1, .inl (w.2.1 b))) (srcPos := sp) (destPos := dp) (n := n) (by rw [hT]; exact hc0) (by rw [hT]; exact hc1)
    (fun _ h => by cases h) (fun _ h => by cases h) (fun h => by cases h) (fun h => by cases h) hk0 hk1 hkk0 hkk1 (by simp [refKind]) g1 g2 g3
    (by rw [nn sp g1, nn n g3]; show ¬ _ > ((arrV (pp_d g 0) n0 (fun j => Value.int (w.2.1 a j))).slots.size : Int); rw [arrV_size]; omega)
    (by rw [nn dp g2, nn n g3]; show ¬ _ > ((arrV (pp_d g 0) n1 (fun j => Value.int (w.2.1 b j))).slots.size : Int); rw [arrV_size]; omega)
    (fun vm₁ _ i hi => by
      have e : (vp_cell (pp_d g 0) (n0, .inl (w.2.1 a))).slots.getD (sp.toNatClampNeg + i) .null = Value.int (w.2.1 a (sp.toNatClampNeg + i)) := by
        show (arrV (pp_d g 0) n0 (fun j => Value.int (w.2.1 a j))).slots.getD _ _ = _
        rw [Array.getD_eq_getD_getElem?, arrV_read _ _ (by omega)]
        rfl
      refine ⟨?_, ?_⟩
      · rw [e]
        rfl
      · rw [e]
        exact trivial)
    (g := F0 t.m pc ls (.int n :: .int dp :: .ref (pp_ad g b) :: .int sp :: .ref (pp_ad g a) :: st.map (pp_v g))) rfl (by rw [hml]; exact hl.1) (rest := st.map (pp_v g)) rfl (by rw [hb]; exact hd) hR1 (by show 2 * 0 + _ + (nativeFrameWords "java/lang/System" "arraycopy" 5 + 11) ≤ _; have := pp_copyN; omega)
  have e1 : copied (vp_cell (pp_d g 0) (n0, .inl (w.2.1 a))) (vp_cell (pp_d g 0) (n1, .inl (w.2.1 b))) sp dp n = vp_cell (pp_d g 0) (n1, .inl (va_cpy (w.2.1 a) (w.2.1 b) sp.toNatClampNeg dp.toNatClampNeg n.toNatClampNeg)) := va_copied (fun z => Value.int z) (pp_d g 0) (pp_d g 0) (w.2.1 a) (w.2.1 b) g4
  rw [e1] at X' step
  have hl9 : pp_ad g b < H.size := (Array.getElem?_eq_some_iff.mp hc1).1
  obtain ⟨H1, hH1⟩ : ∃ z, z = ((T.setVm vm').setCell (pp_ad g b) (vp_cell (pp_d g 0) (n1, .inl (va_cpy (w.2.1 a) (w.2.1 b) sp.toNatClampNeg dp.toNatClampNeg n.toNatClampNeg)))).heap := ⟨_, rfl⟩
  have hTv : (T.setVm vm').heap = H := hT
  have z : H1.size = H.size := by rw [hH1, size_setCell, hTv]
  have oq : ∀ q : Nat, q ≠ pp_ad g b → H1[q]? = H[q]? := fun q hq => by rw [hH1, heapAt_setCell_ne _ (Ne.symm hq), hTv]
  obtain ⟨t2, a1, b1⟩ := kw H1 _ ls cells slots (hP.store hb9 (fun q => nomatch q) (fun i hi => pp_s_ne _ _ hi) (fun i hi => rfl) (fun i hi => rfl) z oq (pp_at.i.mpr (by rw [hH1]; simp only [pp_s_eq]; exact heapAt_setCell_self _ (by rw [hTv]; exact hl9)))) ⟨by rw [z]; exact hS.1, fun q z1 z2 => by
      rw [oq q (fun e => z2 (by rw [e]; exact hP.Aa hb9 (fun q => nomatch q)))]
      exact hS.2.1 q z1 z2, fun q hq => by
      rcases List.mem_append.mp hq with h | h
      · exact hS.2.2 q h
      · obtain ⟨z, -, hz⟩ := List.mem_map.mp h
        rw [← hz]
        exact hP.Aa hb9 (fun q => nomatch q)⟩ hl q1 q2 _ hH1.symm X'
  exact ⟨t2, step t2 a1, b1⟩
theorem pr_copyl {idx a b n0 n1 : Nat} {sp dp n : Int32} (hd : decode mi.by_ pc = .ok (.invokestatic idx, 3)) (hlk : Cond.methodLink mi.y.cls idx arraycopyName ∈ pp_T) (hR1 : 1 ≤ R.frames) (hR2 : 100 ≤ R.locals) (hst : st.length ≤ 4) (ha : w.1[a]? = some (13, n0)) (hb9 : w.1[b]? = some (13, n1))
    (g1 : ¬ sp < 0) (g2 : ¬ dp < 0) (g3 : ¬ n < 0) (g4 : sp.toNatClampNeg + n.toNatClampNeg ≤ n0) (g5 : dp.toNatClampNeg + n.toNatClampNeg ≤ n1)
    (kk : pp_ATc g R mi Z cs (pc + 3) L st (w.1, w.2.1, pp_s w.2.2.1 b (va_cpy (w.2.2.1 a) (w.2.2.1 b) sp.toNatClampNeg dp.toNatClampNeg n.toNatClampNeg), w.2.2.2)) : pp_ATc g R mi Z cs pc L (.int n :: .int dp :: .ref b :: .int sp :: .ref a :: st) w := by
  intro t C H locs ls cells slots hP hS hl q1 q2
  have kw := kk t C
  obtain ⟨hx, hb, hml, hown, hts, hret, hlocks, hname, htab, hK, hE, hb0, htr⟩ := C
  have nn : ∀ z : Int32, ¬ z < 0 → z.toInt = (z.toNatClampNeg : Int) := by
    intro z hz
    have hz0 : (0 : Int) ≤ z.toInt := by
      have := Int32.not_lt.mp hz
      simpa using Int32.le_iff_toInt_le.mp this
    show z.toInt = ((z.toInt.toNat : Nat) : Int)
    omega
  have hcat : ((st.map (pp_v g)).map fun v => v.category).sum ≤ 2 * st.length := pp_cat_le g st
  intro T hT X
  have hc0 : H[pp_ad g a]? = some (vp_cell (pp_d g 3) (n0, .inr (.inl (w.2.2.1 a)))) := pp_at.j.mp (hP.2.2.2 a _ ha)
  have hc1 : H[pp_ad g b]? = some (vp_cell (pp_d g 3) (n1, .inr (.inl (w.2.2.1 b)))) := pp_at.j.mp (hP.2.2.2 b _ hb9)
  obtain ⟨-, k0, hk0, cm0, hkk0⟩ := (hK.2 3 _ rfl).1 n0 (fun j => Value.long (w.2.2.1 a j))
  obtain ⟨-, k1, hk1, cm1, hkk1⟩ := (hK.2 3 _ rfl).1 n1 (fun j => Value.long (w.2.2.1 b j))
  obtain ⟨vm', X', step⟩ := X.arraycopy hx hown (hts _ hlk) (hts _ pp_copyW.1) (hts _ pp_copyW.2.1) (hts _ pp_copyW.2.2) (src := pp_ad g a) (dst := pp_ad g b) (cs := vp_cell (pp_d g 3) (n0, .inr (.inl (w.2.2.1 a)))) (cd := vp_cell (pp_d g 3) (n1, .inr (.inl (w.2.2.1 b)))) (srcPos := sp) (destPos := dp) (n := n) (by rw [hT]; exact hc0) (by rw [hT]; exact hc1)
    (fun _ h => by cases h) (fun _ h => by cases h) (fun h => by cases h) (fun h => by cases h) hk0 hk1 hkk0 hkk1 (by simp [refKind]) g1 g2 g3
    (by rw [nn sp g1, nn n g3]; show ¬ _ > ((arrV (pp_d g 3) n0 (fun j => Value.long (w.2.2.1 a j))).slots.size : Int); rw [arrV_size]; omega)
    (by rw [nn dp g2, nn n g3]; show ¬ _ > ((arrV (pp_d g 3) n1 (fun j => Value.long (w.2.2.1 b j))).slots.size : Int); rw [arrV_size]; omega)
    (fun vm₁ _ i hi => by
      have e : (vp_cell (pp_d g 3) (n0, .inr (.inl (w.2.2.1 a)))).slots.getD (sp.toNatClampNeg + i) .null = Value.long (w.2.2.1 a (sp.toNatClampNeg + i)) := by
        show (arrV (pp_d g 3) n0 (fun j => Value.long (w.2.2.1 a j))).slots.getD _ _ = _
        rw [Array.getD_eq_getD_getElem?, arrV_read _ _ (by omega)]
        rfl
      refine ⟨?_, ?_⟩
      · rw [e]
        rfl
      · rw [e]
        exact trivial)
    (g := F0 t.m pc ls (.int n :: .int dp :: .ref (pp_ad g b) :: .int sp :: .ref (pp_ad g a) :: st.map (pp_v g))) rfl (by rw [hml]; exact hl.1) (rest := st.map (pp_v g)) rfl (by rw [hb]; exact hd) hR1 (by show 2 * 0 + _ + (nativeFrameWords "java/lang/System" "arraycopy" 5 + 11) ≤ _; have := pp_copyN; omega)
  have e1 : copied (vp_cell (pp_d g 3) (n0, .inr (.inl (w.2.2.1 a)))) (vp_cell (pp_d g 3) (n1, .inr (.inl (w.2.2.1 b)))) sp dp n = vp_cell (pp_d g 3) (n1, .inr (.inl (va_cpy (w.2.2.1 a) (w.2.2.1 b) sp.toNatClampNeg dp.toNatClampNeg n.toNatClampNeg))) := va_copied (fun z => Value.long z) (pp_d g 3) (pp_d g 3) (w.2.2.1 a) (w.2.2.1 b) g4
  rw [e1] at X' step
  have hl9 : pp_ad g b < H.size := (Array.getElem?_eq_some_iff.mp hc1).1
  obtain ⟨H1, hH1⟩ : ∃ z, z = ((T.setVm vm').setCell (pp_ad g b) (vp_cell (pp_d g 3) (n1, .inr (.inl (va_cpy (w.2.2.1 a) (w.2.2.1 b) sp.toNatClampNeg dp.toNatClampNeg n.toNatClampNeg))))).heap := ⟨_, rfl⟩
  have hTv : (T.setVm vm').heap = H := hT
  have z : H1.size = H.size := by rw [hH1, size_setCell, hTv]
  have oq : ∀ q : Nat, q ≠ pp_ad g b → H1[q]? = H[q]? := fun q hq => by rw [hH1, heapAt_setCell_ne _ (Ne.symm hq), hTv]
  obtain ⟨t2, a1, b1⟩ := kw H1 _ ls cells slots (hP.store hb9 (fun q => nomatch q) (fun i hi => rfl) (fun i hi => pp_s_ne _ _ hi) (fun i hi => rfl) z oq (pp_at.j.mpr (by rw [hH1]; simp only [pp_s_eq]; exact heapAt_setCell_self _ (by rw [hTv]; exact hl9)))) ⟨by rw [z]; exact hS.1, fun q z1 z2 => by
      rw [oq q (fun e => z2 (by rw [e]; exact hP.Aa hb9 (fun q => nomatch q)))]
      exact hS.2.1 q z1 z2, fun q hq => by
      rcases List.mem_append.mp hq with h | h
      · exact hS.2.2 q h
      · obtain ⟨z, -, hz⟩ := List.mem_map.mp h
        rw [← hz]
        exact hP.Aa hb9 (fun q => nomatch q)⟩ hl q1 q2 _ hH1.symm X'
  exact ⟨t2, step t2 a1, b1⟩
end Copy
end
section
/-! THE ENGINE, 7: calls, ends -/
/-- a thing of the class E was thrown over this frame -/
def pp_XT (g : pp_G) (R : Room) (mi : pp_MI) (Z : pp_CT → State → Prop) (cs : Nat × Nat) (pc : Nat) (L : List (Nat × Value)) (st : List Value) (w : pp_W) (E : String) : Prop :=
  ∀ t : pp_CT, pp_Cx g mi t → ∀ (H : Heap) (locs : List Loc) (ls : Array Slot) (cells slots : Nat), pp_Rep g w H → va_S (pp_A g) t.s.heap H locs → lv_has ls mi.nL (pp_ls g L) → cells ≤ cs.1 → slots ≤ cs.2 →
    ∀ (q : Addr) (ce : Cell), H[q]? = some ce → ce.vm = .none → t.s.vm.findClass E = some ce.cls → vx_W t.p (pp_l g) t.e R t.s t.m t.args t.below t.meth t.c H locs cells slots (Z t) (F0 t.m pc ls (st.map (pp_v g))) q
/-- what is due behind a call -/
def pp_K1 (g : pp_G) (R : Room) (mi : pp_MI) (Z : pp_CT → State → Prop) (cs : Nat × Nat) (pc : Nat) (L : List (Nat × Value)) (st : List Value) : pp_R → pp_W → Prop := fun r w => match r with
  | .inl v => pp_ATc g R mi Z cs (pc + 3) L (v.toList ++ st) w
  | .inr E => pp_XT g R mi Z cs pc L st w E
section Calls
variable {g : pp_G} {R : Room} {mi mj : pp_MI} {Z : pp_CT → State → Prop} {cs : Nat × Nat} {pc h : Nat} {L : List (Nat × Value)} {st : List Value} {w : pp_W}
theorem pp_after {P : pp_R → pp_W → Prop} {t : pp_CT} (C : pp_Cx g mi t) {H : Heap} {locs : List Loc} {ls : Array Slot} {cells slots : Nat} {st0 : List Value} {a : Array Value} (hS : va_S (pp_A g) t.s.heap H locs) (hl : lv_has ls mi.nL (pp_ls g L))
    (hr : vx_Run t.p (pp_l g) t.e R t.s t.m t.args t.below t.meth t.c H locs cells slots mj.mc mj.ms (F0 t.m pc ls st0) (st.map (pp_v g)) (pp_Qc g P a) (pp_XC g P) (pp_A g)) (h1 : cells ≤ cs.1) (h2 : slots ≤ cs.2)
    (hk : ∀ r w, P r w → pp_K1 g R mi Z (cs.1 + mj.mc, cs.2 + mj.ms) pc L st r w) : pp_Wt g R t H locs cells slots (Z t) (F0 t.m pc ls st0) := by
  intro T hT X
  rcases hr T hT X with ⟨v, st₀, u, T', Lo, h0, X', hL, e1, e2, ⟨v', w', hv, hp, hB, hF⟩, st1⟩ | ⟨q, st₀, u, T', Lo, E, ce, h0, X', hL, e1, e2, ⟨w', hp, hB, hF⟩, hce, hcv, hcl, st1⟩
  · cases hv
    obtain ⟨k1, k2, k3⟩ := vx_keep h0 e1 hS (fun q _ h => h) (fun q h => h) hL hF
    have hk9 : pp_ATc g R mi Z (cs.1 + mj.mc, cs.2 + mj.ms) (pc + 3) L (v'.toList ++ st) w' := hk _ _ hp
    obtain ⟨t2, a1, b1⟩ := hk9 t C T'.heap (locs ++ Lo) ls (cells + mj.mc) (slots + mj.ms) (by rw [e1]; exact hB) k3 hl (by show _ ≤ cs.1 + mj.mc; omega) (by show _ ≤ cs.2 + mj.ms; omega) T' rfl X'
    refine ⟨t2, st1 t2 ?_, b1⟩
    have e9 : (v'.toList ++ st).map (pp_v g) = (v'.map (pp_v g)).toList ++ st.map (pp_v g) := by cases v' <;> rfl
    rw [e9] at a1
    exact a1
  · obtain ⟨k1, k2, k3⟩ := vx_keep h0 e1 hS (fun q _ h => h) (fun q h => h) hL hF
    have hk9 : pp_XT g R mi Z (cs.1 + mj.mc, cs.2 + mj.ms) pc L st w' E := hk _ _ hp
    obtain ⟨t2, a1, b1⟩ := hk9 t C T'.heap (locs ++ Lo) ls (cells + mj.mc) (slots + mj.ms) (by rw [e1]; exact hB) k3 hl (by show _ ≤ cs.1 + mj.mc; omega) (by show _ ≤ cs.2 + mj.ms; omega) q ce (by rw [e1]; exact hce) hcv hcl T' rfl X'
    exact ⟨t2, st1.trans a1, b1⟩
theorem pp_pre {t : pp_CT} (C : pp_Cx g mi t) {H : Heap} {locs : List Loc} (hP : pp_Rep g w H) (hS : va_S (pp_A g) t.s.heap H locs) (av : List Value) : ∀ U : State, U.heap = H → t.s.WarmedH U.vm → pp_Pc g av w (av.map (pp_v g)).toArray U :=
  fun U hU hW => ⟨rfl, by rw [hU]; exact hP, va_K.moved hW.alike C.2.2.2.2.2.2.2.2.2.1, by rw [hU]; exact pp_Ext.moved hW (C.2.2.2.2.2.2.2.2.2.2.1.kept hS.2.1), C.2.2.2.2.2.2.2.2.2.2.2.2.1⟩
theorem pp_recv {t : pp_CT} (C : pp_Cx g mi t) {H : Heap} (hP : pp_Rep g w H) {b ci : Nat} {r : vw_C} (hr : pp_cl[ci]? = some r) (hb : w.1[b]? = some (ci, 0)) : ∃ cell : Cell, H[pp_ad g b]? = some cell ∧ cell.vm.isStatics = false ∧ t.s.vm.findClass r.1 = some cell.cls := by
  obtain ⟨hc10, -⟩ := pp_clOK hr
  obtain ⟨r', e1, cell, q1, q2, q3, q4⟩ := (pp_at.o hc10).mp (hP.2.2.2 b _ hb)
  obtain ⟨-, hfc, -⟩ := C.2.2.2.2.2.2.2.2.2.1.1 ci _ hr
  exact ⟨cell, q1, by rw [q3]; rfl, by rw [q2]; exact hfc⟩
abbrev pp_big (R : Room) (h : Nat) : Prop := h + 9 ≤ R.frames ∧ 40 * h + 240 ≤ R.locals
theorem pp_words {t : pp_CT} (C : pp_Cx g mi t) (hok : pp_MIok mj) : ∀ w ∈ pp_cw mj :: pp_T, ∀ (a' : Array Value) (U : State), t.s.WarmedH U.vm → w.before a' U = true := fun w hw a' U hW => by
  rcases List.mem_cons.mp hw with rfl | hw
  · exact pp_T_warm hW C.2.2.2.2.1 _ hok.2.2.1
  · exact pp_T_warm hW C.2.2.2.2.1 _ hw
theorem pp_np (hok : pp_MIok mj) : ∀ sig, parseMethodDescriptor mj.y.desc = some sig → mj.np = sig.parameters.length := fun sig hs => by
  have := hok.2.2.2.2.2.1
  rw [hs] at this
  exact (Option.some.inj this).symm
theorem pp_callB {t : pp_CT} (C : pp_Cx g mi t) (hok : pp_MIok mj) (hh : mj.hh = []) (hR : pp_big R h) {idx : Nat} (hlk : Cond.methodLink mi.y.cls idx mj.y ∈ pp_T) : CallB R t.s t.args mi.y.cls idx mj.y mj.by_ mj.nL mj.ret (pp_cw mj :: pp_T) (pp_room h mj) mj.mc mj.ms mj.np := by
  have hcw : pp_cw mj = .code mj.y mj.by_ mj.nL mj.ret := if_pos hh
  have hn := hok.2.1
  refine ⟨rfl, rfl, ?_, ?_, pp_words C hok, by rw [hcw]; exact List.mem_cons_self, ?_, C.2.2.2.2.1 _ hok.2.2.2.1, hok.2.2.2.2.1, pp_np hok, C.2.2.2.2.1 _ hlk⟩
  · show h + 8 + 1 ≤ _
    exact hR.1
  · show 8 + (mj.nL + 11) + (40 * h + 200) ≤ _
    have := hR.2
    omega
  · rw [← hcw]
    exact C.2.2.2.2.1 _ hok.2.2.1
theorem pp_rest (g : pp_G) {st : List Value} (hst : st.length ≤ 4) {m : MethodId} {pc : Nat} {ls : Array Slot} {rest : List Value} : 2 * (F0 m pc ls rest).monitorRoom + ((st.map (pp_v g)).map fun v => v.category).sum ≤ 8 := by
  have := pp_cat_le g st
  exact lv_room (by omega)
theorem pr_callV {idx ci b : Nat} {r : vw_C} {As : List Value} {P : pp_R → pp_W → Prop} (hd : decode mi.by_ pc = .ok (.invokevirtual idx, 3)) (hlk : Cond.methodLink mi.y.cls idx mj.y ∈ pp_T) (hkd : mj.kd = 1) (hh : mj.hh = []) (hr : pp_cl[ci]? = some r) (hrc : r.1 = mj.y.cls) (hb9 : w.1[b]? = some (ci, 0)) (hlen : As.length = mj.np) (hR : pp_big R h) (hc : cs.1 + mj.mc ≤ R.cells) (hs : cs.2 + mj.ms ≤ R.slots) (hst : st.length ≤ 4)
    (hM : pp_MW g h mj (.ref b :: As) w P) (hk : ∀ r w, P r w → pp_K1 g R mi Z (cs.1 + mj.mc, cs.2 + mj.ms) pc L st r w) : pp_ATc g R mi Z cs pc L (As.reverse ++ .ref b :: st) w := by
  intro t C H locs ls cells slots hP hS hl h1 h2
  have hok := hM.1
  obtain ⟨hsel1, hsel2⟩ : Cond.instanceMethod mj.y ∈ pp_T ∧ Cond.selects mj.y.cls mj.y mj.y ∈ pp_T := by
    rcases hok.2.2.2.2.2.2.1 with ⟨h, -⟩ | ⟨-, h⟩ | ⟨h, -⟩
    · rw [hkd] at h; cases h
    · exact h
    · rw [hkd] at h; cases h
  have e9 : (As.reverse ++ .ref b :: st).map (pp_v g) = (As.map (pp_v g)).reverse ++ .ref (pp_ad g b) :: st.map (pp_v g) := by
    rw [List.map_append, List.map_reverse]; rfl
  rw [e9]
  refine pp_after C hS hl (vx_runV (C := r.1) (As := As.map (pp_v g)) (b := pp_ad g b) ⟨C.1, C.2.1, C.2.2.1, C.2.2.2.1, C.2.2.2.2.1⟩ hM.2 ⟨pp_callB C hok hh hR hlk, C.2.2.2.2.1 _ hsel1, by rw [hrc]; exact C.2.2.2.2.1 _ hsel2⟩ ⟨pp_blind g _ w, pp_recv C hP hr hb9, pp_pre C hP hS (.ref b :: As)⟩ rfl (by rw [List.length_map]; exact hlen) hl.1 rfl (pp_rest g hst) hd ⟨by omega, by omega⟩) h1 h2 hk
theorem pr_callS {idx : Nat} {As : List Value} {P : pp_R → pp_W → Prop} (hd : decode mi.by_ pc = .ok (.invokestatic idx, 3)) (hlk : Cond.methodLink mi.y.cls idx mj.y ∈ pp_T) (hkd : mj.kd = 0) (hh : mj.hh = []) (hlen : As.length = mj.np) (hR : pp_big R h) (hc : cs.1 + mj.mc ≤ R.cells) (hs : cs.2 + mj.ms ≤ R.slots) (hst : st.length ≤ 4)
    (hM : pp_MW g h mj As w P) (hk : ∀ r w, P r w → pp_K1 g R mi Z (cs.1 + mj.mc, cs.2 + mj.ms) pc L st r w) : pp_ATc g R mi Z cs pc L (As.reverse ++ st) w := by
  intro t C H locs ls cells slots hP hS hl h1 h2
  have hok := hM.1
  have hsel1 : Cond.static mj.y ∈ pp_T := by
    rcases hok.2.2.2.2.2.2.1 with ⟨-, h⟩ | ⟨h, -⟩ | ⟨h, -⟩
    · exact h
    · rw [hkd] at h; cases h
    · rw [hkd] at h; cases h
  have e9 : (As.reverse ++ st).map (pp_v g) = (As.map (pp_v g)).reverse ++ st.map (pp_v g) := by
    rw [List.map_append, List.map_reverse]
  rw [e9]
  refine pp_after C hS hl (vx_runS (As := As.map (pp_v g)) ⟨C.1, C.2.1, C.2.2.1, C.2.2.2.1, C.2.2.2.2.1⟩ hM.2 ⟨pp_callB C hok hh hR hlk, C.2.2.2.2.1 _ hsel1⟩ ⟨pp_blind g _ w, pp_pre C hP hS As⟩ rfl (by rw [List.length_map]; exact hlen) hl.1 rfl (pp_rest g hst) hd ⟨by omega, by omega⟩) h1 h2 hk
/-- a static method with handlers -/
theorem pr_callSX {idx : Nat} {As : List Value} {P : pp_R → pp_W → Prop} (hd : decode mi.by_ pc = .ok (.invokestatic idx, 3)) (hlk : Cond.methodLink mi.y.cls idx mj.y ∈ pp_T) (hkd : mj.kd = 0) (hh : mj.hh ≠ []) (hlen : As.length = mj.np) (hR : pp_big R h) (hc : cs.1 + mj.mc ≤ R.cells) (hs : cs.2 + mj.ms ≤ R.slots) (hst : st.length ≤ 4)
    (hM : pp_MW g h mj As w P) (hk : ∀ r w, P r w → pp_K1 g R mi Z (cs.1 + mj.mc, cs.2 + mj.ms) pc L st r w) : pp_ATc g R mi Z cs pc L (As.reverse ++ st) w := by
  intro t C H locs ls cells slots hP hS hl h1 h2
  have hok := hM.1
  have hcw : pp_cw mj = .codeWith mj.y mj.by_ mj.nL mj.ret mj.hh := if_neg hh
  have hn := hok.2.1
  have hsel1 : Cond.static mj.y ∈ pp_T := by
    rcases hok.2.2.2.2.2.2.1 with ⟨-, h⟩ | ⟨h, -⟩ | ⟨h, -⟩
    · exact h
    · rw [hkd] at h; cases h
    · rw [hkd] at h; cases h
  have e9 : (As.reverse ++ st).map (pp_v g) = (As.map (pp_v g)).reverse ++ st.map (pp_v g) := by
    rw [List.map_append, List.map_reverse]
  rw [e9]
  refine pp_after C hS hl (vx_runSX (hh := mj.hh) (As := As.map (pp_v g)) ⟨C.1, C.2.1, C.2.2.1, C.2.2.2.1, C.2.2.2.2.1⟩ hM.2 ⟨⟨rfl, rfl, hR.1, ?_, pp_words C hok, by rw [hcw]; exact List.mem_cons_self⟩, by rw [← hcw]; exact C.2.2.2.2.1 _ hok.2.2.1, C.2.2.2.2.1 _ hok.2.2.2.1, hok.2.2.2.2.1, pp_np hok, C.2.2.2.2.1 _ hlk, C.2.2.2.2.1 _ hsel1⟩ ⟨pp_blind g _ w, pp_pre C hP hS As⟩ rfl (by rw [List.length_map]; exact hlen) hl.1 rfl (pp_rest g hst) hd ⟨by omega, by omega⟩) h1 h2 hk
  show 8 + (mj.nL + 11) + (40 * h + 200) ≤ _
  have := hR.2
  omega
theorem pr_callI {idx b : Nat} {As : List Value} {P : pp_R → pp_W → Prop} (hd : decode mi.by_ pc = .ok (.invokespecial idx, 3)) (hlk : Cond.methodLink mi.y.cls idx mj.y ∈ pp_T) (hkd : mj.kd = 2) (hh : mj.hh = []) (hlen : As.length = mj.np) (hR : pp_big R h) (hc : cs.1 + mj.mc ≤ R.cells) (hs : cs.2 + mj.ms ≤ R.slots) (hst : st.length ≤ 4)
    (hM : pp_MW g h mj (.ref b :: As) w P) (hk : ∀ r w, P r w → pp_K1 g R mi Z (cs.1 + mj.mc, cs.2 + mj.ms) pc L st r w) : pp_ATc g R mi Z cs pc L (As.reverse ++ .ref b :: st) w := by
  intro t C H locs ls cells slots hP hS hl h1 h2
  have hok := hM.1
  obtain ⟨hnm, hsel1, hret⟩ : mj.y.name = "<init>" ∧ Cond.instanceMethod mj.y ∈ pp_T ∧ mj.ret = none := by
    rcases hok.2.2.2.2.2.2.1 with ⟨h, -⟩ | ⟨h, -⟩ | ⟨-, h⟩
    · rw [hkd] at h; cases h
    · rw [hkd] at h; cases h
    · exact h
  have e9 : (As.reverse ++ .ref b :: st).map (pp_v g) = (As.map (pp_v g)).reverse ++ .ref (pp_ad g b) :: st.map (pp_v g) := by
    rw [List.map_append, List.map_reverse]; rfl
  rw [e9]
  have hB := pp_callB C hok hh hR hlk
  rw [hret] at hB
  refine pp_after C hS hl (vx_runI (As := As.map (pp_v g)) (b := pp_ad g b) ⟨C.1, C.2.1, C.2.2.1, C.2.2.2.1, C.2.2.2.2.1⟩ hM.2 ⟨hB, hnm, C.2.2.2.2.1 _ hsel1⟩ ⟨pp_blind g _ w, pp_pre C hP hS (.ref b :: As)⟩ rfl (by rw [List.length_map]; exact hlen) hl.1 rfl (pp_rest g hst) hd ⟨by omega, by omega⟩) h1 h2 hk
/-- the nest mate's pairOf -/
theorem pr_callN {As : List Value} {P : pp_R → pp_W → Prop} (hown : mi.y.cls = RX0) (hmj : mj.y = yX8_pairOf) (hd : decode mi.by_ pc = .ok (.invokestatic 19, 3)) (hkd : mj.kd = 0) (hh : mj.hh = []) (hlen : As.length = mj.np) (hR : pp_big R h) (hc : cs.1 + mj.mc ≤ R.cells) (hs : cs.2 + mj.ms ≤ R.slots) (hst : st.length ≤ 4)
    (hM : pp_MW g h mj As w P) (hk : ∀ r w, P r w → pp_K1 g R mi Z (cs.1 + mj.mc, cs.2 + mj.ms) pc L st r w) : pp_ATc g R mi Z cs pc L (As.reverse ++ st) w := by
  intro t C H locs ls cells slots hP hS hl h1 h2
  have hok := hM.1
  have hcw : pp_cw mj = .code mj.y mj.by_ mj.nL mj.ret := if_pos hh
  have hn := hok.2.1
  have hsel1 : Cond.static mj.y ∈ pp_T := by
    rcases hok.2.2.2.2.2.2.1 with ⟨-, h⟩ | ⟨h, -⟩ | ⟨h, -⟩
    · exact h
    · rw [hkd] at h; cases h
    · rw [hkd] at h; cases h
  have e9 : (As.reverse ++ st).map (pp_v g) = (As.map (pp_v g)).reverse ++ st.map (pp_v g) := by
    rw [List.map_append, List.map_reverse]
  rw [e9]
  have hnest : (Cond.methodLinkNest mi.y.cls 19 mj.y RX8).before t.args t.s = true := by
    rw [hown, hmj]
    exact va_Nw.use rfl C.2.2.2.2.2.2.2.2.2.2.1.2.2.2.2.2.2.1
  refine pp_after C hS hl (vx_runSN (host := RX8) (As := As.map (pp_v g)) ⟨C.1, C.2.1, C.2.2.1, C.2.2.2.1, C.2.2.2.2.1⟩ hM.2 ⟨⟨⟨rfl, rfl, hR.1, ?_, pp_words C hok, by rw [hcw]; exact List.mem_cons_self⟩, by rw [← hcw]; exact C.2.2.2.2.1 _ hok.2.2.1, C.2.2.2.2.1 _ hok.2.2.2.1, hok.2.2.2.2.1, pp_np hok, hnest⟩, C.2.2.2.2.1 _ hsel1, trivial⟩ ⟨pp_blind g _ w, pp_pre C hP hS As⟩ rfl (by rw [List.length_map]; exact hlen) hl.1 rfl (pp_rest g hst) hd ⟨by omega, by omega⟩) h1 h2 hk
  show 8 + (mj.nL + 11) + (40 * h + 200) ≤ _
  have := hR.2
  omega
end Calls
end
section
/-! THE ENGINE, 8: a method's ends and its entry -/
section Ends
variable {g : pp_G} {R : Room} {mi : pp_MI} {P : pp_R → pp_W → Prop} {cs : Nat × Nat} {pc h : Nat} {L : List (Nat × Value)} {st : List Value} {w : pp_W}
theorem pp_SF {s t : State} {H : Heap} {locs : List Loc} (hS : va_S (pp_A g) s.heap H locs) (h1 : H.size ≤ t.heap.size) (h2 : ∀ q : Nat, q < H.size → t.heap[q]? = H[q]?) : va_F (pp_A g) s t :=
  ⟨Nat.le_trans hS.1 h1, fun q hq hA => (h2 q (Nat.lt_of_lt_of_le hq hS.1)).trans (hS.2.1 q hq hA)⟩
theorem pe_vret (hd : decode mi.by_ pc = .ok (.return_, 1)) (hr : mi.ret = none) (hc : cs.1 ≤ mi.mc) (hs : cs.2 ≤ mi.ms) (hP : P (.inl none) w) : pp_ATc g R mi (pp_Z g mi P) cs pc L [] w :=
  fun t C H locs ls cells slots hB hS hl h1 h2 => W.widen (k := mi.mc) (n := mi.ms) (Nat.le_trans h1 hc) (Nat.le_trans h2 hs) (vx_ret (W.vret C.1 C.2.1 (C.2.2.2.2.2.1.trans hr) (fun u hu hW => ⟨none, w, rfl, hP, by rw [hu]; exact hB, pp_SF hS (by rw [hu]; exact Nat.le_refl _) (fun q _ => by rw [hu])⟩) hS.2.2 hd C.2.2.2.2.2.2.1))
theorem pe_iret {x : Int32} {ty : FieldType} (hd : decode mi.by_ pc = .ok (.ireturn, 1)) (hr : mi.ret = some ty) (hn : narrow ty (.int x) = .int x) (hc : cs.1 ≤ mi.mc) (hs : cs.2 ≤ mi.ms) (hP : P (.inl (some (.int x))) w) : pp_ATc g R mi (pp_Z g mi P) cs pc L [.int x] w :=
  fun t C H locs ls cells slots hB hS hl h1 h2 => W.widen (k := mi.mc) (n := mi.ms) (Nat.le_trans h1 hc) (Nat.le_trans h2 hs) (vx_ret (W.zret C.1 C.2.1 (C.2.2.2.2.2.1.trans hr) hn (fun u hu hW => ⟨some (.int x), w, rfl, hP, by rw [hu]; exact hB, pp_SF hS (by rw [hu]; exact Nat.le_refl _) (fun q _ => by rw [hu])⟩) hS.2.2 hd C.2.2.2.2.2.2.1))
theorem pe_lret {x : Int64} (hd : decode mi.by_ pc = .ok (.lreturn, 1)) (hr : mi.ret = some .long) (hc : cs.1 ≤ mi.mc) (hs : cs.2 ≤ mi.ms) (hP : P (.inl (some (.long x))) w) : pp_ATc g R mi (pp_Z g mi P) cs pc L [.long x] w :=
  fun t C H locs ls cells slots hB hS hl h1 h2 => W.widen (k := mi.mc) (n := mi.ms) (Nat.le_trans h1 hc) (Nat.le_trans h2 hs) (vx_ret (W.lret C.1 C.2.1 (C.2.2.2.2.2.1.trans hr) (fun u hu hW => ⟨some (.long x), w, rfl, hP, by rw [hu]; exact hB, pp_SF hS (by rw [hu]; exact Nat.le_refl _) (fun q _ => by rw [hu])⟩) hS.2.2 hd C.2.2.2.2.2.2.1))
/-- not caught here -/
theorem pe_out {E : String} (hh : mi.hh = []) (hc : cs.1 ≤ mi.mc) (hs : cs.2 ≤ mi.ms) (hP : P (.inr E) w) : pp_XT g R mi (pp_Z g mi P) cs pc L st w E :=
  fun t C H locs ls cells slots hB hS hl h1 h2 q ce hce hv hcl => vx_out (fun x hx => by rw [C.2.2.2.2.2.2.2.2.1, hh] at hx; cases hx) C.2.2.2.2.2.2.1 hce hv hcl
    (fun u hu hvm => ⟨w, hP, by rw [hu]; exact hB, pp_SF hS (by rw [hu]; exact Nat.le_refl _) (fun q _ => by rw [hu])⟩) hS.2.2 (Nat.le_trans h1 hc) (Nat.le_trans h2 hs)
/-- the three exceptions: class, the number of its class in the pool of PatentPool, of its constructor -/
def pp_exs : List (String × Nat × Nat) := [("java/lang/IllegalArgumentException", 74, 78), ("java/lang/IllegalStateException", 229, 233), ("java/lang/IndexOutOfBoundsException", 249, 253)]
def pp_exn : List String := ["java/lang/RuntimeException", "java/lang/Exception"]
theorem pp_exA : ∀ q ∈ pp_exs, ∀ w ∈ Cond.classLink RX8 q.2.1 q.1 :: Cond.initialized q.1 :: vx_atS RX8 q.2.2 q.1 pp_exn, w ∈ pp_T := by
  have : (pp_exs.flatMap (fun q => Cond.classLink RX8 q.2.1 q.1 :: Cond.initialized q.1 :: vx_atS RX8 q.2.2 q.1 pp_exn)).all (fun w => decide (w ∈ lw_tbl) && pp_ok w) = true := by decide +kernel
  intro q hq w hw
  exact pp_sub this w (List.mem_flatMap.mpr ⟨q, hq, hw⟩)
theorem pp_exB : ∀ q ∈ pp_exs, ∀ w ∈ Cond.classLink RX8 q.2.1 q.1 :: Cond.initialized q.1 :: vx_atS RX8 q.2.2 q.1 pp_exn, vx_ot w = true := by decide +kernel
theorem pp_exC : ∀ q ∈ pp_exs, Bundle.fit q.1 = true := by decide +kernel
theorem pp_exD : ∀ n ∈ pp_exn, Bundle.fit n = true := by decide +kernel
/-- throw new E("text") -/
theorem pe_throw {is : Nat} {tx : String} {q : String × Nat × Nat} (hown : mi.y.cls = RX8) (hq : q ∈ pp_exs) (hm : (is, tx) ∈ pp_msgs) (hh : mi.hh = []) (hc : cs.1 + 1 ≤ mi.mc) (hs : cs.2 + 6 ≤ mi.ms)
    (d0 : decode mi.by_ pc = .ok (.new q.2.1, 3)) (d3 : decode mi.by_ (pc + 3) = .ok (.dup, 1)) (d4 : decode mi.by_ (pc + 4) = .ok (.ldc is, 2)) (d6 : decode mi.by_ (pc + 6) = .ok (.invokespecial q.2.2, 3)) (d9 : decode mi.by_ (pc + 9) = .ok (.athrow, 1)) (hst : st.length ≤ 4)
    (hP : ∀ k : Nat, P (.inr q.1) (w.1 ++ List.replicate k (15, 0), w.2)) : pp_ATc g (pp_room h mi) mi (pp_Z g mi P) cs pc L st w := by
  intro t C H locs ls cells slots hB hS hl h1 h2
  obtain ⟨hx, hb, hml, hown9, hts, hret, hlocks, hname, htab, hK, hE, hb0, htr⟩ := C
  obtain ⟨sa, hsa⟩ := hE.2.2.1 _ hm
  have hcat := pp_cat_le g st
  rw [hown] at hown9
  exact vx_throwS (A := pp_A g) (names := pp_exn) (own := RX8) hx hb htr.1 hown9 (pp_exC q hq) pp_exD (hts _ (pp_exA q hq _ List.mem_cons_self)) (hts _ (pp_exA q hq _ (List.mem_cons_of_mem _ List.mem_cons_self))) hsa (fun w hw => hts _ (pp_exA q hq w (List.mem_cons_of_mem _ (List.mem_cons_of_mem _ hw)))) (pp_exB q hq) hE.2.2.2.1 hE.2.2.2.2.1 hS (by rw [hml]; exact hl.1) d0 d3 d4 d6 d9
    (fun x hx => by rw [htab, hh] at hx; cases hx) (by show 5 < h + 8; omega) (by show _ + (13 * (2 + 1) + 43) ≤ 40 * h + 200; omega) (by show cells + 1 ≤ mi.mc; omega) (by show slots + 6 ≤ mi.ms; omega) hlocks
    (fun u hvm z o => ⟨_, hP _, hB.grow z o, pp_SF hS z o⟩) hS.2.2 (by omega) (by omega)
theorem pe_throwW {is : Nat} {tx : String} {q : String × Nat × Nat} (hown : mi.y.cls = RX8) (hq : q ∈ pp_exs) (hm : (is, tx) ∈ pp_msgs) (hh : mi.hh = []) (hc : cs.1 + 1 ≤ mi.mc) (hs : cs.2 + 6 ≤ mi.ms)
    (d0 : decode mi.by_ pc = .ok (.new q.2.1, 3)) (d3 : decode mi.by_ (pc + 3) = .ok (.dup, 1)) (d4 : decode mi.by_ (pc + 4) = .ok (.ldc_w is, 3)) (d6 : decode mi.by_ (pc + 7) = .ok (.invokespecial q.2.2, 3)) (d9 : decode mi.by_ (pc + 10) = .ok (.athrow, 1)) (hst : st.length ≤ 4)
    (hP : ∀ k : Nat, P (.inr q.1) (w.1 ++ List.replicate k (15, 0), w.2)) : pp_ATc g (pp_room h mi) mi (pp_Z g mi P) cs pc L st w := by
  intro t C H locs ls cells slots hB hS hl h1 h2
  obtain ⟨hx, hb, hml, hown9, hts, hret, hlocks, hname, htab, hK, hE, hb0, htr⟩ := C
  obtain ⟨sa, hsa⟩ := hE.2.2.1 _ hm
  have hcat := pp_cat_le g st
  rw [hown] at hown9
  exact vx_throwSW (A := pp_A g) (names := pp_exn) (own := RX8) hx hb htr.1 hown9 (pp_exC q hq) pp_exD (hts _ (pp_exA q hq _ List.mem_cons_self)) (hts _ (pp_exA q hq _ (List.mem_cons_of_mem _ List.mem_cons_self))) hsa (fun w hw => hts _ (pp_exA q hq w (List.mem_cons_of_mem _ (List.mem_cons_of_mem _ hw)))) (pp_exB q hq) hE.2.2.2.1 hE.2.2.2.2.1 hS (by rw [hml]; exact hl.1) d0 d3 d4 d6 d9
    (fun x hx => by rw [htab, hh] at hx; cases hx) (by show 5 < h + 8; omega) (by show _ + (13 * (2 + 1) + 43) ≤ 40 * h + 200; omega) (by show cells + 1 ≤ mi.mc; omega) (by show slots + 6 ≤ mi.ms; omega) hlocks
    (fun u hvm z o => ⟨_, hP _, hB.grow z o, pp_SF hS z o⟩) hS.2.2 (by omega) (by omega)
-- the entry
theorem pp_args_eq (g : pp_G) : ∀ (i : Nat) (av : List Value), lv_args i (av.map (pp_v g)) = pp_ls g (lv_args i av) := by
  intro i av
  induction av generalizing i with
  | nil => rfl
  | cons v av ih =>
    simp only [List.map_cons, lv_args, pp_v_cat, ih, pp_ls]
theorem pp_sl_len (g : pp_G) : ∀ (av : List Value), (lg_sl (av.map (pp_v g))).length = (lg_sl av).length := by
  intro av
  induction av with
  | nil => rfl
  | cons v av ih =>
    simp only [lg_sl, List.map_cons, List.flatMap_cons, List.length_append, pp_v_cat] at ih ⊢
    rw [ih]
    split <;> rfl
theorem pp_enter {av : List Value} (hok : pp_MIok mi) (hh : mi.hh = []) (hl : (lg_sl av).length ≤ mi.nL) (k : pp_ATc g (pp_room h mi) mi (pp_Z g mi P) (0, 0) 0 (lv_args 0 av) [] w) : pp_MW g h mi av w P := by
  have hcw : pp_cw mi = .code mi.y mi.by_ mi.nL mi.ret := if_pos hh
  refine ⟨hok, ?_⟩
  rw [hcw]
  refine vx_ofW (cc := mi.by_) (maxL := mi.nL) (ret := mi.ret) hok.1 rfl ?_
  intro p e s m args below meth c s₁ B hml ht hP
  obtain ⟨rfl, hB, hK, hE, htr⟩ := hP
  have hts : ∀ w ∈ pp_T, w.before (av.map (pp_v g)).toArray s = true := fun w hw => atoms_spec (ws := Cond.code mi.y mi.by_ mi.nL mi.ret :: pp_T) B.pre w (List.mem_cons_of_mem _ hw)
  have hent := lv_entry (av.map (pp_v g)) (n := mi.nL) (by rw [pp_sl_len]; exact hl)
  rw [lg_entry_eq]
  rw [pp_args_eq] at hent
  refine k (p, e, s, m, (av.map (pp_v g)).toArray, below, meth, c) ⟨B.exec, B.bytes, hml, findClass_of_methodNamed B.named, hts, B.returns, B.notSynchronized, (name_of_methodNamed B.named B.method).1, ?_, hK, hE, ?_, htr, fun q => absurd q hok.2.2.2.2.2.2.2⟩ s.heap [] _ 0 0 hB va_S.rf hent (Nat.le_refl _) (Nat.le_refl _)
  · show c.exceptionTable.toList = tableOf mi.hh
    rw [hh]
    exact List.eq_nil_iff_forall_not_mem.mpr fun x hx => ht x hx
  · show pp_b g ≤ s.heap.size
    rw [hB.2.1]
    exact Nat.le_add_right _ _
end Ends
end
section
/-! THE ENGINE, 9: what an instruction asks -/
abbrev pp_Lk : Type := (Nat × Nat × List Nat) ⊕ (pp_MI × Nat × Nat × List Nat) ⊕ (Value × Nat)
abbrev pp_St : Type := List (Nat × Value) → List Value → pp_W → Prop
def pp_i (st : List Value) (k : Int32 → List Value → Prop) : Prop := match st with
  | .int x :: st => k x st
  | _ => False
def pp_j (st : List Value) (k : Int64 → List Value → Prop) : Prop := match st with
  | .long x :: st => k x st
  | _ => False
def pp_r (st : List Value) (k : Nat → List Value → Prop) : Prop := match st with
  | .ref x :: st => k x st
  | _ => False
def pp_q (st : List Value) (k : Option Nat → List Value → Prop) : Prop := match st with
  | .ref x :: st => k (some x) st
  | .null :: st => k none st
  | _ => False
def pp_1 (st : List Value) (k : Value → List Value → Prop) : Prop := match st with
  | v :: st => pp_wide v = false ∧ k v st
  | _ => False
def pp_2 (st : List Value) (k : Value → List Value → Prop) : Prop := match st with
  | v :: st => pp_wide v = true ∧ k v st
  | _ => False
def pp_li (L : List (Nat × Value)) (i : Nat) (k : Int32 → Prop) : Prop := match L.lookup i with
  | some (.int x) => k x
  | _ => False
def pp_lj (L : List (Nat × Value)) (i : Nat) (k : Int64 → Prop) : Prop := match L.lookup i with
  | some (.long x) => k x
  | _ => False
def pp_la (L : List (Nat × Value)) (i : Nat) (k : Value → Prop) : Prop := match L.lookup i with
  | some (.ref x) => k (.ref x)
  | some .null => k .null
  | _ => False
def pp_in (w : pp_W) (a t : Nat) (j : Int32) (k : Prop) : Prop := match w.1[a]? with
  | some q => q.1 = t ∧ vp_in j q.2 ∧ k
  | none => False
def pp_al (w : pp_W) (a : Nat) (k : Nat → Prop) : Prop := match w.1[a]? with
  | some q => (10 ≤ q.1 ∧ q.1 ≤ 14) ∧ k q.2
  | none => False
def pp_args : List Nat → List Value → List Value → (List Value → List Value → Prop) → Prop
  | [], acc, st, k => k acc st
  | _ :: l, acc, v :: st, k => pp_args l (v :: acc) st k
  | _ :: _, _, [], _ => False
def pp_cond (c : ClassFile.Cond) (x y : Int32) : Prop := match c with
  | .eq => x = y
  | .ne => ¬ x = y
  | .lt => x < y
  | .ge => y ≤ x
  | .gt => y < x
  | .le => x ≤ y
def pp_ncond (c : ClassFile.Cond) (x y : Int32) : Prop := match c with
  | .eq => ¬ x = y
  | .ne => x = y
  | .lt => ¬ x < y
  | .ge => ¬ y ≤ x
  | .gt => ¬ y < x
  | .le => ¬ x ≤ y
def pp_sw (X : Nat → Prop) (x : Int32) : Int → List Nat → Prop
  | _, [] => True
  | lo, t :: ts => (x = Int32.ofInt lo → X t) ∧ pp_sw X x (lo + 1) ts
def pp_rok (r : Option FieldType) (x : Int32) : Prop := match r with
  | some .int => True
  | some .boolean => x = 0 ∨ x = 1
  | some t => narrow t (.int x) = .int x
  | none => False
def pp_kr (K : pp_St) (Y : String → pp_W → Prop) (L : List (Nat × Value)) (st : List Value) : pp_R → pp_W → Prop := fun r w => match r with
  | .inl none => K L st w
  | .inl (some v) => K L (v :: st) w
  | .inr E => Y E w
def pp_sp (g : pp_G) (h : Nat) (ret : Option FieldType) (P : pp_R → pp_W → Prop) (Y : String → pp_W → Prop) (X : Nat → pp_St) (i : Instr) (lk : pp_Lk) (L : List (Nat × Value)) (st : List Value) (w : pp_W) (K : pp_St) : Prop := match i with
  | .aconst_null => K L (.null :: st) w
  | .iconst _ | .bipush _ | .sipush _ | .lconst _ | .ldc _ | .ldc_w _ | .ldc2_w _ => match lk with
    | .inr (.inr (v, _)) => K L (v :: st) w
    | _ => False
  | .iload k => pp_li L k (fun x => K L (.int x :: st) w)
  | .iload_n k => pp_li L k.val (fun x => K L (.int x :: st) w)
  | .lload k => pp_lj L k (fun x => K L (.long x :: st) w)
  | .lload_n k => pp_lj L k.val (fun x => K L (.long x :: st) w)
  | .aload k => pp_la L k (fun v => K L (v :: st) w)
  | .aload_n k => pp_la L k.val (fun v => K L (v :: st) w)
  | .istore k => pp_i st (fun x st => K (pp_put1 k (.int x) L) st w)
  | .istore_n k => pp_i st (fun x st => K (pp_put1 k.val (.int x) L) st w)
  | .lstore k => pp_j st (fun x st => K (pp_put2 k (.long x) L) st w)
  | .lstore_n k => pp_j st (fun x st => K (pp_put2 k.val (.long x) L) st w)
  | .astore k => pp_q st (fun x st => K (pp_put1 k (pp_rf x) L) st w)
  | .astore_n k => pp_q st (fun x st => K (pp_put1 k.val (pp_rf x) L) st w)
  | .iinc k _ => match lk with
    | .inr (.inr (.int c, _)) => pp_li L k (fun x => K (pp_put1 k (.int (x + c)) L) st w)
    | _ => False
  | .iadd => pp_i st (fun y st => pp_i st (fun x st => K L (.int (x + y) :: st) w))
  | .isub => pp_i st (fun y st => pp_i st (fun x st => K L (.int (x - y) :: st) w))
  | .imul => pp_i st (fun y st => pp_i st (fun x st => K L (.int (x * y) :: st) w))
  | .iand => pp_i st (fun y st => pp_i st (fun x st => K L (.int (x &&& y) :: st) w))
  | .ior => pp_i st (fun y st => pp_i st (fun x st => K L (.int (x ||| y) :: st) w))
  | .ixor => pp_i st (fun y st => pp_i st (fun x st => K L (.int (x ^^^ y) :: st) w))
  | .ishl => pp_i st (fun y st => pp_i st (fun x st => K L (.int (x <<< (y &&& 31)) :: st) w))
  | .ishr => pp_i st (fun y st => pp_i st (fun x st => K L (.int (x >>> (y &&& 31)) :: st) w))
  | .iushr => pp_i st (fun y st => pp_i st (fun x st => K L (.int (x.toUInt32 >>> (y.toUInt32 &&& Int32.toUInt32 31)).toInt32 :: st) w))
  | .idiv => pp_i st (fun y st => pp_i st (fun x st => ¬ y = 0 ∧ K L (.int (x / y) :: st) w))
  | .ladd => pp_j st (fun y st => pp_j st (fun x st => K L (.long (x + y) :: st) w))
  | .lsub => pp_j st (fun y st => pp_j st (fun x st => K L (.long (x - y) :: st) w))
  | .lmul => pp_j st (fun y st => pp_j st (fun x st => K L (.long (x * y) :: st) w))
  | .land => pp_j st (fun y st => pp_j st (fun x st => K L (.long (x &&& y) :: st) w))
  | .lor => pp_j st (fun y st => pp_j st (fun x st => K L (.long (x ||| y) :: st) w))
  | .lxor => pp_j st (fun y st => pp_j st (fun x st => K L (.long (x ^^^ y) :: st) w))
  | .ldiv => pp_j st (fun y st => pp_j st (fun x st => ¬ y = 0 ∧ K L (.long (x / y) :: st) w))
  | .lrem => pp_j st (fun y st => pp_j st (fun x st => ¬ y = 0 ∧ K L (.long (x - x / y * y) :: st) w))
  | .lcmp => pp_j st (fun y st => pp_j st (fun x st => K L (.int (lg_cmp x y) :: st) w))
  | .lshl => pp_i st (fun y st => pp_j st (fun x st => K L (.long (x <<< (y.toInt64 &&& 63)) :: st) w))
  | .i2l => pp_i st (fun x st => K L (.long x.toInt64 :: st) w)
  | .i2b => pp_i st (fun x st => K L (.int x.toInt8.toInt32 :: st) w)
  | .l2i => pp_j st (fun x st => K L (.int x.toInt32 :: st) w)
  | .dup => pp_1 st (fun v st => K L (v :: v :: st) w)
  | .pop => pp_1 st (fun _ st => K L st w)
  | .pop2 => pp_2 st (fun _ st => K L st w)
  | .dup2 => pp_1 st (fun v st => pp_1 st (fun u st => K L (v :: u :: v :: u :: st) w))
  | .ifCond c _ => match lk with
    | .inl (t, _, _) => pp_i st (fun x st => (pp_cond c x 0 → X t L st w) ∧ (pp_ncond c x 0 → K L st w))
    | _ => False
  | .if_icmp c _ => match lk with
    | .inl (t, _, _) => pp_i st (fun y st => pp_i st (fun x st => (pp_cond c x y → X t L st w) ∧ (pp_ncond c x y → K L st w)))
    | _ => False
  | .goto _ => match lk with
    | .inl (t, _, _) => X t L st w
    | _ => False
  | .ifnull _ => match lk with
    | .inl (t, _, _) => pp_q st (fun x st => match x with
      | none => X t L st w
      | some _ => K L st w)
    | _ => False
  | .ifnonnull _ => match lk with
    | .inl (t, _, _) => pp_q st (fun x st => match x with
      | none => K L st w
      | some _ => X t L st w)
    | _ => False
  | .tableswitch _ lo hi _ => match lk with
    | .inl (d, _, ts) => pp_i st (fun x st => pp_sw (fun t => X t L st w) x lo ts ∧ ((x.toInt < lo ∨ hi < x.toInt) → X d L st w))
    | _ => False
  | .getfield _ => match lk with
    | .inl (ci, k, 0 :: _) => pp_r st (fun a st => w.1[a]? = some (ci, 0) ∧ K L (.int (w.2.1 a k) :: st) w)
    | .inl (ci, k, 1 :: _) => pp_r st (fun a st => w.1[a]? = some (ci, 0) ∧ K L (.long (w.2.2.1 a k) :: st) w)
    | .inl (ci, k, 2 :: _) => pp_r st (fun a st => w.1[a]? = some (ci, 0) ∧ K L (pp_rf (w.2.2.2 a k) :: st) w)
    | .inl (_, _, 3 :: _) => pp_r st (fun a st => (1 ≤ a ∧ a ≤ 15) ∧ K L (.ref (a + 15) :: st) w)
    | .inl (_, _, 4 :: _) => pp_r st (fun a st => (1 ≤ a ∧ a ≤ 15) ∧ K L (.int 0 :: st) w)
    | _ => False
  | .getstatic _ => match lk with
    | .inl (0, _, _) => K L (.int 1 :: st) w
    | .inl (1, _, _) => K L (.null :: st) w ∧ K L (.ref 31 :: st) w
    | _ => False
  | .i2c => pp_i st (fun x st => K L (.int (x.toUInt32 % 65536).toInt32 :: st) w)
  | .putfield _ => match lk with
    | .inl (ci, k, 0 :: _) => pp_i st (fun x st => pp_r st (fun a st => w.1[a]? = some (ci, 0) ∧ K L st (w.1, pp_s w.2.1 a (va_up (w.2.1 a) k x), w.2.2)))
    | .inl (ci, k, 1 :: _) => pp_j st (fun x st => pp_r st (fun a st => w.1[a]? = some (ci, 0) ∧ K L st (w.1, w.2.1, pp_s w.2.2.1 a (va_up (w.2.2.1 a) k x), w.2.2.2)))
    | .inl (ci, k, 2 :: _) => pp_q st (fun x st => pp_r st (fun a st => w.1[a]? = some (ci, 0) ∧ K L st (w.1, w.2.1, w.2.2.1, pp_s w.2.2.2 a (va_up (w.2.2.2 a) k x))))
    | _ => False
  | .arraylength => match lk with
    | .inl (0, _, _) => pp_r st (fun a st => pp_al w a (fun n => K L (.int (Int32.ofNat n) :: st) w))
    | .inl (1, _, _) => pp_r st (fun a st => a = 0 ∧ K L (.int (Int32.ofNat (pp_sL g)) :: st) w)
    | .inl (2, _, _) => pp_r st (fun a st => (16 ≤ a ∧ a ≤ 30) ∧ K L (.int (Int32.ofNat (pp_txt.getD (a - 16) []).length) :: st) w)
    | _ => False
  | .iaload => match lk with
    | .inl (0, _, _) => pp_i st (fun j st => pp_r st (fun a st => pp_in w a 10 j (K L (.int (w.2.1 a j.toNatClampNeg) :: st) w)))
    | .inl (1, _, _) => pp_i st (fun j st => pp_r st (fun a st => a = 0 ∧ vp_in j (pp_sL g) ∧ K L (.int (pp_sx g j.toNatClampNeg) :: st) w))
    | _ => False
  | .baload => match lk with
    | .inl (0, _, _) => pp_i st (fun j st => pp_r st (fun a st => pp_in w a 11 j (K L (.int (w.2.1 a j.toNatClampNeg) :: st) w)))
    | .inl (1, _, _) => pp_i st (fun j st => pp_r st (fun a st => pp_in w a 12 j (K L (.int (w.2.1 a j.toNatClampNeg) :: st) w)))
    | .inl (2, _, _) => pp_i st (fun j st => pp_r st (fun a st => (16 ≤ a ∧ a ≤ 30) ∧ vp_in j (pp_txt.getD (a - 16) []).length ∧ K L (.int ((pp_txt.getD (a - 16) []).getD j.toNatClampNeg 0) :: st) w))
    | _ => False
  | .laload => pp_i st (fun j st => pp_r st (fun a st => pp_in w a 13 j (K L (.long (w.2.2.1 a j.toNatClampNeg) :: st) w)))
  | .aaload => pp_i st (fun j st => pp_r st (fun a st => pp_in w a 14 j (K L (pp_rf (w.2.2.2 a j.toNatClampNeg) :: st) w)))
  | .iastore => pp_i st (fun x st => pp_i st (fun j st => pp_r st (fun a st => pp_in w a 10 j (K L st (w.1, pp_s w.2.1 a (va_up (w.2.1 a) j.toNatClampNeg x), w.2.2)))))
  | .bastore => match lk with
    | .inl (0, _, _) => pp_i st (fun x st => pp_i st (fun j st => pp_r st (fun a st => pp_in w a 11 j (K L st (w.1, pp_s w.2.1 a (va_up (w.2.1 a) j.toNatClampNeg x.toInt8.toInt32), w.2.2)))))
    | .inl (1, _, _) => pp_i st (fun x st => pp_i st (fun j st => pp_r st (fun a st => pp_in w a 12 j ((x = 0 ∨ x = 1) ∧ K L st (w.1, pp_s w.2.1 a (va_up (w.2.1 a) j.toNatClampNeg x), w.2.2)))))
    | _ => False
  | .lastore => pp_j st (fun x st => pp_i st (fun j st => pp_r st (fun a st => pp_in w a 13 j (K L st (w.1, w.2.1, pp_s w.2.2.1 a (va_up (w.2.2.1 a) j.toNatClampNeg x), w.2.2.2)))))
  | .aastore => pp_q st (fun x st => pp_i st (fun j st => pp_r st (fun a st => pp_in w a 14 j ((∀ b, x = some b → w.1[b]? = some (4, 0)) ∧ K L st (w.1, w.2.1, w.2.2.1, pp_s w.2.2.2 a (va_up (w.2.2.2 a) j.toNatClampNeg x))))))
  | .new _ => match lk with
    | .inl (ci, _, _) => K L (.ref w.1.length :: st) (pp_nw w (ci, 0))
    | _ => False
  | .newarray _ => match lk with
    | .inl (t, n, _) => pp_i st (fun x st => x = Int32.ofNat n ∧ K L (.ref w.1.length :: st) (pp_nw w (t, n)))
    | _ => False
  | .anewarray _ => match lk with
    | .inl (_, n, _) => pp_i st (fun x st => x = Int32.ofNat n ∧ K L (.ref w.1.length :: st) (pp_nw w (14, n)))
    | _ => False
  | .invokespecial _ => match lk with
    | .inl _ => pp_r st (fun _ st => st.length ≤ 4 ∧ K L st w)
    | .inr (.inl (mj, _, _, l)) => pp_args l [] st (fun av st => st.length ≤ 4 ∧ pp_r av (fun _ _ => True) ∧ pp_MW g h mj av w (pp_kr K Y L st))
    | _ => False
  | .invokevirtual _ => match lk with
    | .inr (.inl (mj, ci, _, 0 :: l)) => pp_args (0 :: l) [] st (fun av st => st.length ≤ 4 ∧ pp_r av (fun b _ => w.1[b]? = some (ci, 0)) ∧ pp_MW g h mj av w (pp_kr K Y L st))
    | .inr (.inl (mj, _, _, 1 :: l)) => pp_args (1 :: l) [] st (fun av st => st.length ≤ 4 ∧ pp_r av (fun b _ => 1 ≤ b ∧ b ≤ 15) ∧ pp_MW g h mj av w (pp_kr K Y L st))
    | _ => False
  | .invokestatic _ => match lk with
    | .inl (0, _, _) => pp_i st (fun n st => pp_i st (fun dp st => pp_r st (fun b st => pp_i st (fun sp st => pp_r st (fun a st => st.length ≤ 4 ∧ ¬ sp < 0 ∧ ¬ dp < 0 ∧ ¬ n < 0 ∧ pp_al w a (fun n0 => sp.toNatClampNeg + n.toNatClampNeg ≤ n0) ∧ pp_al w b (fun n1 => dp.toNatClampNeg + n.toNatClampNeg ≤ n1) ∧
        w.1[a]?.map Prod.fst = some 10 ∧ w.1[b]?.map Prod.fst = some 10 ∧ K L st (w.1, pp_s w.2.1 b (va_cpy (w.2.1 a) (w.2.1 b) sp.toNatClampNeg dp.toNatClampNeg n.toNatClampNeg), w.2.2))))))
    | .inl (1, _, _) => pp_i st (fun n st => pp_i st (fun dp st => pp_r st (fun b st => pp_i st (fun sp st => pp_r st (fun a st => st.length ≤ 4 ∧ ¬ sp < 0 ∧ ¬ dp < 0 ∧ ¬ n < 0 ∧ pp_al w a (fun n0 => sp.toNatClampNeg + n.toNatClampNeg ≤ n0) ∧ pp_al w b (fun n1 => dp.toNatClampNeg + n.toNatClampNeg ≤ n1) ∧
        w.1[a]?.map Prod.fst = some 13 ∧ w.1[b]?.map Prod.fst = some 13 ∧ K L st (w.1, w.2.1, pp_s w.2.2.1 b (va_cpy (w.2.2.1 a) (w.2.2.1 b) sp.toNatClampNeg dp.toNatClampNeg n.toNatClampNeg), w.2.2.2))))))
    | .inl (2, _, _) => pp_i st (fun y st => pp_i st (fun x st => st.length ≤ 4 ∧ K L (.int (if y < x then y else x) :: st) w))
    | .inl (3, _, _) => pp_i st (fun y st => pp_i st (fun x st => st.length ≤ 4 ∧ K L (.int (if x < y then y else x) :: st) w))
    | .inl (4, _, _) => pp_j st (fun y st => pp_j st (fun x st => st.length ≤ 4 ∧ K L (.long (if y < x then y else x) :: st) w))
    | .inr (.inl (mj, _, _, l)) => pp_args l [] st (fun av st => st.length ≤ 4 ∧ pp_MW g h mj av w (pp_kr K Y L st))
    | _ => False
  | .ireturn => match st with
    | [.int x] => pp_rok ret x ∧ P (.inl (some (.int x))) w
    | _ => False
  | .lreturn => match st with
    | [.long x] => P (.inl (some (.long x))) w
    | _ => False
  | .return_ => match st with
    | [] => P (.inl none) w
    | _ => False
  | .athrow => match lk with
    | .inl (e, _, _) => st.length ≤ 4 ∧ ∀ k : Nat, P (.inr ((pp_exs.getD e ("", 0, 0)).1)) (w.1 ++ List.replicate k (15, 0), w.2)
    | _ => False
  | _ => False
abbrev pp_Seg : Type := List (Instr × pp_Lk)
def pp_wp (g : pp_G) (h : Nat) (ret : Option FieldType) (P : pp_R → pp_W → Prop) (Y : String → pp_W → Prop) (X : Nat → pp_St) (e : Nat) : pp_Seg → pp_St
  | [] => fun L st w => X e L st w
  | q :: s => fun L st w => pp_sp g h ret P Y X q.1 q.2 L st w (pp_wp g h ret P Y X e s)
end
section
/-! THE ENGINE, 10: what is checked of a listing, by program -/
def pp_w (i : Nat) (w : Cond) : Bool := decide (lw_tbl[i]? = some w) && pp_ok w
theorem pp_w_in {i : Nat} {w : Cond} (h : pp_w i w = true) : w ∈ pp_T := by
  simp only [pp_w, Bool.and_eq_true, decide_eq_true_eq] at h
  exact pp_mem i h.1 h.2
def pp_len (i : Instr) (lk : pp_Lk) : Nat := match i with
  | .aload _ | .iload _ | .lload _ | .istore _ | .lstore _ | .astore _ | .bipush _ | .ldc _ | .newarray _ => 2
  | .sipush _ | .ldc_w _ | .ldc2_w _ | .iinc _ _ | .ifCond _ _ | .if_icmp _ _ | .goto _ | .ifnull _ | .ifnonnull _ | .getfield _ | .getstatic _ | .putfield _ | .new _ | .anewarray _ | .invokespecial _ | .invokevirtual _ | .invokestatic _ => 3
  | .tableswitch _ _ _ _ => match lk with
    | .inl (_, n, _) => n
    | _ => 1
  | .athrow => match lk with
    | .inl (_, _, 0 :: _) => 10
    | _ => 11
  | _ => 1
def pp_cs (i : Instr) (lk : pp_Lk) (c : Nat × Nat) : Nat × Nat := match i with
  | .new _ | .newarray _ | .anewarray _ => match lk with
    | .inl (_, n, _) => (c.1 + 1, c.2 + n)
    | _ => c
  | .invokespecial _ | .invokevirtual _ | .invokestatic _ => match lk with
    | .inr (.inl (mj, _, _, _)) => (c.1 + mj.mc, c.2 + mj.ms)
    | _ => c
  | _ => c
def pp_le (a b : Nat × Nat) : Bool := a.1.ble b.1 && a.2.ble b.2
theorem pp_le_1 {a b : Nat × Nat} (h : pp_le a b = true) : a.1 ≤ b.1 ∧ a.2 ≤ b.2 := by
  simp only [pp_le, Bool.and_eq_true] at h
  exact ⟨Nat.le_of_ble_eq_true h.1, Nat.le_of_ble_eq_true h.2⟩
def pp_tgt (mi : pp_MI) (pc : Nat) (c : Nat × Nat) (off : Int) (t : Nat) : Bool := decide ((pc : Int) + off = (t : Int)) && pp_le c (pp_cnt mi t)
def pp_fl (mi : pp_MI) (idx ci k t p : Nat) (put : Bool) : Bool := match pp_cl[ci]? with
  | some r => decide (k < r.2.2) && decide (pp_fk ci k = t) && pp_w p (.fieldLink mi.y.cls idx (r.2.1 k).1 (r.2.1 k).2.1 (r.2.1 k).2.2.1) && (!put || !(r.2.1 k).2.2.2 || (decide (mi.y.name = "<init>") && decide ((r.2.1 k).1 = mi.y.cls)))
  | none => false
def pp_atk (a : ArrayType) : Nat := match a with
  | .int => 10
  | .byte => 11
  | .boolean => 12
  | .long => 13
  | _ => 99
def pp_call (mi mj : pp_MI) (c : Nat × Nat) (idx p kd n : Nat) : Bool := decide (mj.kd = kd) && decide (n = mj.np) && pp_w p (.methodLink mi.y.cls idx mj.y) && pp_le (c.1 + mj.mc, c.2 + mj.ms) (mi.mc, mi.ms)
def pp_hok (mi : pp_MI) (pc : Nat) : Bool := mi.hh.all (fun q => q.1.ble pc && pc.blt q.2.1)
def pp_stt (mi : pp_MI) (pc : Nat) (c : Nat × Nat) (i : Instr) (lk : pp_Lk) : Bool := match i with
  | .iconst n => match lk with
    | .inr (.inr (.int v, _)) => decide (Int32.ofInt n = v)
    | _ => false
  | .bipush n => match lk with
    | .inr (.inr (.int v, _)) => decide ((Int8.ofInt n).toInt32 = v)
    | _ => false
  | .sipush n => match lk with
    | .inr (.inr (.int v, _)) => decide ((Int16.ofInt n).toInt32 = v)
    | _ => false
  | .lconst n => match lk with
    | .inr (.inr (.long v, _)) => decide (Int64.ofNat (n : Nat) = v)
    | _ => false
  | .ldc n => match lk with
    | .inr (.inr (.int v, p)) => pp_w p (.constant mi.y.cls n v)
    | .inr (.inr (.ref k, p)) => match pp_strs[p]? with
      | some q => decide (q.1 = mi.y.cls) && decide (q.2.1 = n) && decide (q.2.2.2 = k) && k.blt 64
      | none => false
    | _ => false
  | .ldc_w n => match lk with
    | .inr (.inr (.int v, p)) => pp_w p (.constant mi.y.cls n v)
    | _ => false
  | .ldc2_w n => match lk with
    | .inr (.inr (.long v, p)) => pp_w p (.constantLong mi.y.cls n v)
    | _ => false
  | .istore k | .astore k => k.blt mi.nL
  | .istore_n k | .astore_n k => k.val.blt mi.nL
  | .lstore k => (k + 1).blt mi.nL
  | .lstore_n k => (k.val + 1).blt mi.nL
  | .iinc k n => match lk with
    | .inr (.inr (.int v, _)) => decide (Int32.ofInt n = v) && k.blt mi.nL
    | _ => false
  | .ifCond _ o | .if_icmp _ o | .goto o | .ifnull o | .ifnonnull o => match lk with
    | .inl (t, _, _) => pp_tgt mi pc c o t
    | _ => false
  | .tableswitch d lo hi offs => match lk with
    | .inl (td, _, ts) => pp_tgt mi pc c d td && decide (hi + 1 = lo + ts.length) && decide (offs.toList.map (fun o => (pc : Int) + o) = ts.map Int.ofNat) && ts.all (fun t => pp_le c (pp_cnt mi t))
    | _ => false
  | .getfield n => match lk with
    | .inl (_, _, 3 :: p :: _) => pp_w p (.fieldLink mi.y.cls n "java/lang/String" "value" "[B")
    | .inl (_, _, 4 :: p :: _) => pp_w p (.fieldLink mi.y.cls n "java/lang/String" "coder" "B")
    | .inl (ci, k, t :: p :: _) => pp_fl mi n ci k t p false
    | _ => false
  | .getstatic n => match lk with
    | .inl (0, p, _) => pp_w p (.fieldLink mi.y.cls n "java/lang/String" "COMPACT_STRINGS" "Z")
    | .inl (1, p, _) => pp_w p (.fieldLink mi.y.cls n "jdk/internal/util/Preconditions" "SIOOBE_FORMATTER" "Ljava/util/function/BiFunction;")
    | _ => false
  | .putfield n => match lk with
    | .inl (ci, k, t :: p :: _) => pp_fl mi n ci k t p true
    | _ => false
  | .arraylength | .iaload => match lk with
    | .inl (0, _, _) => true
    | .inl (1, _, _) => decide (mi.y = yL_law)
    | .inl (2, _, _) => true
    | _ => false
  | .new n => match lk with
    | .inl (ci, k, p :: _) => match pp_cl[ci]? with
      | some r => decide (r.2.2 = k) && pp_w p (.classLink mi.y.cls n r.1) && pp_le (c.1 + 1, c.2 + k) (mi.mc, mi.ms)
      | none => false
    | _ => false
  | .newarray a => match lk with
    | .inl (t, k, _) => decide (pp_atk a = t) && t.blt 15 && k.blt 100000 && pp_le (c.1 + 1, c.2 + k) (mi.mc, mi.ms)
    | _ => false
  | .anewarray n => match lk with
    | .inl (_, k, p :: _) => pp_w p (.classLink mi.y.cls n RX4) && k.blt 100000 && pp_le (c.1 + 1, c.2 + k) (mi.mc, mi.ms)
    | _ => false
  | .invokespecial n => match lk with
    | .inl (p, _, _) => pp_w p (.methodLink mi.y.cls n Lib.objectInit)
    | .inr (.inl (mj, _, p, l)) => pp_call mi mj c n p 2 (l.length - 1) && !l.isEmpty && mj.hh.isEmpty && pp_hok mi pc
    | _ => false
  | .invokevirtual n => match lk with
    | .inr (.inl (mj, ci, p, 0 :: l)) => pp_call mi mj c n p 1 l.length && mj.hh.isEmpty && pp_hok mi pc && (match pp_cl[ci]? with
      | some r => decide (r.1 = mj.y.cls)
      | none => false)
    | .inr (.inl (mj, _, p, 1 :: l)) => pp_call mi mj c n p 1 l.length && mj.hh.isEmpty && pp_hok mi pc && decide (mj.y.cls = "java/lang/String")
    | _ => false
  | .invokestatic n => match lk with
    | .inl (0, p, _) => pp_w p (.methodLink mi.y.cls n arraycopyName)
    | .inl (1, p, _) => pp_w p (.methodLink mi.y.cls n arraycopyName)
    | .inl (2, p, _) => pp_w p (.methodLink mi.y.cls n Lib.Math.min.name) && pp_le c (mi.mc, mi.ms)
    | .inl (3, p, _) => pp_w p (.methodLink mi.y.cls n Lib.Math.max.name) && pp_le c (mi.mc, mi.ms)
    | .inl (4, p, _) => pp_w p (.methodLink mi.y.cls n Lib.MathLoose.min_long.x) && pp_le c (mi.mc, mi.ms)
    | .inr (.inl (mj, k, p, l)) => if k = 9999 then decide (mi.y.cls = RX0) && decide (mj.y = yX8_pairOf) && decide (n = 19) && decide (mj.kd = 0) && mj.hh.isEmpty && decide (l.length = mj.np) && pp_le (c.1 + mj.mc, c.2 + mj.ms) (mi.mc, mi.ms) && pp_hok mi pc
      else pp_call mi mj c n p 0 l.length && pp_hok mi pc
    | _ => false
  | .ireturn => pp_le c (mi.mc, mi.ms)
  | .lreturn => pp_le c (mi.mc, mi.ms) && decide (mi.ret = some .long)
  | .return_ => pp_le c (mi.mc, mi.ms) && decide (mi.ret = none)
  | _ => true
/-- the listing of a method from pc on; its counts -/
def pp_chk (mi : pp_MI) (e : Nat) : Nat → Nat × Nat → pp_Seg → Bool
  | pc, c, [] => decide (pc = e) && pp_le c (pp_cnt mi e)
  | pc, c, q :: s => match q.1 with
    | .athrow => match q.2 with
      | .inl (x, is, wd :: mp :: _) => match pp_exs[x]?, pp_msgs[mp]? with
        | some z, some y => decide (mi.y.cls = RX8) && decide (y.1 = is) && mi.hh.isEmpty && pp_le (c.1 + 1, c.2 + 6) (mi.mc, mi.ms) && decide (decode mi.by_ pc = .ok (.new z.2.1, 3)) && decide (decode mi.by_ (pc + 3) = .ok (.dup, 1)) &&
          (if wd = 0 then decide (decode mi.by_ (pc + 4) = .ok (.ldc is, 2)) && decide (decode mi.by_ (pc + 6) = .ok (.invokespecial z.2.2, 3)) && decide (decode mi.by_ (pc + 9) = .ok (.athrow, 1))
           else decide (decode mi.by_ (pc + 4) = .ok (.ldc_w is, 3)) && decide (decode mi.by_ (pc + 7) = .ok (.invokespecial z.2.2, 3)) && decide (decode mi.by_ (pc + 10) = .ok (.athrow, 1)))
        | _, _ => false
      | _ => false
    | i => decide (decode mi.by_ pc = .ok (i, pp_len i q.2)) && pp_stt mi pc c i q.2 && pp_chk mi e (pc + pp_len i q.2) (pp_cs i q.2 c) s
end
section
/-! THE ENGINE, 11: what was checked is sound -/
theorem pp_i_e {st : List Value} {k : Int32 → List Value → Prop} (h : pp_i st k) : ∃ x s, st = .int x :: s ∧ k x s := by
  unfold pp_i at h
  split at h
  · exact ⟨_, _, rfl, h⟩
  · exact h.elim
theorem pp_j_e {st : List Value} {k : Int64 → List Value → Prop} (h : pp_j st k) : ∃ x s, st = .long x :: s ∧ k x s := by
  unfold pp_j at h
  split at h
  · exact ⟨_, _, rfl, h⟩
  · exact h.elim
theorem pp_r_e {st : List Value} {k : Nat → List Value → Prop} (h : pp_r st k) : ∃ x s, st = .ref x :: s ∧ k x s := by
  unfold pp_r at h
  split at h
  · exact ⟨_, _, rfl, h⟩
  · exact h.elim
theorem pp_q_e {st : List Value} {k : Option Nat → List Value → Prop} (h : pp_q st k) : ∃ x s, st = pp_rf x :: s ∧ k x s := by
  unfold pp_q at h
  split at h
  · exact ⟨some _, _, rfl, h⟩
  · exact ⟨none, _, rfl, h⟩
  · exact h.elim
theorem pp_wide_1 {v : Value} (h : pp_wide v = false) : v.category = 1 := by cases v <;> first | rfl | cases h
theorem pp_wide_2 {v : Value} (h : pp_wide v = true) : v.category = 2 := by cases v <;> first | rfl | cases h
theorem pp_1_e {st : List Value} {k : Value → List Value → Prop} (h : pp_1 st k) : ∃ v s, st = v :: s ∧ v.category = 1 ∧ k v s := by
  unfold pp_1 at h
  split at h
  · exact ⟨_, _, rfl, pp_wide_1 h.1, h.2⟩
  · exact h.elim
theorem pp_2_e {st : List Value} {k : Value → List Value → Prop} (h : pp_2 st k) : ∃ v s, st = v :: s ∧ v.category = 2 ∧ k v s := by
  unfold pp_2 at h
  split at h
  · exact ⟨_, _, rfl, pp_wide_2 h.1, h.2⟩
  · exact h.elim
theorem pp_li_e {L : List (Nat × Value)} {i : Nat} {k : Int32 → Prop} (h : pp_li L i k) : ∃ x, L.lookup i = some (.int x) ∧ k x := by
  unfold pp_li at h
  split at h
  · rename_i e; exact ⟨_, e, h⟩
  · exact h.elim
theorem pp_lj_e {L : List (Nat × Value)} {i : Nat} {k : Int64 → Prop} (h : pp_lj L i k) : ∃ x, L.lookup i = some (.long x) ∧ k x := by
  unfold pp_lj at h
  split at h
  · rename_i e; exact ⟨_, e, h⟩
  · exact h.elim
theorem pp_la_e {L : List (Nat × Value)} {i : Nat} {k : Value → Prop} (h : pp_la L i k) : (∃ x, L.lookup i = some (.ref x) ∧ k (.ref x)) ∨ (L.lookup i = some .null ∧ k .null) := by
  unfold pp_la at h
  split at h
  · rename_i e; exact Or.inl ⟨_, e, h⟩
  · rename_i e; exact Or.inr ⟨e, h⟩
  · exact h.elim
theorem pp_in_e {w : pp_W} {a t : Nat} {j : Int32} {k : Prop} (h : pp_in w a t j k) : ∃ n, w.1[a]? = some (t, n) ∧ vp_in j n ∧ k := by
  unfold pp_in at h
  split at h
  · rename_i q e
    obtain ⟨rfl, h2, h3⟩ := h
    exact ⟨q.2, e, h2, h3⟩
  · exact h.elim
theorem pp_al_e {w : pp_W} {a : Nat} {k : Nat → Prop} (h : pp_al w a k) : ∃ t n, w.1[a]? = some (t, n) ∧ (10 ≤ t ∧ t ≤ 14) ∧ k n := by
  unfold pp_al at h
  split at h
  · rename_i q e
    exact ⟨q.1, q.2, e, h⟩
  · exact h.elim
theorem pp_args_e : ∀ (l : List Nat) (acc st : List Value) (k : List Value → List Value → Prop), pp_args l acc st k → ∃ As s, st = As.reverse ++ s ∧ As.length = l.length ∧ k (As ++ acc) s := by
  intro l
  induction l with
  | nil => intro acc st k h; exact ⟨[], st, rfl, rfl, h⟩
  | cons a l ih =>
    intro acc st k h
    cases st with
    | nil => exact h.elim
    | cons v st =>
      obtain ⟨As, s, e1, e2, e3⟩ := ih (v :: acc) st k h
      exact ⟨As ++ [v], s, by rw [e1]; simp, by simp [e2], by simpa using e3⟩
theorem pp_blt {a b : Nat} (h : a.blt b = true) : a < b := Nat.le_of_ble_eq_true h
/-- what a body owes at its ends -/
def pp_End (g : pp_G) (R : Room) (mi : pp_MI) (Z : pp_CT → State → Prop) (off : Nat × Nat) (P : pp_R → pp_W → Prop) (Y : String → pp_W → Prop) : Prop :=
  (∀ pc L w, decode mi.by_ pc = .ok (.return_, 1) → mi.ret = none → P (.inl none) w → pp_ATc g R mi Z (off.1 + mi.mc, off.2 + mi.ms) pc L [] w) ∧
  (∀ pc L w x ty, decode mi.by_ pc = .ok (.ireturn, 1) → mi.ret = some ty → narrow ty (.int x) = .int x → P (.inl (some (.int x))) w → pp_ATc g R mi Z (off.1 + mi.mc, off.2 + mi.ms) pc L [.int x] w) ∧
  (∀ pc L w x, decode mi.by_ pc = .ok (.lreturn, 1) → mi.ret = some .long → P (.inl (some (.long x))) w → pp_ATc g R mi Z (off.1 + mi.mc, off.2 + mi.ms) pc L [.long x] w) ∧
  (∀ pc L st w E, pp_hok mi pc = true → Y E w → pp_XT g R mi Z (off.1 + mi.mc, off.2 + mi.ms) pc L st w E)
section Sound
variable {g : pp_G} {R : Room} {mi : pp_MI} {Z : pp_CT → State → Prop} {off : Nat × Nat} {P : pp_R → pp_W → Prop} {Y : String → pp_W → Prop} {X : Nat → pp_St} {h : Nat}
theorem pp_toT {c : Nat × Nat} {o : Int} {pc t : Nat} {L : List (Nat × Value)} {st : List Value} {w : pp_W} (hX : ∀ t L st w, X t L st w → pp_AT g R mi Z off t L st w) (ht : pp_tgt mi pc c o t = true) (hx : X t L st w) : ((pc : Int) + o = (t : Int)) ∧ pp_ATc g R mi Z (off.1 + c.1, off.2 + c.2) t L st w := by
  simp only [pp_tgt, Bool.and_eq_true, decide_eq_true_eq] at ht
  have hl := pp_le_1 ht.2
  exact ⟨ht.1, (hX t L st w hx).le (by show off.1 + c.1 ≤ off.1 + _; omega) (by show off.2 + c.2 ≤ off.2 + _; omega)⟩
theorem pp_tgt_1 {c : Nat × Nat} {o : Int} {pc t : Nat} (ht : pp_tgt mi pc c o t = true) : (pc : Int) + o = (t : Int) := by
  simp only [pp_tgt, Bool.and_eq_true, decide_eq_true_eq] at ht
  exact ht.1
theorem pp_toK {mj : pp_MI} {c : Nat × Nat} {pc : Nat} {L : List (Nat × Value)} {st : List Value} {K : pp_St} (hE : pp_End g R mi Z off P Y) (hh : pp_hok mi pc = true) (hc : pp_le (c.1 + mj.mc, c.2 + mj.ms) (mi.mc, mi.ms) = true)
    (hK : ∀ L st w, K L st w → pp_ATc g R mi Z (off.1 + (c.1 + mj.mc), off.2 + (c.2 + mj.ms)) (pc + 3) L st w) : ∀ r w, pp_kr K Y L st r w → pp_K1 g R mi Z (off.1 + c.1 + mj.mc, off.2 + c.2 + mj.ms) pc L st r w := by
  intro r w hr
  have hl := pp_le_1 hc
  dsimp only at hl
  match r, hr with
  | .inl none, hr => exact (hK _ _ _ hr).le (by show _ ≤ off.1 + (c.1 + mj.mc); omega) (by show _ ≤ off.2 + (c.2 + mj.ms); omega)
  | .inl (some v), hr => exact (hK _ _ _ hr).le (by show _ ≤ off.1 + (c.1 + mj.mc); omega) (by show _ ≤ off.2 + (c.2 + mj.ms); omega)
  | .inr E, hr => exact fun t C H locs ls cells slots hP hS hl9 h1 h2 => hE.2.2.2 pc L st w E hh hr t C H locs ls cells slots hP hS hl9 (Nat.le_trans h1 (by show off.1 + c.1 + mj.mc ≤ off.1 + mi.mc; omega)) (Nat.le_trans h2 (by show off.2 + c.2 + mj.ms ≤ off.2 + mi.ms; omega))
theorem ps_iconst {n : Int} {c : Nat × Nat} {pc : Nat} {lk : pp_Lk} {L : List (Nat × Value)} {st : List Value} {w : pp_W} {K : pp_St} (hd : decode mi.by_ pc = .ok (.iconst n, pp_len (.iconst n) lk)) (hst : pp_stt mi pc c (.iconst n) lk = true) (hsp : pp_sp g h mi.ret P Y X (.iconst n) lk L st w K) (hK : ∀ L st w, K L st w → pp_ATc g R mi Z (off.1 + (pp_cs (.iconst n) lk c).1, off.2 + (pp_cs (.iconst n) lk c).2) (pc + pp_len (.iconst n) lk) L st w) : pp_ATc g R mi Z (off.1 + c.1, off.2 + c.2) pc L st w := by
  match lk, hst, hsp, hd, hK with
  | .inr (.inr (.int v, p)), hst, hsp, hd, hK => exact pr_iconst hd (of_decide_eq_true hst) (hK _ _ _ hsp)
theorem ps_bipush {n : Int} {c : Nat × Nat} {pc : Nat} {lk : pp_Lk} {L : List (Nat × Value)} {st : List Value} {w : pp_W} {K : pp_St} (hd : decode mi.by_ pc = .ok (.bipush n, pp_len (.bipush n) lk)) (hst : pp_stt mi pc c (.bipush n) lk = true) (hsp : pp_sp g h mi.ret P Y X (.bipush n) lk L st w K) (hK : ∀ L st w, K L st w → pp_ATc g R mi Z (off.1 + (pp_cs (.bipush n) lk c).1, off.2 + (pp_cs (.bipush n) lk c).2) (pc + pp_len (.bipush n) lk) L st w) : pp_ATc g R mi Z (off.1 + c.1, off.2 + c.2) pc L st w := by
  match lk, hst, hsp, hd, hK with
  | .inr (.inr (.int v, p)), hst, hsp, hd, hK => exact pr_bipush hd (of_decide_eq_true hst) (hK _ _ _ hsp)
theorem ps_sipush {n : Int} {c : Nat × Nat} {pc : Nat} {lk : pp_Lk} {L : List (Nat × Value)} {st : List Value} {w : pp_W} {K : pp_St} (hd : decode mi.by_ pc = .ok (.sipush n, pp_len (.sipush n) lk)) (hst : pp_stt mi pc c (.sipush n) lk = true) (hsp : pp_sp g h mi.ret P Y X (.sipush n) lk L st w K) (hK : ∀ L st w, K L st w → pp_ATc g R mi Z (off.1 + (pp_cs (.sipush n) lk c).1, off.2 + (pp_cs (.sipush n) lk c).2) (pc + pp_len (.sipush n) lk) L st w) : pp_ATc g R mi Z (off.1 + c.1, off.2 + c.2) pc L st w := by
  match lk, hst, hsp, hd, hK with
  | .inr (.inr (.int v, p)), hst, hsp, hd, hK => exact pr_sipush hd (of_decide_eq_true hst) (hK _ _ _ hsp)
theorem ps_lconst {n : Fin 2} {c : Nat × Nat} {pc : Nat} {lk : pp_Lk} {L : List (Nat × Value)} {st : List Value} {w : pp_W} {K : pp_St} (hd : decode mi.by_ pc = .ok (.lconst n, pp_len (.lconst n) lk)) (hst : pp_stt mi pc c (.lconst n) lk = true) (hsp : pp_sp g h mi.ret P Y X (.lconst n) lk L st w K) (hK : ∀ L st w, K L st w → pp_ATc g R mi Z (off.1 + (pp_cs (.lconst n) lk c).1, off.2 + (pp_cs (.lconst n) lk c).2) (pc + pp_len (.lconst n) lk) L st w) : pp_ATc g R mi Z (off.1 + c.1, off.2 + c.2) pc L st w := by
  match lk, hst, hsp, hd, hK with
  | .inr (.inr (.long v, p)), hst, hsp, hd, hK => exact pr_lconst hd (of_decide_eq_true hst) (hK _ _ _ hsp)
theorem ps_ldc {n : Nat} {c : Nat × Nat} {pc : Nat} {lk : pp_Lk} {L : List (Nat × Value)} {st : List Value} {w : pp_W} {K : pp_St} (hd : decode mi.by_ pc = .ok (.ldc n, pp_len (.ldc n) lk)) (hst : pp_stt mi pc c (.ldc n) lk = true) (hsp : pp_sp g h mi.ret P Y X (.ldc n) lk L st w K) (hK : ∀ L st w, K L st w → pp_ATc g R mi Z (off.1 + (pp_cs (.ldc n) lk c).1, off.2 + (pp_cs (.ldc n) lk c).2) (pc + pp_len (.ldc n) lk) L st w) : pp_ATc g R mi Z (off.1 + c.1, off.2 + c.2) pc L st w := by
  match lk, hst, hsp, hd, hK with
  | .inr (.inr (.int v, p)), hst, hsp, hd, hK => exact pr_ldc hd (pp_w_in hst) (hK _ _ _ hsp)
  | .inr (.inr (.ref k, p)), hst, hsp, hd, hK =>
    simp only [pp_stt] at hst
    split at hst
    · rename_i q hq
      simp only [Bool.and_eq_true, decide_eq_true_eq] at hst
      obtain ⟨⟨⟨e1, e2⟩, e3⟩, e4⟩ := hst
      exact pr_ldcS (tx := q.2.2.1) hd (by rw [← e1, ← e2, ← e3]; exact List.mem_of_getElem? hq) (pp_blt e4) (hK _ _ _ hsp)
    · cases hst
theorem ps_ldc_w {n : Nat} {c : Nat × Nat} {pc : Nat} {lk : pp_Lk} {L : List (Nat × Value)} {st : List Value} {w : pp_W} {K : pp_St} (hd : decode mi.by_ pc = .ok (.ldc_w n, pp_len (.ldc_w n) lk)) (hst : pp_stt mi pc c (.ldc_w n) lk = true) (hsp : pp_sp g h mi.ret P Y X (.ldc_w n) lk L st w K) (hK : ∀ L st w, K L st w → pp_ATc g R mi Z (off.1 + (pp_cs (.ldc_w n) lk c).1, off.2 + (pp_cs (.ldc_w n) lk c).2) (pc + pp_len (.ldc_w n) lk) L st w) : pp_ATc g R mi Z (off.1 + c.1, off.2 + c.2) pc L st w := by
  match lk, hst, hsp, hd, hK with
  | .inr (.inr (.int v, p)), hst, hsp, hd, hK => exact pr_ldcw hd (pp_w_in hst) (hK _ _ _ hsp)
theorem ps_ldc2_w {n : Nat} {c : Nat × Nat} {pc : Nat} {lk : pp_Lk} {L : List (Nat × Value)} {st : List Value} {w : pp_W} {K : pp_St} (hd : decode mi.by_ pc = .ok (.ldc2_w n, pp_len (.ldc2_w n) lk)) (hst : pp_stt mi pc c (.ldc2_w n) lk = true) (hsp : pp_sp g h mi.ret P Y X (.ldc2_w n) lk L st w K) (hK : ∀ L st w, K L st w → pp_ATc g R mi Z (off.1 + (pp_cs (.ldc2_w n) lk c).1, off.2 + (pp_cs (.ldc2_w n) lk c).2) (pc + pp_len (.ldc2_w n) lk) L st w) : pp_ATc g R mi Z (off.1 + c.1, off.2 + c.2) pc L st w := by
  match lk, hst, hsp, hd, hK with
  | .inr (.inr (.long v, p)), hst, hsp, hd, hK => exact pr_ldc2 hd (pp_w_in hst) (hK _ _ _ hsp)
theorem ps_aconst_null {c : Nat × Nat} {pc : Nat} {lk : pp_Lk} {L : List (Nat × Value)} {st : List Value} {w : pp_W} {K : pp_St} (hd : decode mi.by_ pc = .ok (.aconst_null, pp_len (.aconst_null) lk)) (hst : pp_stt mi pc c (.aconst_null) lk = true) (hsp : pp_sp g h mi.ret P Y X (.aconst_null) lk L st w K) (hK : ∀ L st w, K L st w → pp_ATc g R mi Z (off.1 + (pp_cs (.aconst_null) lk c).1, off.2 + (pp_cs (.aconst_null) lk c).2) (pc + pp_len (.aconst_null) lk) L st w) : pp_ATc g R mi Z (off.1 + c.1, off.2 + c.2) pc L st w := by
  exact pr_null hd (hK _ _ _ hsp)
theorem ps_iload {n : Nat} {c : Nat × Nat} {pc : Nat} {lk : pp_Lk} {L : List (Nat × Value)} {st : List Value} {w : pp_W} {K : pp_St} (hd : decode mi.by_ pc = .ok (.iload n, pp_len (.iload n) lk)) (hst : pp_stt mi pc c (.iload n) lk = true) (hsp : pp_sp g h mi.ret P Y X (.iload n) lk L st w K) (hK : ∀ L st w, K L st w → pp_ATc g R mi Z (off.1 + (pp_cs (.iload n) lk c).1, off.2 + (pp_cs (.iload n) lk c).2) (pc + pp_len (.iload n) lk) L st w) : pp_ATc g R mi Z (off.1 + c.1, off.2 + c.2) pc L st w := by
  obtain ⟨x, e, hk⟩ := pp_li_e hsp
  exact pr_iload hd e (hK _ _ _ hk)
theorem ps_iload_n {n : Fin 4} {c : Nat × Nat} {pc : Nat} {lk : pp_Lk} {L : List (Nat × Value)} {st : List Value} {w : pp_W} {K : pp_St} (hd : decode mi.by_ pc = .ok (.iload_n n, pp_len (.iload_n n) lk)) (hst : pp_stt mi pc c (.iload_n n) lk = true) (hsp : pp_sp g h mi.ret P Y X (.iload_n n) lk L st w K) (hK : ∀ L st w, K L st w → pp_ATc g R mi Z (off.1 + (pp_cs (.iload_n n) lk c).1, off.2 + (pp_cs (.iload_n n) lk c).2) (pc + pp_len (.iload_n n) lk) L st w) : pp_ATc g R mi Z (off.1 + c.1, off.2 + c.2) pc L st w := by
  obtain ⟨x, e, hk⟩ := pp_li_e hsp
  exact pr_iload_n hd e (hK _ _ _ hk)
theorem ps_lload {n : Nat} {c : Nat × Nat} {pc : Nat} {lk : pp_Lk} {L : List (Nat × Value)} {st : List Value} {w : pp_W} {K : pp_St} (hd : decode mi.by_ pc = .ok (.lload n, pp_len (.lload n) lk)) (hst : pp_stt mi pc c (.lload n) lk = true) (hsp : pp_sp g h mi.ret P Y X (.lload n) lk L st w K) (hK : ∀ L st w, K L st w → pp_ATc g R mi Z (off.1 + (pp_cs (.lload n) lk c).1, off.2 + (pp_cs (.lload n) lk c).2) (pc + pp_len (.lload n) lk) L st w) : pp_ATc g R mi Z (off.1 + c.1, off.2 + c.2) pc L st w := by
  obtain ⟨x, e, hk⟩ := pp_lj_e hsp
  exact pr_lload hd e (hK _ _ _ hk)
theorem ps_lload_n {n : Fin 4} {c : Nat × Nat} {pc : Nat} {lk : pp_Lk} {L : List (Nat × Value)} {st : List Value} {w : pp_W} {K : pp_St} (hd : decode mi.by_ pc = .ok (.lload_n n, pp_len (.lload_n n) lk)) (hst : pp_stt mi pc c (.lload_n n) lk = true) (hsp : pp_sp g h mi.ret P Y X (.lload_n n) lk L st w K) (hK : ∀ L st w, K L st w → pp_ATc g R mi Z (off.1 + (pp_cs (.lload_n n) lk c).1, off.2 + (pp_cs (.lload_n n) lk c).2) (pc + pp_len (.lload_n n) lk) L st w) : pp_ATc g R mi Z (off.1 + c.1, off.2 + c.2) pc L st w := by
  obtain ⟨x, e, hk⟩ := pp_lj_e hsp
  exact pr_lload_n hd e (hK _ _ _ hk)
theorem ps_aload {n : Nat} {c : Nat × Nat} {pc : Nat} {lk : pp_Lk} {L : List (Nat × Value)} {st : List Value} {w : pp_W} {K : pp_St} (hd : decode mi.by_ pc = .ok (.aload n, pp_len (.aload n) lk)) (hst : pp_stt mi pc c (.aload n) lk = true) (hsp : pp_sp g h mi.ret P Y X (.aload n) lk L st w K) (hK : ∀ L st w, K L st w → pp_ATc g R mi Z (off.1 + (pp_cs (.aload n) lk c).1, off.2 + (pp_cs (.aload n) lk c).2) (pc + pp_len (.aload n) lk) L st w) : pp_ATc g R mi Z (off.1 + c.1, off.2 + c.2) pc L st w := by
  have hsp : pp_la L n (fun v => K L (v :: st) w) := hsp
  rcases pp_la_e hsp with ⟨x, e, hk⟩ | ⟨e, hk⟩
  · exact pr_aload hd e (hK _ _ _ hk)
  · exact pr_aloadN hd e (hK _ _ _ hk)
theorem ps_aload_n {n : Fin 4} {c : Nat × Nat} {pc : Nat} {lk : pp_Lk} {L : List (Nat × Value)} {st : List Value} {w : pp_W} {K : pp_St} (hd : decode mi.by_ pc = .ok (.aload_n n, pp_len (.aload_n n) lk)) (hst : pp_stt mi pc c (.aload_n n) lk = true) (hsp : pp_sp g h mi.ret P Y X (.aload_n n) lk L st w K) (hK : ∀ L st w, K L st w → pp_ATc g R mi Z (off.1 + (pp_cs (.aload_n n) lk c).1, off.2 + (pp_cs (.aload_n n) lk c).2) (pc + pp_len (.aload_n n) lk) L st w) : pp_ATc g R mi Z (off.1 + c.1, off.2 + c.2) pc L st w := by
  have hsp : pp_la L n.val (fun v => K L (v :: st) w) := hsp
  rcases pp_la_e hsp with ⟨x, e, hk⟩ | ⟨e, hk⟩
  · exact pr_aload_n hd e (hK _ _ _ hk)
  · exact pr_aload_nN hd e (hK _ _ _ hk)
theorem ps_istore {n : Nat} {c : Nat × Nat} {pc : Nat} {lk : pp_Lk} {L : List (Nat × Value)} {st : List Value} {w : pp_W} {K : pp_St} (hd : decode mi.by_ pc = .ok (.istore n, pp_len (.istore n) lk)) (hst : pp_stt mi pc c (.istore n) lk = true) (hsp : pp_sp g h mi.ret P Y X (.istore n) lk L st w K) (hK : ∀ L st w, K L st w → pp_ATc g R mi Z (off.1 + (pp_cs (.istore n) lk c).1, off.2 + (pp_cs (.istore n) lk c).2) (pc + pp_len (.istore n) lk) L st w) : pp_ATc g R mi Z (off.1 + c.1, off.2 + c.2) pc L st w := by
  obtain ⟨x, s, rfl, hk⟩ := pp_i_e hsp
  exact pr_istore hd (pp_blt hst) (hK _ _ _ hk)
theorem ps_istore_n {n : Fin 4} {c : Nat × Nat} {pc : Nat} {lk : pp_Lk} {L : List (Nat × Value)} {st : List Value} {w : pp_W} {K : pp_St} (hd : decode mi.by_ pc = .ok (.istore_n n, pp_len (.istore_n n) lk)) (hst : pp_stt mi pc c (.istore_n n) lk = true) (hsp : pp_sp g h mi.ret P Y X (.istore_n n) lk L st w K) (hK : ∀ L st w, K L st w → pp_ATc g R mi Z (off.1 + (pp_cs (.istore_n n) lk c).1, off.2 + (pp_cs (.istore_n n) lk c).2) (pc + pp_len (.istore_n n) lk) L st w) : pp_ATc g R mi Z (off.1 + c.1, off.2 + c.2) pc L st w := by
  obtain ⟨x, s, rfl, hk⟩ := pp_i_e hsp
  exact pr_istore_n hd (pp_blt hst) (hK _ _ _ hk)
theorem ps_lstore {n : Nat} {c : Nat × Nat} {pc : Nat} {lk : pp_Lk} {L : List (Nat × Value)} {st : List Value} {w : pp_W} {K : pp_St} (hd : decode mi.by_ pc = .ok (.lstore n, pp_len (.lstore n) lk)) (hst : pp_stt mi pc c (.lstore n) lk = true) (hsp : pp_sp g h mi.ret P Y X (.lstore n) lk L st w K) (hK : ∀ L st w, K L st w → pp_ATc g R mi Z (off.1 + (pp_cs (.lstore n) lk c).1, off.2 + (pp_cs (.lstore n) lk c).2) (pc + pp_len (.lstore n) lk) L st w) : pp_ATc g R mi Z (off.1 + c.1, off.2 + c.2) pc L st w := by
  obtain ⟨x, s, rfl, hk⟩ := pp_j_e hsp
  exact pr_lstore hd (pp_blt hst) (hK _ _ _ hk)
theorem ps_lstore_n {n : Fin 4} {c : Nat × Nat} {pc : Nat} {lk : pp_Lk} {L : List (Nat × Value)} {st : List Value} {w : pp_W} {K : pp_St} (hd : decode mi.by_ pc = .ok (.lstore_n n, pp_len (.lstore_n n) lk)) (hst : pp_stt mi pc c (.lstore_n n) lk = true) (hsp : pp_sp g h mi.ret P Y X (.lstore_n n) lk L st w K) (hK : ∀ L st w, K L st w → pp_ATc g R mi Z (off.1 + (pp_cs (.lstore_n n) lk c).1, off.2 + (pp_cs (.lstore_n n) lk c).2) (pc + pp_len (.lstore_n n) lk) L st w) : pp_ATc g R mi Z (off.1 + c.1, off.2 + c.2) pc L st w := by
  obtain ⟨x, s, rfl, hk⟩ := pp_j_e hsp
  exact pr_lstore_n hd (pp_blt hst) (hK _ _ _ hk)
theorem ps_astore {n : Nat} {c : Nat × Nat} {pc : Nat} {lk : pp_Lk} {L : List (Nat × Value)} {st : List Value} {w : pp_W} {K : pp_St} (hd : decode mi.by_ pc = .ok (.astore n, pp_len (.astore n) lk)) (hst : pp_stt mi pc c (.astore n) lk = true) (hsp : pp_sp g h mi.ret P Y X (.astore n) lk L st w K) (hK : ∀ L st w, K L st w → pp_ATc g R mi Z (off.1 + (pp_cs (.astore n) lk c).1, off.2 + (pp_cs (.astore n) lk c).2) (pc + pp_len (.astore n) lk) L st w) : pp_ATc g R mi Z (off.1 + c.1, off.2 + c.2) pc L st w := by
  have hsp : pp_q st (fun x st => K (pp_put1 n (pp_rf x) L) st w) := hsp
  obtain ⟨x, s, rfl, hk⟩ := pp_q_e hsp
  cases x with
  | none => exact pr_astoreN hd (pp_blt hst) (hK _ _ _ hk)
  | some x => exact pr_astore hd (pp_blt hst) (hK _ _ _ hk)
theorem ps_astore_n {n : Fin 4} {c : Nat × Nat} {pc : Nat} {lk : pp_Lk} {L : List (Nat × Value)} {st : List Value} {w : pp_W} {K : pp_St} (hd : decode mi.by_ pc = .ok (.astore_n n, pp_len (.astore_n n) lk)) (hst : pp_stt mi pc c (.astore_n n) lk = true) (hsp : pp_sp g h mi.ret P Y X (.astore_n n) lk L st w K) (hK : ∀ L st w, K L st w → pp_ATc g R mi Z (off.1 + (pp_cs (.astore_n n) lk c).1, off.2 + (pp_cs (.astore_n n) lk c).2) (pc + pp_len (.astore_n n) lk) L st w) : pp_ATc g R mi Z (off.1 + c.1, off.2 + c.2) pc L st w := by
  have hsp : pp_q st (fun x st => K (pp_put1 n.val (pp_rf x) L) st w) := hsp
  obtain ⟨x, s, rfl, hk⟩ := pp_q_e hsp
  cases x with
  | none => exact pr_astore_nN hd (pp_blt hst) (hK _ _ _ hk)
  | some x => exact pr_astore_n hd (pp_blt hst) (hK _ _ _ hk)
theorem ps_iinc {k : Nat} {n : Int} {c : Nat × Nat} {pc : Nat} {lk : pp_Lk} {L : List (Nat × Value)} {st : List Value} {w : pp_W} {K : pp_St} (hd : decode mi.by_ pc = .ok (.iinc k n, pp_len (.iinc k n) lk)) (hst : pp_stt mi pc c (.iinc k n) lk = true) (hsp : pp_sp g h mi.ret P Y X (.iinc k n) lk L st w K) (hK : ∀ L st w, K L st w → pp_ATc g R mi Z (off.1 + (pp_cs (.iinc k n) lk c).1, off.2 + (pp_cs (.iinc k n) lk c).2) (pc + pp_len (.iinc k n) lk) L st w) : pp_ATc g R mi Z (off.1 + c.1, off.2 + c.2) pc L st w := by
  match lk, hst, hsp, hd, hK with
  | .inr (.inr (.int v, p)), hst, hsp, hd, hK =>
    simp only [pp_stt, Bool.and_eq_true, decide_eq_true_eq] at hst
    obtain ⟨x, e, hk⟩ := pp_li_e hsp
    exact pr_iinc hd e hst.1 (pp_blt hst.2) (hK _ _ _ hk)
theorem ps_iadd {c : Nat × Nat} {pc : Nat} {lk : pp_Lk} {L : List (Nat × Value)} {st : List Value} {w : pp_W} {K : pp_St} (hd : decode mi.by_ pc = .ok (.iadd, pp_len (.iadd) lk)) (hst : pp_stt mi pc c (.iadd) lk = true) (hsp : pp_sp g h mi.ret P Y X (.iadd) lk L st w K) (hK : ∀ L st w, K L st w → pp_ATc g R mi Z (off.1 + (pp_cs (.iadd) lk c).1, off.2 + (pp_cs (.iadd) lk c).2) (pc + pp_len (.iadd) lk) L st w) : pp_ATc g R mi Z (off.1 + c.1, off.2 + c.2) pc L st w := by
  obtain ⟨y, s, rfl, hk⟩ := pp_i_e hsp
  obtain ⟨x, s, rfl, hk⟩ := pp_i_e hk
  exact pr_iadd hd (hK _ _ _ hk)
theorem ps_isub {c : Nat × Nat} {pc : Nat} {lk : pp_Lk} {L : List (Nat × Value)} {st : List Value} {w : pp_W} {K : pp_St} (hd : decode mi.by_ pc = .ok (.isub, pp_len (.isub) lk)) (hst : pp_stt mi pc c (.isub) lk = true) (hsp : pp_sp g h mi.ret P Y X (.isub) lk L st w K) (hK : ∀ L st w, K L st w → pp_ATc g R mi Z (off.1 + (pp_cs (.isub) lk c).1, off.2 + (pp_cs (.isub) lk c).2) (pc + pp_len (.isub) lk) L st w) : pp_ATc g R mi Z (off.1 + c.1, off.2 + c.2) pc L st w := by
  obtain ⟨y, s, rfl, hk⟩ := pp_i_e hsp
  obtain ⟨x, s, rfl, hk⟩ := pp_i_e hk
  exact pr_isub hd (hK _ _ _ hk)
theorem ps_imul {c : Nat × Nat} {pc : Nat} {lk : pp_Lk} {L : List (Nat × Value)} {st : List Value} {w : pp_W} {K : pp_St} (hd : decode mi.by_ pc = .ok (.imul, pp_len (.imul) lk)) (hst : pp_stt mi pc c (.imul) lk = true) (hsp : pp_sp g h mi.ret P Y X (.imul) lk L st w K) (hK : ∀ L st w, K L st w → pp_ATc g R mi Z (off.1 + (pp_cs (.imul) lk c).1, off.2 + (pp_cs (.imul) lk c).2) (pc + pp_len (.imul) lk) L st w) : pp_ATc g R mi Z (off.1 + c.1, off.2 + c.2) pc L st w := by
  obtain ⟨y, s, rfl, hk⟩ := pp_i_e hsp
  obtain ⟨x, s, rfl, hk⟩ := pp_i_e hk
  exact pr_imul hd (hK _ _ _ hk)
theorem ps_iand {c : Nat × Nat} {pc : Nat} {lk : pp_Lk} {L : List (Nat × Value)} {st : List Value} {w : pp_W} {K : pp_St} (hd : decode mi.by_ pc = .ok (.iand, pp_len (.iand) lk)) (hst : pp_stt mi pc c (.iand) lk = true) (hsp : pp_sp g h mi.ret P Y X (.iand) lk L st w K) (hK : ∀ L st w, K L st w → pp_ATc g R mi Z (off.1 + (pp_cs (.iand) lk c).1, off.2 + (pp_cs (.iand) lk c).2) (pc + pp_len (.iand) lk) L st w) : pp_ATc g R mi Z (off.1 + c.1, off.2 + c.2) pc L st w := by
  obtain ⟨y, s, rfl, hk⟩ := pp_i_e hsp
  obtain ⟨x, s, rfl, hk⟩ := pp_i_e hk
  exact pr_iand hd (hK _ _ _ hk)
theorem ps_ior {c : Nat × Nat} {pc : Nat} {lk : pp_Lk} {L : List (Nat × Value)} {st : List Value} {w : pp_W} {K : pp_St} (hd : decode mi.by_ pc = .ok (.ior, pp_len (.ior) lk)) (hst : pp_stt mi pc c (.ior) lk = true) (hsp : pp_sp g h mi.ret P Y X (.ior) lk L st w K) (hK : ∀ L st w, K L st w → pp_ATc g R mi Z (off.1 + (pp_cs (.ior) lk c).1, off.2 + (pp_cs (.ior) lk c).2) (pc + pp_len (.ior) lk) L st w) : pp_ATc g R mi Z (off.1 + c.1, off.2 + c.2) pc L st w := by
  obtain ⟨y, s, rfl, hk⟩ := pp_i_e hsp
  obtain ⟨x, s, rfl, hk⟩ := pp_i_e hk
  exact pr_ior hd (hK _ _ _ hk)
theorem ps_ixor {c : Nat × Nat} {pc : Nat} {lk : pp_Lk} {L : List (Nat × Value)} {st : List Value} {w : pp_W} {K : pp_St} (hd : decode mi.by_ pc = .ok (.ixor, pp_len (.ixor) lk)) (hst : pp_stt mi pc c (.ixor) lk = true) (hsp : pp_sp g h mi.ret P Y X (.ixor) lk L st w K) (hK : ∀ L st w, K L st w → pp_ATc g R mi Z (off.1 + (pp_cs (.ixor) lk c).1, off.2 + (pp_cs (.ixor) lk c).2) (pc + pp_len (.ixor) lk) L st w) : pp_ATc g R mi Z (off.1 + c.1, off.2 + c.2) pc L st w := by
  obtain ⟨y, s, rfl, hk⟩ := pp_i_e hsp
  obtain ⟨x, s, rfl, hk⟩ := pp_i_e hk
  exact pr_ixor hd (hK _ _ _ hk)
theorem ps_ishl {c : Nat × Nat} {pc : Nat} {lk : pp_Lk} {L : List (Nat × Value)} {st : List Value} {w : pp_W} {K : pp_St} (hd : decode mi.by_ pc = .ok (.ishl, pp_len (.ishl) lk)) (hst : pp_stt mi pc c (.ishl) lk = true) (hsp : pp_sp g h mi.ret P Y X (.ishl) lk L st w K) (hK : ∀ L st w, K L st w → pp_ATc g R mi Z (off.1 + (pp_cs (.ishl) lk c).1, off.2 + (pp_cs (.ishl) lk c).2) (pc + pp_len (.ishl) lk) L st w) : pp_ATc g R mi Z (off.1 + c.1, off.2 + c.2) pc L st w := by
  obtain ⟨y, s, rfl, hk⟩ := pp_i_e hsp
  obtain ⟨x, s, rfl, hk⟩ := pp_i_e hk
  exact pr_ishl hd (hK _ _ _ hk)
theorem ps_ishr {c : Nat × Nat} {pc : Nat} {lk : pp_Lk} {L : List (Nat × Value)} {st : List Value} {w : pp_W} {K : pp_St} (hd : decode mi.by_ pc = .ok (.ishr, pp_len (.ishr) lk)) (hst : pp_stt mi pc c (.ishr) lk = true) (hsp : pp_sp g h mi.ret P Y X (.ishr) lk L st w K) (hK : ∀ L st w, K L st w → pp_ATc g R mi Z (off.1 + (pp_cs (.ishr) lk c).1, off.2 + (pp_cs (.ishr) lk c).2) (pc + pp_len (.ishr) lk) L st w) : pp_ATc g R mi Z (off.1 + c.1, off.2 + c.2) pc L st w := by
  obtain ⟨y, s, rfl, hk⟩ := pp_i_e hsp
  obtain ⟨x, s, rfl, hk⟩ := pp_i_e hk
  exact pr_ishr hd (hK _ _ _ hk)
theorem ps_iushr {c : Nat × Nat} {pc : Nat} {lk : pp_Lk} {L : List (Nat × Value)} {st : List Value} {w : pp_W} {K : pp_St} (hd : decode mi.by_ pc = .ok (.iushr, pp_len (.iushr) lk)) (hst : pp_stt mi pc c (.iushr) lk = true) (hsp : pp_sp g h mi.ret P Y X (.iushr) lk L st w K) (hK : ∀ L st w, K L st w → pp_ATc g R mi Z (off.1 + (pp_cs (.iushr) lk c).1, off.2 + (pp_cs (.iushr) lk c).2) (pc + pp_len (.iushr) lk) L st w) : pp_ATc g R mi Z (off.1 + c.1, off.2 + c.2) pc L st w := by
  obtain ⟨y, s, rfl, hk⟩ := pp_i_e hsp
  obtain ⟨x, s, rfl, hk⟩ := pp_i_e hk
  exact pr_iushr hd (hK _ _ _ hk)
theorem ps_idiv {c : Nat × Nat} {pc : Nat} {lk : pp_Lk} {L : List (Nat × Value)} {st : List Value} {w : pp_W} {K : pp_St} (hd : decode mi.by_ pc = .ok (.idiv, pp_len (.idiv) lk)) (hst : pp_stt mi pc c (.idiv) lk = true) (hsp : pp_sp g h mi.ret P Y X (.idiv) lk L st w K) (hK : ∀ L st w, K L st w → pp_ATc g R mi Z (off.1 + (pp_cs (.idiv) lk c).1, off.2 + (pp_cs (.idiv) lk c).2) (pc + pp_len (.idiv) lk) L st w) : pp_ATc g R mi Z (off.1 + c.1, off.2 + c.2) pc L st w := by
  obtain ⟨y, s, rfl, hk⟩ := pp_i_e hsp
  obtain ⟨x, s, rfl, hk⟩ := pp_i_e hk
  exact pr_idiv hd hk.1 (hK _ _ _ hk.2)
theorem ps_ladd {c : Nat × Nat} {pc : Nat} {lk : pp_Lk} {L : List (Nat × Value)} {st : List Value} {w : pp_W} {K : pp_St} (hd : decode mi.by_ pc = .ok (.ladd, pp_len (.ladd) lk)) (hst : pp_stt mi pc c (.ladd) lk = true) (hsp : pp_sp g h mi.ret P Y X (.ladd) lk L st w K) (hK : ∀ L st w, K L st w → pp_ATc g R mi Z (off.1 + (pp_cs (.ladd) lk c).1, off.2 + (pp_cs (.ladd) lk c).2) (pc + pp_len (.ladd) lk) L st w) : pp_ATc g R mi Z (off.1 + c.1, off.2 + c.2) pc L st w := by
  obtain ⟨y, s, rfl, hk⟩ := pp_j_e hsp
  obtain ⟨x, s, rfl, hk⟩ := pp_j_e hk
  exact pr_ladd hd (hK _ _ _ hk)
theorem ps_lsub {c : Nat × Nat} {pc : Nat} {lk : pp_Lk} {L : List (Nat × Value)} {st : List Value} {w : pp_W} {K : pp_St} (hd : decode mi.by_ pc = .ok (.lsub, pp_len (.lsub) lk)) (hst : pp_stt mi pc c (.lsub) lk = true) (hsp : pp_sp g h mi.ret P Y X (.lsub) lk L st w K) (hK : ∀ L st w, K L st w → pp_ATc g R mi Z (off.1 + (pp_cs (.lsub) lk c).1, off.2 + (pp_cs (.lsub) lk c).2) (pc + pp_len (.lsub) lk) L st w) : pp_ATc g R mi Z (off.1 + c.1, off.2 + c.2) pc L st w := by
  obtain ⟨y, s, rfl, hk⟩ := pp_j_e hsp
  obtain ⟨x, s, rfl, hk⟩ := pp_j_e hk
  exact pr_lsub hd (hK _ _ _ hk)
theorem ps_lmul {c : Nat × Nat} {pc : Nat} {lk : pp_Lk} {L : List (Nat × Value)} {st : List Value} {w : pp_W} {K : pp_St} (hd : decode mi.by_ pc = .ok (.lmul, pp_len (.lmul) lk)) (hst : pp_stt mi pc c (.lmul) lk = true) (hsp : pp_sp g h mi.ret P Y X (.lmul) lk L st w K) (hK : ∀ L st w, K L st w → pp_ATc g R mi Z (off.1 + (pp_cs (.lmul) lk c).1, off.2 + (pp_cs (.lmul) lk c).2) (pc + pp_len (.lmul) lk) L st w) : pp_ATc g R mi Z (off.1 + c.1, off.2 + c.2) pc L st w := by
  obtain ⟨y, s, rfl, hk⟩ := pp_j_e hsp
  obtain ⟨x, s, rfl, hk⟩ := pp_j_e hk
  exact pr_lmul hd (hK _ _ _ hk)
theorem ps_land {c : Nat × Nat} {pc : Nat} {lk : pp_Lk} {L : List (Nat × Value)} {st : List Value} {w : pp_W} {K : pp_St} (hd : decode mi.by_ pc = .ok (.land, pp_len (.land) lk)) (hst : pp_stt mi pc c (.land) lk = true) (hsp : pp_sp g h mi.ret P Y X (.land) lk L st w K) (hK : ∀ L st w, K L st w → pp_ATc g R mi Z (off.1 + (pp_cs (.land) lk c).1, off.2 + (pp_cs (.land) lk c).2) (pc + pp_len (.land) lk) L st w) : pp_ATc g R mi Z (off.1 + c.1, off.2 + c.2) pc L st w := by
  obtain ⟨y, s, rfl, hk⟩ := pp_j_e hsp
  obtain ⟨x, s, rfl, hk⟩ := pp_j_e hk
  exact pr_land hd (hK _ _ _ hk)
theorem ps_lor {c : Nat × Nat} {pc : Nat} {lk : pp_Lk} {L : List (Nat × Value)} {st : List Value} {w : pp_W} {K : pp_St} (hd : decode mi.by_ pc = .ok (.lor, pp_len (.lor) lk)) (hst : pp_stt mi pc c (.lor) lk = true) (hsp : pp_sp g h mi.ret P Y X (.lor) lk L st w K) (hK : ∀ L st w, K L st w → pp_ATc g R mi Z (off.1 + (pp_cs (.lor) lk c).1, off.2 + (pp_cs (.lor) lk c).2) (pc + pp_len (.lor) lk) L st w) : pp_ATc g R mi Z (off.1 + c.1, off.2 + c.2) pc L st w := by
  obtain ⟨y, s, rfl, hk⟩ := pp_j_e hsp
  obtain ⟨x, s, rfl, hk⟩ := pp_j_e hk
  exact pr_lor hd (hK _ _ _ hk)
theorem ps_lxor {c : Nat × Nat} {pc : Nat} {lk : pp_Lk} {L : List (Nat × Value)} {st : List Value} {w : pp_W} {K : pp_St} (hd : decode mi.by_ pc = .ok (.lxor, pp_len (.lxor) lk)) (hst : pp_stt mi pc c (.lxor) lk = true) (hsp : pp_sp g h mi.ret P Y X (.lxor) lk L st w K) (hK : ∀ L st w, K L st w → pp_ATc g R mi Z (off.1 + (pp_cs (.lxor) lk c).1, off.2 + (pp_cs (.lxor) lk c).2) (pc + pp_len (.lxor) lk) L st w) : pp_ATc g R mi Z (off.1 + c.1, off.2 + c.2) pc L st w := by
  obtain ⟨y, s, rfl, hk⟩ := pp_j_e hsp
  obtain ⟨x, s, rfl, hk⟩ := pp_j_e hk
  exact pr_lxor hd (hK _ _ _ hk)
theorem ps_lcmp {c : Nat × Nat} {pc : Nat} {lk : pp_Lk} {L : List (Nat × Value)} {st : List Value} {w : pp_W} {K : pp_St} (hd : decode mi.by_ pc = .ok (.lcmp, pp_len (.lcmp) lk)) (hst : pp_stt mi pc c (.lcmp) lk = true) (hsp : pp_sp g h mi.ret P Y X (.lcmp) lk L st w K) (hK : ∀ L st w, K L st w → pp_ATc g R mi Z (off.1 + (pp_cs (.lcmp) lk c).1, off.2 + (pp_cs (.lcmp) lk c).2) (pc + pp_len (.lcmp) lk) L st w) : pp_ATc g R mi Z (off.1 + c.1, off.2 + c.2) pc L st w := by
  obtain ⟨y, s, rfl, hk⟩ := pp_j_e hsp
  obtain ⟨x, s, rfl, hk⟩ := pp_j_e hk
  exact pr_lcmp hd (hK _ _ _ hk)
theorem ps_ldiv {c : Nat × Nat} {pc : Nat} {lk : pp_Lk} {L : List (Nat × Value)} {st : List Value} {w : pp_W} {K : pp_St} (hd : decode mi.by_ pc = .ok (.ldiv, pp_len (.ldiv) lk)) (hst : pp_stt mi pc c (.ldiv) lk = true) (hsp : pp_sp g h mi.ret P Y X (.ldiv) lk L st w K) (hK : ∀ L st w, K L st w → pp_ATc g R mi Z (off.1 + (pp_cs (.ldiv) lk c).1, off.2 + (pp_cs (.ldiv) lk c).2) (pc + pp_len (.ldiv) lk) L st w) : pp_ATc g R mi Z (off.1 + c.1, off.2 + c.2) pc L st w := by
  obtain ⟨y, s, rfl, hk⟩ := pp_j_e hsp
  obtain ⟨x, s, rfl, hk⟩ := pp_j_e hk
  exact pr_ldiv hd hk.1 (hK _ _ _ hk.2)
theorem ps_lrem {c : Nat × Nat} {pc : Nat} {lk : pp_Lk} {L : List (Nat × Value)} {st : List Value} {w : pp_W} {K : pp_St} (hd : decode mi.by_ pc = .ok (.lrem, pp_len (.lrem) lk)) (hst : pp_stt mi pc c (.lrem) lk = true) (hsp : pp_sp g h mi.ret P Y X (.lrem) lk L st w K) (hK : ∀ L st w, K L st w → pp_ATc g R mi Z (off.1 + (pp_cs (.lrem) lk c).1, off.2 + (pp_cs (.lrem) lk c).2) (pc + pp_len (.lrem) lk) L st w) : pp_ATc g R mi Z (off.1 + c.1, off.2 + c.2) pc L st w := by
  obtain ⟨y, s, rfl, hk⟩ := pp_j_e hsp
  obtain ⟨x, s, rfl, hk⟩ := pp_j_e hk
  exact pr_lrem hd hk.1 (hK _ _ _ hk.2)
theorem ps_lshl {c : Nat × Nat} {pc : Nat} {lk : pp_Lk} {L : List (Nat × Value)} {st : List Value} {w : pp_W} {K : pp_St} (hd : decode mi.by_ pc = .ok (.lshl, pp_len (.lshl) lk)) (hst : pp_stt mi pc c (.lshl) lk = true) (hsp : pp_sp g h mi.ret P Y X (.lshl) lk L st w K) (hK : ∀ L st w, K L st w → pp_ATc g R mi Z (off.1 + (pp_cs (.lshl) lk c).1, off.2 + (pp_cs (.lshl) lk c).2) (pc + pp_len (.lshl) lk) L st w) : pp_ATc g R mi Z (off.1 + c.1, off.2 + c.2) pc L st w := by
  obtain ⟨y, s, rfl, hk⟩ := pp_i_e hsp
  obtain ⟨x, s, rfl, hk⟩ := pp_j_e hk
  exact pr_lshl hd (hK _ _ _ hk)
theorem ps_i2l {c : Nat × Nat} {pc : Nat} {lk : pp_Lk} {L : List (Nat × Value)} {st : List Value} {w : pp_W} {K : pp_St} (hd : decode mi.by_ pc = .ok (.i2l, pp_len (.i2l) lk)) (hst : pp_stt mi pc c (.i2l) lk = true) (hsp : pp_sp g h mi.ret P Y X (.i2l) lk L st w K) (hK : ∀ L st w, K L st w → pp_ATc g R mi Z (off.1 + (pp_cs (.i2l) lk c).1, off.2 + (pp_cs (.i2l) lk c).2) (pc + pp_len (.i2l) lk) L st w) : pp_ATc g R mi Z (off.1 + c.1, off.2 + c.2) pc L st w := by
  obtain ⟨x, s, rfl, hk⟩ := pp_i_e hsp
  exact pr_i2l hd (hK _ _ _ hk)
theorem ps_i2b {c : Nat × Nat} {pc : Nat} {lk : pp_Lk} {L : List (Nat × Value)} {st : List Value} {w : pp_W} {K : pp_St} (hd : decode mi.by_ pc = .ok (.i2b, pp_len (.i2b) lk)) (hst : pp_stt mi pc c (.i2b) lk = true) (hsp : pp_sp g h mi.ret P Y X (.i2b) lk L st w K) (hK : ∀ L st w, K L st w → pp_ATc g R mi Z (off.1 + (pp_cs (.i2b) lk c).1, off.2 + (pp_cs (.i2b) lk c).2) (pc + pp_len (.i2b) lk) L st w) : pp_ATc g R mi Z (off.1 + c.1, off.2 + c.2) pc L st w := by
  obtain ⟨x, s, rfl, hk⟩ := pp_i_e hsp
  exact pr_i2b hd (hK _ _ _ hk)
theorem ps_l2i {c : Nat × Nat} {pc : Nat} {lk : pp_Lk} {L : List (Nat × Value)} {st : List Value} {w : pp_W} {K : pp_St} (hd : decode mi.by_ pc = .ok (.l2i, pp_len (.l2i) lk)) (hst : pp_stt mi pc c (.l2i) lk = true) (hsp : pp_sp g h mi.ret P Y X (.l2i) lk L st w K) (hK : ∀ L st w, K L st w → pp_ATc g R mi Z (off.1 + (pp_cs (.l2i) lk c).1, off.2 + (pp_cs (.l2i) lk c).2) (pc + pp_len (.l2i) lk) L st w) : pp_ATc g R mi Z (off.1 + c.1, off.2 + c.2) pc L st w := by
  obtain ⟨x, s, rfl, hk⟩ := pp_j_e hsp
  exact pr_l2i hd (hK _ _ _ hk)
theorem ps_dup {c : Nat × Nat} {pc : Nat} {lk : pp_Lk} {L : List (Nat × Value)} {st : List Value} {w : pp_W} {K : pp_St} (hd : decode mi.by_ pc = .ok (.dup, pp_len (.dup) lk)) (hst : pp_stt mi pc c (.dup) lk = true) (hsp : pp_sp g h mi.ret P Y X (.dup) lk L st w K) (hK : ∀ L st w, K L st w → pp_ATc g R mi Z (off.1 + (pp_cs (.dup) lk c).1, off.2 + (pp_cs (.dup) lk c).2) (pc + pp_len (.dup) lk) L st w) : pp_ATc g R mi Z (off.1 + c.1, off.2 + c.2) pc L st w := by
  obtain ⟨v, s, rfl, hv, hk⟩ := pp_1_e hsp
  exact pr_dup hd hv (hK _ _ _ hk)
theorem ps_pop {c : Nat × Nat} {pc : Nat} {lk : pp_Lk} {L : List (Nat × Value)} {st : List Value} {w : pp_W} {K : pp_St} (hd : decode mi.by_ pc = .ok (.pop, pp_len (.pop) lk)) (hst : pp_stt mi pc c (.pop) lk = true) (hsp : pp_sp g h mi.ret P Y X (.pop) lk L st w K) (hK : ∀ L st w, K L st w → pp_ATc g R mi Z (off.1 + (pp_cs (.pop) lk c).1, off.2 + (pp_cs (.pop) lk c).2) (pc + pp_len (.pop) lk) L st w) : pp_ATc g R mi Z (off.1 + c.1, off.2 + c.2) pc L st w := by
  obtain ⟨v, s, rfl, hv, hk⟩ := pp_1_e hsp
  exact pr_pop hd hv (hK _ _ _ hk)
theorem ps_pop2 {c : Nat × Nat} {pc : Nat} {lk : pp_Lk} {L : List (Nat × Value)} {st : List Value} {w : pp_W} {K : pp_St} (hd : decode mi.by_ pc = .ok (.pop2, pp_len (.pop2) lk)) (hst : pp_stt mi pc c (.pop2) lk = true) (hsp : pp_sp g h mi.ret P Y X (.pop2) lk L st w K) (hK : ∀ L st w, K L st w → pp_ATc g R mi Z (off.1 + (pp_cs (.pop2) lk c).1, off.2 + (pp_cs (.pop2) lk c).2) (pc + pp_len (.pop2) lk) L st w) : pp_ATc g R mi Z (off.1 + c.1, off.2 + c.2) pc L st w := by
  obtain ⟨v, s, rfl, hv, hk⟩ := pp_2_e hsp
  exact pr_pop2 hd hv (hK _ _ _ hk)
theorem ps_dup2 {c : Nat × Nat} {pc : Nat} {lk : pp_Lk} {L : List (Nat × Value)} {st : List Value} {w : pp_W} {K : pp_St} (hd : decode mi.by_ pc = .ok (.dup2, pp_len (.dup2) lk)) (hst : pp_stt mi pc c (.dup2) lk = true) (hsp : pp_sp g h mi.ret P Y X (.dup2) lk L st w K) (hK : ∀ L st w, K L st w → pp_ATc g R mi Z (off.1 + (pp_cs (.dup2) lk c).1, off.2 + (pp_cs (.dup2) lk c).2) (pc + pp_len (.dup2) lk) L st w) : pp_ATc g R mi Z (off.1 + c.1, off.2 + c.2) pc L st w := by
  obtain ⟨v, s, rfl, hv, hk⟩ := pp_1_e hsp
  obtain ⟨u, s, rfl, hu, hk⟩ := pp_1_e hk
  exact pr_dup2 hd hv hu (hK _ _ _ hk)
theorem ps_ifCond {q : ClassFile.Cond} {o : Int} {c : Nat × Nat} {pc : Nat} {lk : pp_Lk} {L : List (Nat × Value)} {st : List Value} {w : pp_W} {K : pp_St} (hd : decode mi.by_ pc = .ok (.ifCond q o, pp_len (.ifCond q o) lk)) (hst : pp_stt mi pc c (.ifCond q o) lk = true) (hsp : pp_sp g h mi.ret P Y X (.ifCond q o) lk L st w K) (hX : ∀ t L st w, X t L st w → pp_AT g R mi Z off t L st w) (hK : ∀ L st w, K L st w → pp_ATc g R mi Z (off.1 + (pp_cs (.ifCond q o) lk c).1, off.2 + (pp_cs (.ifCond q o) lk c).2) (pc + pp_len (.ifCond q o) lk) L st w) : pp_ATc g R mi Z (off.1 + c.1, off.2 + c.2) pc L st w := by
  match lk, hst, hsp, hd, hK with
  | .inl (t, a, b), hst, hsp, hd, hK =>
    obtain ⟨x, s, rfl, h1, h2⟩ := pp_i_e hsp
    have ht := pp_tgt_1 hst
    cases q
    · exact pr_if_eq hd ht (fun z => (pp_toT hX hst (h1 z)).2) (fun z => hK _ _ _ (h2 z))
    · exact pr_if_ne hd ht (fun z => (pp_toT hX hst (h1 z)).2) (fun z => hK _ _ _ (h2 z))
    · exact pr_if_lt hd ht (fun z => (pp_toT hX hst (h1 z)).2) (fun z => hK _ _ _ (h2 z))
    · exact pr_if_ge hd ht (fun z => (pp_toT hX hst (h1 z)).2) (fun z => hK _ _ _ (h2 z))
    · exact pr_if_gt hd ht (fun z => (pp_toT hX hst (h1 z)).2) (fun z => hK _ _ _ (h2 z))
    · exact pr_if_le hd ht (fun z => (pp_toT hX hst (h1 z)).2) (fun z => hK _ _ _ (h2 z))
theorem ps_if_icmp {q : ClassFile.Cond} {o : Int} {c : Nat × Nat} {pc : Nat} {lk : pp_Lk} {L : List (Nat × Value)} {st : List Value} {w : pp_W} {K : pp_St} (hd : decode mi.by_ pc = .ok (.if_icmp q o, pp_len (.if_icmp q o) lk)) (hst : pp_stt mi pc c (.if_icmp q o) lk = true) (hsp : pp_sp g h mi.ret P Y X (.if_icmp q o) lk L st w K) (hX : ∀ t L st w, X t L st w → pp_AT g R mi Z off t L st w) (hK : ∀ L st w, K L st w → pp_ATc g R mi Z (off.1 + (pp_cs (.if_icmp q o) lk c).1, off.2 + (pp_cs (.if_icmp q o) lk c).2) (pc + pp_len (.if_icmp q o) lk) L st w) : pp_ATc g R mi Z (off.1 + c.1, off.2 + c.2) pc L st w := by
  match lk, hst, hsp, hd, hK with
  | .inl (t, a, b), hst, hsp, hd, hK =>
    obtain ⟨y, s, rfl, hk⟩ := pp_i_e hsp
    obtain ⟨x, s, rfl, h1, h2⟩ := pp_i_e hk
    have ht := pp_tgt_1 hst
    cases q
    · exact pr_icmp_eq hd ht (fun z => (pp_toT hX hst (h1 z)).2) (fun z => hK _ _ _ (h2 z))
    · exact pr_icmp_ne hd ht (fun z => (pp_toT hX hst (h1 z)).2) (fun z => hK _ _ _ (h2 z))
    · exact pr_icmp_lt hd ht (fun z => (pp_toT hX hst (h1 z)).2) (fun z => hK _ _ _ (h2 z))
    · exact pr_icmp_ge hd ht (fun z => (pp_toT hX hst (h1 z)).2) (fun z => hK _ _ _ (h2 z))
    · exact pr_icmp_gt hd ht (fun z => (pp_toT hX hst (h1 z)).2) (fun z => hK _ _ _ (h2 z))
    · exact pr_icmp_le hd ht (fun z => (pp_toT hX hst (h1 z)).2) (fun z => hK _ _ _ (h2 z))
theorem ps_goto {o : Int} {c : Nat × Nat} {pc : Nat} {lk : pp_Lk} {L : List (Nat × Value)} {st : List Value} {w : pp_W} {K : pp_St} (hd : decode mi.by_ pc = .ok (.goto o, pp_len (.goto o) lk)) (hst : pp_stt mi pc c (.goto o) lk = true) (hsp : pp_sp g h mi.ret P Y X (.goto o) lk L st w K) (hX : ∀ t L st w, X t L st w → pp_AT g R mi Z off t L st w) (hK : ∀ L st w, K L st w → pp_ATc g R mi Z (off.1 + (pp_cs (.goto o) lk c).1, off.2 + (pp_cs (.goto o) lk c).2) (pc + pp_len (.goto o) lk) L st w) : pp_ATc g R mi Z (off.1 + c.1, off.2 + c.2) pc L st w := by
  match lk, hst, hsp, hd, hK with
  | .inl (t, a, b), hst, hsp, hd, hK => exact pr_goto hd (pp_tgt_1 hst) (pp_toT hX hst hsp).2
theorem ps_ifnull {o : Int} {c : Nat × Nat} {pc : Nat} {lk : pp_Lk} {L : List (Nat × Value)} {st : List Value} {w : pp_W} {K : pp_St} (hd : decode mi.by_ pc = .ok (.ifnull o, pp_len (.ifnull o) lk)) (hst : pp_stt mi pc c (.ifnull o) lk = true) (hsp : pp_sp g h mi.ret P Y X (.ifnull o) lk L st w K) (hX : ∀ t L st w, X t L st w → pp_AT g R mi Z off t L st w) (hK : ∀ L st w, K L st w → pp_ATc g R mi Z (off.1 + (pp_cs (.ifnull o) lk c).1, off.2 + (pp_cs (.ifnull o) lk c).2) (pc + pp_len (.ifnull o) lk) L st w) : pp_ATc g R mi Z (off.1 + c.1, off.2 + c.2) pc L st w := by
  match lk, hst, hsp, hd, hK with
  | .inl (t, a, b), hst, hsp, hd, hK =>
    have hsp : pp_q st (fun x st => match x with | none => X t L st w | some _ => K L st w) := hsp
    obtain ⟨x, s, rfl, hk⟩ := pp_q_e hsp
    cases x with
    | none => exact pr_ifnullN hd (pp_tgt_1 hst) (pp_toT hX hst hk).2
    | some x => exact pr_ifnull hd (hK _ _ _ hk)
theorem ps_ifnonnull {o : Int} {c : Nat × Nat} {pc : Nat} {lk : pp_Lk} {L : List (Nat × Value)} {st : List Value} {w : pp_W} {K : pp_St} (hd : decode mi.by_ pc = .ok (.ifnonnull o, pp_len (.ifnonnull o) lk)) (hst : pp_stt mi pc c (.ifnonnull o) lk = true) (hsp : pp_sp g h mi.ret P Y X (.ifnonnull o) lk L st w K) (hX : ∀ t L st w, X t L st w → pp_AT g R mi Z off t L st w) (hK : ∀ L st w, K L st w → pp_ATc g R mi Z (off.1 + (pp_cs (.ifnonnull o) lk c).1, off.2 + (pp_cs (.ifnonnull o) lk c).2) (pc + pp_len (.ifnonnull o) lk) L st w) : pp_ATc g R mi Z (off.1 + c.1, off.2 + c.2) pc L st w := by
  match lk, hst, hsp, hd, hK with
  | .inl (t, a, b), hst, hsp, hd, hK =>
    have hsp : pp_q st (fun x st => match x with | none => K L st w | some _ => X t L st w) := hsp
    obtain ⟨x, s, rfl, hk⟩ := pp_q_e hsp
    cases x with
    | none => exact pr_ifnonnullN hd (hK _ _ _ hk)
    | some x => exact pr_ifnonnull hd (pp_tgt_1 hst) (pp_toT hX hst hk).2
theorem pp_sw_e {X : Nat → Prop} {x : Int32} : ∀ (ts : List Nat) (lo : Int) (k t : Nat), pp_sw X x lo ts → ts[k]? = some t → x.toInt = lo + k → X t := by
  intro ts
  induction ts with
  | nil => intro lo k t _ h; simp at h
  | cons a ts ih =>
    intro lo k t hs hk hx
    cases k with
    | zero =>
      simp only [List.getElem?_cons_zero, Option.some.injEq] at hk
      subst hk
      refine hs.1 ?_
      have : lo = x.toInt := by simpa using hx.symm
      rw [this, Int32.ofInt_toInt]
    | succ k => exact ih (lo + 1) k t hs.2 (by simpa using hk) (by rw [hx]; push_cast; omega)
theorem ps_tableswitch {d lo hi : Int} {offs : Array Int} {c : Nat × Nat} {pc : Nat} {lk : pp_Lk} {L : List (Nat × Value)} {st : List Value} {w : pp_W} {K : pp_St} (hd : decode mi.by_ pc = .ok (.tableswitch d lo hi offs, pp_len (.tableswitch d lo hi offs) lk)) (hst : pp_stt mi pc c (.tableswitch d lo hi offs) lk = true) (hsp : pp_sp g h mi.ret P Y X (.tableswitch d lo hi offs) lk L st w K) (hX : ∀ t L st w, X t L st w → pp_AT g R mi Z off t L st w) (hK : ∀ L st w, K L st w → pp_ATc g R mi Z (off.1 + (pp_cs (.tableswitch d lo hi offs) lk c).1, off.2 + (pp_cs (.tableswitch d lo hi offs) lk c).2) (pc + pp_len (.tableswitch d lo hi offs) lk) L st w) : pp_ATc g R mi Z (off.1 + c.1, off.2 + c.2) pc L st w := by
  match lk, hst, hsp, hd, hK with
  | .inl (td, len, ts), hst, hsp, hd, hK =>
    simp only [pp_stt, Bool.and_eq_true, decide_eq_true_eq] at hst
    obtain ⟨⟨⟨ht, hhi⟩, hof⟩, hall⟩ := hst
    obtain ⟨x, s, rfl, h1, h2⟩ := pp_i_e hsp
    by_cases hlo : x.toInt < lo
    · exact pr_tableOut hd (Or.inl hlo) (pp_tgt_1 ht) (pp_toT hX ht (h2 (Or.inl hlo))).2
    · by_cases hhi2 : hi < x.toInt
      · exact pr_tableOut hd (Or.inr hhi2) (pp_tgt_1 ht) (pp_toT hX ht (h2 (Or.inr hhi2))).2
      · obtain ⟨k, hk⟩ : ∃ k : Nat, x.toInt = lo + k := ⟨(x.toInt - lo).toNat, by omega⟩
        have hkl : k < ts.length := by omega
        have hlen : offs.toList.length = ts.length := by
          have := congrArg List.length hof
          simpa using this
        obtain ⟨t, htk⟩ : ∃ t, ts[k]? = some t := ⟨_, List.getElem?_eq_getElem hkl⟩
        obtain ⟨o, hok⟩ : ∃ o, offs.toList[k]? = some o := ⟨_, List.getElem?_eq_getElem (by omega)⟩
        have hpt : (pc : Int) + o = (t : Int) := by
          have := congrArg (fun l : List Int => l[k]?) hof
          simp only [List.getElem?_map, hok, htk, Option.map_some, Option.some.injEq] at this
          exact this
        have hle := pp_le_1 (List.all_eq_true.mp hall t (List.mem_of_getElem? htk))
        refine pr_tableIn (off := o) hd hlo hhi2 ?_ hpt ((hX t _ _ _ (pp_sw_e ts lo k t h1 htk hk)).le (by show off.1 + c.1 ≤ off.1 + _; omega) (by show off.2 + c.2 ≤ off.2 + _; omega))
        rw [show (x.toInt - lo).toNat = k by omega, ← Array.getElem?_toList]
        exact hok
end Sound
end
section
/-! THE ENGINE, 12: soundness, the heap and calls -/
section Outside
variable {g : pp_G} {R : Room} {mi mj : pp_MI} {Z : pp_CT → State → Prop} {cs : Nat × Nat} {pc h : Nat} {L : List (Nat × Value)} {st : List Value} {w : pp_W}
theorem pp_ad_lo (g : pp_G) {k : Nat} (h : k < 64) : pp_ad g k = pp_x g k := if_pos h
theorem pr_xval {idx a : Nat} (hd : decode mi.by_ pc = .ok (.getfield idx, 3)) (hlk : Cond.fieldLink mi.y.cls idx "java/lang/String" "value" "[B" ∈ pp_T) (ha : 1 ≤ a ∧ a ≤ 15) (kk : pp_ATc g R mi Z cs (pc + 3) L (.ref (a + 15) :: st) w) : pp_ATc g R mi Z cs pc L (.ref a :: st) w := by
  intro t C H locs ls cells slots hP hS hl h1 h2
  have kw := kk t C H locs ls cells slots hP hS hl h1 h2
  obtain ⟨i, rfl⟩ : ∃ i, a = i + 1 := ⟨a - 1, by omega⟩
  simp only [List.map_cons, pp_v] at kw ⊢
  rw [pp_ad_lo g (by omega)] at kw ⊢
  exact vk_getf C.1 C.2.1 (C.2.2.2.2.2.2.2.2.2.2.1.1 i (by omega)).2.2.1 hS C.2.2.2.1 (C.2.2.2.2.1 _ hlk) (fun _ h => h) hd kw
theorem pr_xcod {idx a : Nat} (hd : decode mi.by_ pc = .ok (.getfield idx, 3)) (hlk : Cond.fieldLink mi.y.cls idx "java/lang/String" "coder" "B" ∈ pp_T) (ha : 1 ≤ a ∧ a ≤ 15) (kk : pp_ATc g R mi Z cs (pc + 3) L (.int 0 :: st) w) : pp_ATc g R mi Z cs pc L (.ref a :: st) w := by
  intro t C H locs ls cells slots hP hS hl h1 h2
  have kw := kk t C H locs ls cells slots hP hS hl h1 h2
  obtain ⟨i, rfl⟩ : ∃ i, a = i + 1 := ⟨a - 1, by omega⟩
  simp only [List.map_cons, pp_v] at kw ⊢
  rw [pp_ad_lo g (by omega)]
  exact vk_getf C.1 C.2.1 (C.2.2.2.2.2.2.2.2.2.2.1.1 i (by omega)).2.1 hS C.2.2.2.1 (C.2.2.2.2.1 _ hlk) (fun _ h => h) hd kw
theorem pr_xcs {idx : Nat} (hd : decode mi.by_ pc = .ok (.getstatic idx, 3)) (hlk : Cond.fieldLink mi.y.cls idx "java/lang/String" "COMPACT_STRINGS" "Z" ∈ pp_T) (kk : pp_ATc g R mi Z cs (pc + 3) L (.int 1 :: st) w) : pp_ATc g R mi Z cs pc L st w :=
  fun t C H locs ls cells slots hP hS hl h1 h2 => va_gets C.1 C.2.1 C.2.2.2.2.2.2.2.2.2.2.1.2.2.2.2.2.2.2.1 hS C.2.2.2.1 (C.2.2.2.2.1 _ hlk) (fun _ h => h) hd (kk t C H locs ls cells slots hP hS hl h1 h2)
theorem pr_xfm {idx : Nat} (hd : decode mi.by_ pc = .ok (.getstatic idx, 3)) (hlk : Cond.fieldLink mi.y.cls idx "jdk/internal/util/Preconditions" "SIOOBE_FORMATTER" "Ljava/util/function/BiFunction;" ∈ pp_T) (k1 : pp_ATc g R mi Z cs (pc + 3) L (.null :: st) w) (k2 : pp_ATc g R mi Z cs (pc + 3) L (.ref 31 :: st) w) : pp_ATc g R mi Z cs pc L st w := by
  intro t C H locs ls cells slots hP hS hl h1 h2
  rcases C.2.2.2.2.2.2.2.2.2.2.1.2.2.2.2.2.2.2.2.1 with z | z
  · exact va_gets C.1 C.2.1 z hS C.2.2.2.1 (C.2.2.2.2.1 _ hlk) (fun _ h => h) hd (k1 t C H locs ls cells slots hP hS hl h1 h2)
  · exact va_gets C.1 C.2.1 z hS C.2.2.2.1 (C.2.2.2.2.1 _ hlk) (fun _ h => h) hd (k2 t C H locs ls cells slots hP hS hl h1 h2)
theorem pr_xlen {a : Nat} (hd : decode mi.by_ pc = .ok (.arraylength, 1)) (ha : 16 ≤ a ∧ a ≤ 30) (kk : pp_ATc g R mi Z cs (pc + 1) L (.int (Int32.ofNat (pp_txt.getD (a - 16) []).length) :: st) w) : pp_ATc g R mi Z cs pc L (.ref a :: st) w := by
  intro t C H locs ls cells slots hP hS hl h1 h2
  have kw := kk t C H locs ls cells slots hP hS hl h1 h2
  obtain ⟨i, rfl⟩ : ∃ i, a = i + 16 := ⟨a - 16, by omega⟩
  simp only [List.map_cons, pp_v] at kw ⊢
  rw [pp_ad_lo g (by omega)]
  rw [Nat.add_sub_cancel] at kw
  exact va_tlen C.1 C.2.1 (C.2.2.2.2.2.2.2.2.2.2.1.1 i (by omega)).2.2.2 hS rfl hd kw
theorem pr_xld {a : Nat} {j : Int32} (hd : decode mi.by_ pc = .ok (.baload, 1)) (ha : 16 ≤ a ∧ a ≤ 30) (hin : vp_in j (pp_txt.getD (a - 16) []).length) (kk : pp_ATc g R mi Z cs (pc + 1) L (.int ((pp_txt.getD (a - 16) []).getD j.toNatClampNeg 0) :: st) w) : pp_ATc g R mi Z cs pc L (.int j :: .ref a :: st) w := by
  intro t C H locs ls cells slots hP hS hl h1 h2
  have kw := kk t C H locs ls cells slots hP hS hl h1 h2
  obtain ⟨i, rfl⟩ : ∃ i, a = i + 16 := ⟨a - 16, by omega⟩
  simp only [List.map_cons, pp_v] at kw ⊢
  rw [pp_ad_lo g (by omega)]
  rw [Nat.add_sub_cancel] at kw hin
  exact va_tb C.1 C.2.1 (C.2.2.2.2.2.2.2.2.2.2.1.1 i (by omega)).2.2.2 hS hin rfl hd kw
theorem pr_slen {a : Nat} (hd : decode mi.by_ pc = .ok (.arraylength, 1)) (hy : mi.y = yL_law) (ha : a = 0) (kk : pp_ATc g R mi Z cs (pc + 1) L (.int (Int32.ofNat (pp_sL g)) :: st) w) : pp_ATc g R mi Z cs pc L (.ref a :: st) w := by
  intro t C H locs ls cells slots hP hS hl h1 h2
  have kw := kk t C H locs ls cells slots hP hS hl h1 h2
  subst ha
  simp only [List.map_cons, pp_v] at kw ⊢
  rw [pp_ad_lo g (by omega)]
  obtain ⟨hX, hlt⟩ := C.2.2.2.2.2.2.2.2.2.2.2.2.2 hy
  have hb0 := C.2.2.2.2.2.2.2.2.2.2.2.1
  exact va_slen (A := pp_A g) C.1 C.2.1 hX (by omega) (Nat.not_le.mpr hlt) hS hd kw
theorem pr_sld {a : Nat} {j : Int32} (hd : decode mi.by_ pc = .ok (.iaload, 1)) (hy : mi.y = yL_law) (ha : a = 0) (hin : vp_in j (pp_sL g)) (kk : pp_ATc g R mi Z cs (pc + 1) L (.int (pp_sx g j.toNatClampNeg) :: st) w) : pp_ATc g R mi Z cs pc L (.int j :: .ref a :: st) w := by
  intro t C H locs ls cells slots hP hS hl h1 h2
  have kw := kk t C H locs ls cells slots hP hS hl h1 h2
  subst ha
  simp only [List.map_cons, pp_v] at kw ⊢
  rw [pp_ad_lo g (by omega)]
  obtain ⟨hX, hlt⟩ := C.2.2.2.2.2.2.2.2.2.2.2.2.2 hy
  have hb0 := C.2.2.2.2.2.2.2.2.2.2.2.1
  exact va_sld (A := pp_A g) C.1 C.2.1 hX (by omega) (Nat.not_le.mpr hlt) hS hin hd kw
theorem pr_i2c {x : Int32} (hd : decode mi.by_ pc = .ok (.i2c, 1)) (kk : pp_ATc g R mi Z cs (pc + 1) L (.int (x.toUInt32 % 65536).toInt32 :: st) w) : pp_ATc g R mi Z cs pc L (.int x :: st) w :=
  fun t C H locs ls cells slots hP hS hl a b => lv_i2c C.1 C.2.1 hd rfl (kk t C H locs ls cells slots hP hS hl a b)
theorem pr_callX {idx b : Nat} {As : List Value} {P : pp_R → pp_W → Prop} (hd : decode mi.by_ pc = .ok (.invokevirtual idx, 3)) (hlk : Cond.methodLink mi.y.cls idx mj.y ∈ pp_T) (hkd : mj.kd = 1) (hh : mj.hh = []) (hrc : mj.y.cls = "java/lang/String") (hb9 : 1 ≤ b ∧ b ≤ 15) (hlen : As.length = mj.np) (hR : pp_big R h) (hc : cs.1 + mj.mc ≤ R.cells) (hs : cs.2 + mj.ms ≤ R.slots) (hst : st.length ≤ 4)
    (hM : pp_MW g h mj (.ref b :: As) w P) (hk : ∀ r w, P r w → pp_K1 g R mi Z (cs.1 + mj.mc, cs.2 + mj.ms) pc L st r w) : pp_ATc g R mi Z cs pc L (As.reverse ++ .ref b :: st) w := by
  intro t C H locs ls cells slots hP hS hl h1 h2
  have hok := hM.1
  obtain ⟨hsel1, hsel2⟩ : Cond.instanceMethod mj.y ∈ pp_T ∧ Cond.selects mj.y.cls mj.y mj.y ∈ pp_T := by
    rcases hok.2.2.2.2.2.2.1 with ⟨h, -⟩ | ⟨-, h⟩ | ⟨h, -⟩
    · rw [hkd] at h; cases h
    · exact h
    · rw [hkd] at h; cases h
  have e9 : (As.reverse ++ .ref b :: st).map (pp_v g) = (As.map (pp_v g)).reverse ++ .ref (pp_ad g b) :: st.map (pp_v g) := by
    rw [List.map_append, List.map_reverse]; rfl
  rw [e9]
  have hrecv : ∃ cell : Cell, H[pp_ad g b]? = some cell ∧ cell.vm.isStatics = false ∧ t.s.vm.findClass "java/lang/String" = some cell.cls := by
    obtain ⟨i, rfl⟩ : ∃ i, b = i + 1 := ⟨b - 1, by omega⟩
    rw [pp_ad_lo g (by omega)]
    obtain ⟨cell, q1, q2, q3, -⟩ := (C.2.2.2.2.2.2.2.2.2.2.1.1 i (by omega)).1.kept hS.2.1
    exact ⟨cell, q1, q2, q3⟩
  refine pp_after C hS hl (vx_runV (C := "java/lang/String") (As := As.map (pp_v g)) (b := pp_ad g b) ⟨C.1, C.2.1, C.2.2.1, C.2.2.2.1, C.2.2.2.2.1⟩ hM.2 ⟨pp_callB C hok hh hR hlk, C.2.2.2.2.1 _ hsel1, by rw [← hrc]; exact C.2.2.2.2.1 _ hsel2⟩ ⟨pp_blind g _ w, hrecv, pp_pre C hP hS (.ref b :: As)⟩ rfl (by rw [List.length_map]; exact hlen) hl.1 rfl (pp_rest g hst) hd ⟨by omega, by omega⟩) h1 h2 hk
theorem pp_mathW : ∀ w ∈ [Cond.static Lib.Math.min.name, Cond.static Lib.Math.max.name, Cond.static Lib.MathLoose.min_long.x, Cond.initialized "java/lang/Math", Cond.code Lib.Math.min.name Lib.Math.min.code 2 (some .int), Cond.code Lib.Math.max.name Lib.Math.max.code 2 (some .int), Cond.code Lib.MathLoose.min_long.x Lib.MathLoose.min_long.code 4 (some .long)], w ∈ pp_T := pp_sub (by decide +kernel)
theorem pr_min {idx : Nat} {x y : Int32} (hd : decode mi.by_ pc = .ok (.invokestatic idx, 3)) (hlk : Cond.methodLink mi.y.cls idx Lib.Math.min.name ∈ pp_T) (hR : pp_big R h) (hc : cs.1 ≤ R.cells) (hs : cs.2 ≤ R.slots) (hst : st.length ≤ 4) (kk : pp_ATc g R mi Z cs (pc + 3) L (.int (if y < x then y else x) :: st) w) : pp_ATc g R mi Z cs pc L (.int y :: .int x :: st) w :=
  fun t C H locs ls cells slots hP hS hl h1 h2 => va_mmin C.1 C.2.1 (by rw [C.2.2.1]; exact hl.1.symm) C.2.2.2.1 (C.2.2.2.2.1 _ hlk) (C.2.2.2.2.1 _ (pp_mathW _ (by simp))) (C.2.2.2.2.1 _ (pp_mathW _ (by simp))) (C.2.2.2.2.1 _ (pp_mathW _ (by simp))) (by have := hR.1; omega) (by have := hR.2; have := pp_cat_le g st; omega) (by omega) (by omega) hd (kk t C H locs ls cells slots hP hS hl h1 h2)
theorem pr_max {idx : Nat} {x y : Int32} (hd : decode mi.by_ pc = .ok (.invokestatic idx, 3)) (hlk : Cond.methodLink mi.y.cls idx Lib.Math.max.name ∈ pp_T) (hR : pp_big R h) (hc : cs.1 ≤ R.cells) (hs : cs.2 ≤ R.slots) (hst : st.length ≤ 4) (kk : pp_ATc g R mi Z cs (pc + 3) L (.int (if x < y then y else x) :: st) w) : pp_ATc g R mi Z cs pc L (.int y :: .int x :: st) w :=
  fun t C H locs ls cells slots hP hS hl h1 h2 => va_mmax C.1 C.2.1 (by rw [C.2.2.1]; exact hl.1.symm) C.2.2.2.1 (C.2.2.2.2.1 _ hlk) (C.2.2.2.2.1 _ (pp_mathW _ (by simp))) (C.2.2.2.2.1 _ (pp_mathW _ (by simp))) (C.2.2.2.2.1 _ (pp_mathW _ (by simp))) (by have := hR.1; omega) (by have := hR.2; have := pp_cat_le g st; omega) (by omega) (by omega) hd (kk t C H locs ls cells slots hP hS hl h1 h2)
theorem pr_minL {idx : Nat} {x y : Int64} (hd : decode mi.by_ pc = .ok (.invokestatic idx, 3)) (hlk : Cond.methodLink mi.y.cls idx Lib.MathLoose.min_long.x ∈ pp_T) (hR : pp_big R h) (hc : cs.1 ≤ R.cells) (hs : cs.2 ≤ R.slots) (hst : st.length ≤ 4) (kk : pp_ATc g R mi Z cs (pc + 3) L (.long (if y < x then y else x) :: st) w) : pp_ATc g R mi Z cs pc L (.long y :: .long x :: st) w :=
  fun t C H locs ls cells slots hP hS hl h1 h2 => va_mmin_long C.1 C.2.1 (by rw [C.2.2.1]; exact hl.1.symm) C.2.2.2.1 (C.2.2.2.2.1 _ hlk) (C.2.2.2.2.1 _ (pp_mathW _ (by simp))) (C.2.2.2.2.1 _ (pp_mathW _ (by simp))) (C.2.2.2.2.1 _ (pp_mathW _ (by simp))) (by have := hR.1; omega) (by have := hR.2; have := pp_cat_le g st; omega) (by omega) (by omega) hd (kk t C H locs ls cells slots hP hS hl h1 h2)
end Outside
section Sound2
variable {g : pp_G} {R : Room} {mi : pp_MI} {Z : pp_CT → State → Prop} {off : Nat × Nat} {P : pp_R → pp_W → Prop} {Y : String → pp_W → Prop} {X : Nat → pp_St} {h : Nat}
theorem pp_fl_e {n ci k t p : Nat} {b : Bool} (hf : pp_fl mi n ci k t p b = true) : ∃ r : vw_C, pp_cl[ci]? = some r ∧ k < r.2.2 ∧ pp_fk ci k = t ∧ Cond.fieldLink mi.y.cls n (r.2.1 k).1 (r.2.1 k).2.1 (r.2.1 k).2.2.1 ∈ pp_T ∧ (b = true → (r.2.1 k).2.2.2 = false ∨ ((r.2.1 k).2.2.2 = true ∧ mi.y.name = "<init>" ∧ (r.2.1 k).1 = mi.y.cls)) := by
  unfold pp_fl at hf
  split at hf
  · rename_i r hr
    simp only [Bool.and_eq_true, decide_eq_true_eq, Bool.or_eq_true, Bool.not_eq_true'] at hf
    obtain ⟨⟨⟨h1, h2⟩, h3⟩, h4⟩ := hf
    refine ⟨r, hr, h1, h2, pp_w_in h3, fun hb => ?_⟩
    rcases h4 with (h4 | h4) | h4
    · rw [hb] at h4; cases h4
    · exact Or.inl h4
    · cases hz : (r.2.1 k).2.2.2 with
      | false => exact Or.inl rfl
      | true => exact Or.inr ⟨rfl, h4.1, h4.2⟩
  · cases hf
theorem ps_getfield {n : Nat} {c : Nat × Nat} {pc : Nat} {lk : pp_Lk} {L : List (Nat × Value)} {st : List Value} {w : pp_W} {K : pp_St} (hd : decode mi.by_ pc = .ok (.getfield n, pp_len (.getfield n) lk)) (hst : pp_stt mi pc c (.getfield n) lk = true) (hsp : pp_sp g h mi.ret P Y X (.getfield n) lk L st w K) (hK : ∀ L st w, K L st w → pp_ATc g R mi Z (off.1 + (pp_cs (.getfield n) lk c).1, off.2 + (pp_cs (.getfield n) lk c).2) (pc + pp_len (.getfield n) lk) L st w) : pp_ATc g R mi Z (off.1 + c.1, off.2 + c.2) pc L st w := by
  match lk, hst, hsp, hd, hK with
  | .inl (ci, k, 0 :: p :: l), hst, hsp, hd, hK =>
    obtain ⟨a, s, rfl, ha, hk⟩ := pp_r_e hsp
    obtain ⟨r, hr, h1, h2, h3, -⟩ := pp_fl_e hst
    exact pr_get hd hr h1 h3 ha (by rw [h2]; rfl) (hK _ _ _ hk)
  | .inl (ci, k, 1 :: p :: l), hst, hsp, hd, hK =>
    obtain ⟨a, s, rfl, ha, hk⟩ := pp_r_e hsp
    obtain ⟨r, hr, h1, h2, h3, -⟩ := pp_fl_e hst
    exact pr_get hd hr h1 h3 ha (by rw [h2]; rfl) (hK _ _ _ hk)
  | .inl (ci, k, 2 :: p :: l), hst, hsp, hd, hK =>
    obtain ⟨a, s, rfl, ha, hk⟩ := pp_r_e hsp
    obtain ⟨r, hr, h1, h2, h3, -⟩ := pp_fl_e hst
    exact pr_get hd hr h1 h3 ha (by rw [h2]; exact pp_v_rf g _) (hK _ _ _ hk)
  | .inl (ci, k, 3 :: p :: l), hst, hsp, hd, hK =>
    obtain ⟨a, s, rfl, ha, hk⟩ := pp_r_e hsp
    exact pr_xval hd (pp_w_in hst) ha (hK _ _ _ hk)
  | .inl (ci, k, 4 :: p :: l), hst, hsp, hd, hK =>
    obtain ⟨a, s, rfl, ha, hk⟩ := pp_r_e hsp
    exact pr_xcod hd (pp_w_in hst) ha (hK _ _ _ hk)
theorem ps_getstatic {n : Nat} {c : Nat × Nat} {pc : Nat} {lk : pp_Lk} {L : List (Nat × Value)} {st : List Value} {w : pp_W} {K : pp_St} (hd : decode mi.by_ pc = .ok (.getstatic n, pp_len (.getstatic n) lk)) (hst : pp_stt mi pc c (.getstatic n) lk = true) (hsp : pp_sp g h mi.ret P Y X (.getstatic n) lk L st w K) (hK : ∀ L st w, K L st w → pp_ATc g R mi Z (off.1 + (pp_cs (.getstatic n) lk c).1, off.2 + (pp_cs (.getstatic n) lk c).2) (pc + pp_len (.getstatic n) lk) L st w) : pp_ATc g R mi Z (off.1 + c.1, off.2 + c.2) pc L st w := by
  match lk, hst, hsp, hd, hK with
  | .inl (0, p, l), hst, hsp, hd, hK => exact pr_xcs hd (pp_w_in hst) (hK _ _ _ hsp)
  | .inl (1, p, l), hst, hsp, hd, hK => exact pr_xfm hd (pp_w_in hst) (hK _ _ _ hsp.1) (hK _ _ _ hsp.2)
theorem ps_i2c {c : Nat × Nat} {pc : Nat} {lk : pp_Lk} {L : List (Nat × Value)} {st : List Value} {w : pp_W} {K : pp_St} (hd : decode mi.by_ pc = .ok (.i2c, pp_len (.i2c) lk)) (hst : pp_stt mi pc c (.i2c) lk = true) (hsp : pp_sp g h mi.ret P Y X (.i2c) lk L st w K) (hK : ∀ L st w, K L st w → pp_ATc g R mi Z (off.1 + (pp_cs (.i2c) lk c).1, off.2 + (pp_cs (.i2c) lk c).2) (pc + pp_len (.i2c) lk) L st w) : pp_ATc g R mi Z (off.1 + c.1, off.2 + c.2) pc L st w := by
  obtain ⟨x, s, rfl, hk⟩ := pp_i_e hsp
  exact pr_i2c hd (hK _ _ _ hk)
theorem ps_putfield {n : Nat} {c : Nat × Nat} {pc : Nat} {lk : pp_Lk} {L : List (Nat × Value)} {st : List Value} {w : pp_W} {K : pp_St} (hd : decode mi.by_ pc = .ok (.putfield n, pp_len (.putfield n) lk)) (hst : pp_stt mi pc c (.putfield n) lk = true) (hsp : pp_sp g h mi.ret P Y X (.putfield n) lk L st w K) (hK : ∀ L st w, K L st w → pp_ATc g R mi Z (off.1 + (pp_cs (.putfield n) lk c).1, off.2 + (pp_cs (.putfield n) lk c).2) (pc + pp_len (.putfield n) lk) L st w) : pp_ATc g R mi Z (off.1 + c.1, off.2 + c.2) pc L st w := by
  match lk, hst, hsp, hd, hK with
  | .inl (ci, k, 0 :: p :: l), hst, hsp, hd, hK =>
    obtain ⟨x, s, rfl, hk⟩ := pp_i_e hsp
    obtain ⟨a, s, rfl, ha, hk⟩ := pp_r_e hk
    obtain ⟨r, hr, h1, h2, h3, h4⟩ := pp_fl_e hst
    have hty := pp_fkD (pp_fkOK hr k h1)
    rw [h2] at hty
    have hty : pp_ty ci k = .int := by
      rcases hty with ⟨-, z⟩ | ⟨z, -⟩ | ⟨z, -⟩
      · exact z
      · cases z
      · cases z
    refine pr_put (v := .int x) (m' := (pp_s w.2.1 a (va_up (w.2.1 a) k x), w.2.2)) hd hr h1 h3 (h4 rfl) (by rw [hty]; rfl) (by rw [hty]; rfl) ha (fun i hi => pp_s_ne _ _ hi) (fun i hi => rfl) (fun i hi => rfl) ?_ (fun j hj => ?_) (hK _ _ _ hk)
    · rw [h2]
      simp only [pp_fv, pp_s_eq, va_up, if_pos]
      rfl
    · simp only [pp_fv, pp_s_eq, va_up, if_neg hj]
  | .inl (ci, k, 1 :: p :: l), hst, hsp, hd, hK =>
    obtain ⟨x, s, rfl, hk⟩ := pp_j_e hsp
    obtain ⟨a, s, rfl, ha, hk⟩ := pp_r_e hk
    obtain ⟨r, hr, h1, h2, h3, h4⟩ := pp_fl_e hst
    have hty := pp_fkD (pp_fkOK hr k h1)
    rw [h2] at hty
    have hty : pp_ty ci k = .long := by
      rcases hty with ⟨z, -⟩ | ⟨-, z⟩ | ⟨z, -⟩
      · cases z
      · exact z
      · cases z
    refine pr_put (v := .long x) (m' := (w.2.1, pp_s w.2.2.1 a (va_up (w.2.2.1 a) k x), w.2.2.2)) hd hr h1 h3 (h4 rfl) (by rw [hty]; rfl) (by rw [hty]; rfl) ha (fun i hi => rfl) (fun i hi => pp_s_ne _ _ hi) (fun i hi => rfl) ?_ (fun j hj => ?_) (hK _ _ _ hk)
    · rw [h2]
      simp only [pp_fv, pp_s_eq, va_up, if_pos]
      rfl
    · simp only [pp_fv, pp_s_eq, va_up, if_neg hj]
  | .inl (ci, k, 2 :: p :: l), hst, hsp, hd, hK =>
    have hsp : pp_q st (fun x st => pp_r st (fun a st => w.1[a]? = some (ci, 0) ∧ K L st (w.1, w.2.1, w.2.2.1, pp_s w.2.2.2 a (va_up (w.2.2.2 a) k x)))) := hsp
    obtain ⟨x, s, rfl, hk⟩ := pp_q_e hsp
    obtain ⟨a, s, rfl, ha, hk⟩ := pp_r_e hk
    obtain ⟨r, hr, h1, h2, h3, h4⟩ := pp_fl_e hst
    have hty := pp_fkD (pp_fkOK hr k h1)
    rw [h2] at hty
    have hty : (∃ C, pp_ty ci k = .object C) ∨ ∃ t, pp_ty ci k = .array t := by
      rcases hty with ⟨z, -⟩ | ⟨z, -⟩ | ⟨-, z⟩
      · cases z
      · cases z
      · exact z
    refine pr_put (v := pp_rf x) (m' := (w.2.1, w.2.2.1, pp_s w.2.2.2 a (va_up (w.2.2.2 a) k x))) hd hr h1 h3 (h4 rfl) (by rcases hty with ⟨_, z⟩ | ⟨_, z⟩ <;> rw [z] <;> cases x <;> rfl) (by rcases hty with ⟨_, z⟩ | ⟨_, z⟩ <;> rw [z] <;> cases x <;> rfl) ha (fun i hi => rfl) (fun i hi => rfl) (fun i hi => pp_s_ne _ _ hi) ?_ (fun j hj => ?_) (hK _ _ _ hk)
    · rw [h2, pp_v_rf]
      simp only [pp_fv, pp_s_eq, va_up, if_pos]
    · simp only [pp_fv, pp_s_eq, va_up, if_neg hj]
theorem ps_arraylength {c : Nat × Nat} {pc : Nat} {lk : pp_Lk} {L : List (Nat × Value)} {st : List Value} {w : pp_W} {K : pp_St} (hd : decode mi.by_ pc = .ok (.arraylength, pp_len (.arraylength) lk)) (hst : pp_stt mi pc c (.arraylength) lk = true) (hsp : pp_sp g h mi.ret P Y X (.arraylength) lk L st w K) (hK : ∀ L st w, K L st w → pp_ATc g R mi Z (off.1 + (pp_cs (.arraylength) lk c).1, off.2 + (pp_cs (.arraylength) lk c).2) (pc + pp_len (.arraylength) lk) L st w) : pp_ATc g R mi Z (off.1 + c.1, off.2 + c.2) pc L st w := by
  match lk, hst, hsp, hd, hK with
  | .inl (0, b, l), hst, hsp, hd, hK =>
    obtain ⟨a, s, rfl, hk⟩ := pp_r_e hsp
    obtain ⟨t, n, e, ht, hk⟩ := pp_al_e hk
    exact pr_alen hd e ht rfl (hK _ _ _ hk)
  | .inl (1, b, l), hst, hsp, hd, hK =>
    obtain ⟨a, s, rfl, ha, hk⟩ := pp_r_e hsp
    exact pr_slen hd (of_decide_eq_true hst) ha (hK _ _ _ hk)
  | .inl (2, b, l), hst, hsp, hd, hK =>
    obtain ⟨a, s, rfl, ha, hk⟩ := pp_r_e hsp
    exact pr_xlen hd ha (hK _ _ _ hk)
theorem ps_iaload {c : Nat × Nat} {pc : Nat} {lk : pp_Lk} {L : List (Nat × Value)} {st : List Value} {w : pp_W} {K : pp_St} (hd : decode mi.by_ pc = .ok (.iaload, pp_len (.iaload) lk)) (hst : pp_stt mi pc c (.iaload) lk = true) (hsp : pp_sp g h mi.ret P Y X (.iaload) lk L st w K) (hK : ∀ L st w, K L st w → pp_ATc g R mi Z (off.1 + (pp_cs (.iaload) lk c).1, off.2 + (pp_cs (.iaload) lk c).2) (pc + pp_len (.iaload) lk) L st w) : pp_ATc g R mi Z (off.1 + c.1, off.2 + c.2) pc L st w := by
  match lk, hst, hsp, hd, hK with
  | .inl (0, b, l), hst, hsp, hd, hK =>
    obtain ⟨j, s, rfl, hk⟩ := pp_i_e hsp
    obtain ⟨a, s, rfl, hk⟩ := pp_r_e hk
    obtain ⟨n, e, hin, hk⟩ := pp_in_e hk
    exact pr_iald hd e hin (hK _ _ _ hk)
  | .inl (1, b, l), hst, hsp, hd, hK =>
    obtain ⟨j, s, rfl, hk⟩ := pp_i_e hsp
    obtain ⟨a, s, rfl, ha, hin, hk⟩ := pp_r_e hk
    exact pr_sld hd (of_decide_eq_true hst) ha hin (hK _ _ _ hk)
theorem ps_baload {c : Nat × Nat} {pc : Nat} {lk : pp_Lk} {L : List (Nat × Value)} {st : List Value} {w : pp_W} {K : pp_St} (hd : decode mi.by_ pc = .ok (.baload, pp_len (.baload) lk)) (hst : pp_stt mi pc c (.baload) lk = true) (hsp : pp_sp g h mi.ret P Y X (.baload) lk L st w K) (hK : ∀ L st w, K L st w → pp_ATc g R mi Z (off.1 + (pp_cs (.baload) lk c).1, off.2 + (pp_cs (.baload) lk c).2) (pc + pp_len (.baload) lk) L st w) : pp_ATc g R mi Z (off.1 + c.1, off.2 + c.2) pc L st w := by
  match lk, hst, hsp, hd, hK with
  | .inl (0, b, l), hst, hsp, hd, hK =>
    obtain ⟨j, s, rfl, hk⟩ := pp_i_e hsp
    obtain ⟨a, s, rfl, hk⟩ := pp_r_e hk
    obtain ⟨n, e, hin, hk⟩ := pp_in_e hk
    exact pr_bald hd e hin (hK _ _ _ hk)
  | .inl (1, b, l), hst, hsp, hd, hK =>
    obtain ⟨j, s, rfl, hk⟩ := pp_i_e hsp
    obtain ⟨a, s, rfl, hk⟩ := pp_r_e hk
    obtain ⟨n, e, hin, hk⟩ := pp_in_e hk
    exact pr_zald hd e hin (hK _ _ _ hk)
  | .inl (2, b, l), hst, hsp, hd, hK =>
    obtain ⟨j, s, rfl, hk⟩ := pp_i_e hsp
    obtain ⟨a, s, rfl, ha, hin, hk⟩ := pp_r_e hk
    exact pr_xld hd ha hin (hK _ _ _ hk)
theorem ps_laload {c : Nat × Nat} {pc : Nat} {lk : pp_Lk} {L : List (Nat × Value)} {st : List Value} {w : pp_W} {K : pp_St} (hd : decode mi.by_ pc = .ok (.laload, pp_len (.laload) lk)) (hst : pp_stt mi pc c (.laload) lk = true) (hsp : pp_sp g h mi.ret P Y X (.laload) lk L st w K) (hK : ∀ L st w, K L st w → pp_ATc g R mi Z (off.1 + (pp_cs (.laload) lk c).1, off.2 + (pp_cs (.laload) lk c).2) (pc + pp_len (.laload) lk) L st w) : pp_ATc g R mi Z (off.1 + c.1, off.2 + c.2) pc L st w := by
  obtain ⟨j, s, rfl, hk⟩ := pp_i_e hsp
  obtain ⟨a, s, rfl, hk⟩ := pp_r_e hk
  obtain ⟨n, e, hin, hk⟩ := pp_in_e hk
  exact pr_lald hd e hin (hK _ _ _ hk)
theorem ps_aaload {c : Nat × Nat} {pc : Nat} {lk : pp_Lk} {L : List (Nat × Value)} {st : List Value} {w : pp_W} {K : pp_St} (hd : decode mi.by_ pc = .ok (.aaload, pp_len (.aaload) lk)) (hst : pp_stt mi pc c (.aaload) lk = true) (hsp : pp_sp g h mi.ret P Y X (.aaload) lk L st w K) (hK : ∀ L st w, K L st w → pp_ATc g R mi Z (off.1 + (pp_cs (.aaload) lk c).1, off.2 + (pp_cs (.aaload) lk c).2) (pc + pp_len (.aaload) lk) L st w) : pp_ATc g R mi Z (off.1 + c.1, off.2 + c.2) pc L st w := by
  obtain ⟨j, s, rfl, hk⟩ := pp_i_e hsp
  obtain ⟨a, s, rfl, hk⟩ := pp_r_e hk
  obtain ⟨n, e, hin, hk⟩ := pp_in_e hk
  exact pr_aald hd e hin (hK _ _ _ hk)
theorem ps_iastore {c : Nat × Nat} {pc : Nat} {lk : pp_Lk} {L : List (Nat × Value)} {st : List Value} {w : pp_W} {K : pp_St} (hd : decode mi.by_ pc = .ok (.iastore, pp_len (.iastore) lk)) (hst : pp_stt mi pc c (.iastore) lk = true) (hsp : pp_sp g h mi.ret P Y X (.iastore) lk L st w K) (hK : ∀ L st w, K L st w → pp_ATc g R mi Z (off.1 + (pp_cs (.iastore) lk c).1, off.2 + (pp_cs (.iastore) lk c).2) (pc + pp_len (.iastore) lk) L st w) : pp_ATc g R mi Z (off.1 + c.1, off.2 + c.2) pc L st w := by
  obtain ⟨x, s, rfl, hk⟩ := pp_i_e hsp
  obtain ⟨j, s, rfl, hk⟩ := pp_i_e hk
  obtain ⟨a, s, rfl, hk⟩ := pp_r_e hk
  obtain ⟨n, e, hin, hk⟩ := pp_in_e hk
  exact pr_iast hd e hin (hK _ _ _ hk)
theorem ps_lastore {c : Nat × Nat} {pc : Nat} {lk : pp_Lk} {L : List (Nat × Value)} {st : List Value} {w : pp_W} {K : pp_St} (hd : decode mi.by_ pc = .ok (.lastore, pp_len (.lastore) lk)) (hst : pp_stt mi pc c (.lastore) lk = true) (hsp : pp_sp g h mi.ret P Y X (.lastore) lk L st w K) (hK : ∀ L st w, K L st w → pp_ATc g R mi Z (off.1 + (pp_cs (.lastore) lk c).1, off.2 + (pp_cs (.lastore) lk c).2) (pc + pp_len (.lastore) lk) L st w) : pp_ATc g R mi Z (off.1 + c.1, off.2 + c.2) pc L st w := by
  obtain ⟨x, s, rfl, hk⟩ := pp_j_e hsp
  obtain ⟨j, s, rfl, hk⟩ := pp_i_e hk
  obtain ⟨a, s, rfl, hk⟩ := pp_r_e hk
  obtain ⟨n, e, hin, hk⟩ := pp_in_e hk
  exact pr_last hd e hin (hK _ _ _ hk)
theorem ps_bastore {c : Nat × Nat} {pc : Nat} {lk : pp_Lk} {L : List (Nat × Value)} {st : List Value} {w : pp_W} {K : pp_St} (hd : decode mi.by_ pc = .ok (.bastore, pp_len (.bastore) lk)) (hst : pp_stt mi pc c (.bastore) lk = true) (hsp : pp_sp g h mi.ret P Y X (.bastore) lk L st w K) (hK : ∀ L st w, K L st w → pp_ATc g R mi Z (off.1 + (pp_cs (.bastore) lk c).1, off.2 + (pp_cs (.bastore) lk c).2) (pc + pp_len (.bastore) lk) L st w) : pp_ATc g R mi Z (off.1 + c.1, off.2 + c.2) pc L st w := by
  match lk, hst, hsp, hd, hK with
  | .inl (0, b, l), hst, hsp, hd, hK =>
    obtain ⟨x, s, rfl, hk⟩ := pp_i_e hsp
    obtain ⟨j, s, rfl, hk⟩ := pp_i_e hk
    obtain ⟨a, s, rfl, hk⟩ := pp_r_e hk
    obtain ⟨n, e, hin, hk⟩ := pp_in_e hk
    exact pr_bast hd e hin (hK _ _ _ hk)
  | .inl (1, b, l), hst, hsp, hd, hK =>
    obtain ⟨x, s, rfl, hk⟩ := pp_i_e hsp
    obtain ⟨j, s, rfl, hk⟩ := pp_i_e hk
    obtain ⟨a, s, rfl, hk⟩ := pp_r_e hk
    obtain ⟨n, e, hin, hx, hk⟩ := pp_in_e hk
    exact pr_zast hd e hin hx (hK _ _ _ hk)
theorem ps_aastore {c : Nat × Nat} {pc : Nat} {lk : pp_Lk} {L : List (Nat × Value)} {st : List Value} {w : pp_W} {K : pp_St} (hd : decode mi.by_ pc = .ok (.aastore, pp_len (.aastore) lk)) (hst : pp_stt mi pc c (.aastore) lk = true) (hsp : pp_sp g h mi.ret P Y X (.aastore) lk L st w K) (hK : ∀ L st w, K L st w → pp_ATc g R mi Z (off.1 + (pp_cs (.aastore) lk c).1, off.2 + (pp_cs (.aastore) lk c).2) (pc + pp_len (.aastore) lk) L st w) : pp_ATc g R mi Z (off.1 + c.1, off.2 + c.2) pc L st w := by
  have hsp : pp_q st (fun x st => pp_i st (fun j st => pp_r st (fun a st => pp_in w a 14 j ((∀ b, x = some b → w.1[b]? = some (4, 0)) ∧ K L st (w.1, w.2.1, w.2.2.1, pp_s w.2.2.2 a (va_up (w.2.2.2 a) j.toNatClampNeg x)))))) := hsp
  obtain ⟨x, s, rfl, hk⟩ := pp_q_e hsp
  obtain ⟨j, s, rfl, hk⟩ := pp_i_e hk
  obtain ⟨a, s, rfl, hk⟩ := pp_r_e hk
  obtain ⟨n, e, hin, hx, hk⟩ := pp_in_e hk
  cases x with
  | none => exact pr_aastN hd e hin (hK _ _ _ hk)
  | some b => exact pr_aast hd e (hx b rfl) hin (hK _ _ _ hk)
theorem ps_new {n : Nat} {c : Nat × Nat} {pc : Nat} {lk : pp_Lk} {L : List (Nat × Value)} {st : List Value} {w : pp_W} {K : pp_St} (hd : decode mi.by_ pc = .ok (.new n, pp_len (.new n) lk)) (hst : pp_stt mi pc c (.new n) lk = true) (hsp : pp_sp g h mi.ret P Y X (.new n) lk L st w K) (hRc : off.1 + mi.mc ≤ R.cells) (hRs : off.2 + mi.ms ≤ R.slots) (hK : ∀ L st w, K L st w → pp_ATc g R mi Z (off.1 + (pp_cs (.new n) lk c).1, off.2 + (pp_cs (.new n) lk c).2) (pc + pp_len (.new n) lk) L st w) : pp_ATc g R mi Z (off.1 + c.1, off.2 + c.2) pc L st w := by
  match lk, hst, hsp, hd, hK with
  | .inl (ci, k, p :: l), hst, hsp, hd, hK =>
    simp only [pp_stt] at hst
    split at hst
    · rename_i r hr
      simp only [Bool.and_eq_true, decide_eq_true_eq] at hst
      obtain ⟨⟨rfl, h2⟩, h3⟩ := hst
      have := pp_le_1 h3
      dsimp only at this
      exact pr_new hd hr (pp_w_in h2) (by show off.1 + c.1 + 1 ≤ _; omega) (by show off.2 + c.2 + r.2.2 ≤ _; omega) ((hK _ _ _ hsp).le (by show off.1 + c.1 + 1 ≤ off.1 + (c.1 + 1); omega) (by show off.2 + c.2 + r.2.2 ≤ off.2 + (c.2 + r.2.2); omega))
    · cases hst
theorem ps_newarray {n : ArrayType} {c : Nat × Nat} {pc : Nat} {lk : pp_Lk} {L : List (Nat × Value)} {st : List Value} {w : pp_W} {K : pp_St} (hd : decode mi.by_ pc = .ok (.newarray n, pp_len (.newarray n) lk)) (hst : pp_stt mi pc c (.newarray n) lk = true) (hsp : pp_sp g h mi.ret P Y X (.newarray n) lk L st w K) (hRc : off.1 + mi.mc ≤ R.cells) (hRs : off.2 + mi.ms ≤ R.slots) (hK : ∀ L st w, K L st w → pp_ATc g R mi Z (off.1 + (pp_cs (.newarray n) lk c).1, off.2 + (pp_cs (.newarray n) lk c).2) (pc + pp_len (.newarray n) lk) L st w) : pp_ATc g R mi Z (off.1 + c.1, off.2 + c.2) pc L st w := by
  match lk, hst, hsp, hd, hK with
  | .inl (t, k, l), hst, hsp, hd, hK =>
    simp only [pp_stt, Bool.and_eq_true, decide_eq_true_eq] at hst
    obtain ⟨⟨⟨h1, h2⟩, h3⟩, h4⟩ := hst
    have hl := pp_le_1 h4
    have hk1 := pp_blt h3
    have ht := pp_blt h2
    dsimp only at hl
    obtain ⟨x, s, rfl, hx, hk⟩ := pp_i_e hsp
    have q1 : off.1 + c.1 + 1 ≤ R.cells := by omega
    have q2 : off.2 + c.2 + k ≤ R.slots := by omega
    cases n <;> simp only [pp_atk] at h1 <;> subst h1 <;> first | (exact absurd ht (by decide)) | exact pr_newi hd hx hk1 q1 q2 ((hK _ _ _ hk).le (by show off.1 + c.1 + 1 ≤ off.1 + (c.1 + 1); omega) (by show off.2 + c.2 + k ≤ off.2 + (c.2 + k); omega)) | exact pr_newb hd hx hk1 q1 q2 ((hK _ _ _ hk).le (by show off.1 + c.1 + 1 ≤ off.1 + (c.1 + 1); omega) (by show off.2 + c.2 + k ≤ off.2 + (c.2 + k); omega)) | exact pr_newz hd hx hk1 q1 q2 ((hK _ _ _ hk).le (by show off.1 + c.1 + 1 ≤ off.1 + (c.1 + 1); omega) (by show off.2 + c.2 + k ≤ off.2 + (c.2 + k); omega)) | exact pr_newj hd hx hk1 q1 q2 ((hK _ _ _ hk).le (by show off.1 + c.1 + 1 ≤ off.1 + (c.1 + 1); omega) (by show off.2 + c.2 + k ≤ off.2 + (c.2 + k); omega))
theorem ps_anewarray {n : Nat} {c : Nat × Nat} {pc : Nat} {lk : pp_Lk} {L : List (Nat × Value)} {st : List Value} {w : pp_W} {K : pp_St} (hd : decode mi.by_ pc = .ok (.anewarray n, pp_len (.anewarray n) lk)) (hst : pp_stt mi pc c (.anewarray n) lk = true) (hsp : pp_sp g h mi.ret P Y X (.anewarray n) lk L st w K) (hRc : off.1 + mi.mc ≤ R.cells) (hRs : off.2 + mi.ms ≤ R.slots) (hK : ∀ L st w, K L st w → pp_ATc g R mi Z (off.1 + (pp_cs (.anewarray n) lk c).1, off.2 + (pp_cs (.anewarray n) lk c).2) (pc + pp_len (.anewarray n) lk) L st w) : pp_ATc g R mi Z (off.1 + c.1, off.2 + c.2) pc L st w := by
  match lk, hst, hsp, hd, hK with
  | .inl (t, k, p :: l), hst, hsp, hd, hK =>
    simp only [pp_stt, Bool.and_eq_true] at hst
    obtain ⟨⟨h1, h3⟩, h4⟩ := hst
    have hl := pp_le_1 h4
    dsimp only at hl
    obtain ⟨x, s, rfl, hx, hk⟩ := pp_i_e hsp
    exact pr_newq hd (pp_w_in h1) hx (pp_blt h3) (by show off.1 + c.1 + 1 ≤ _; omega) (by show off.2 + c.2 + k ≤ _; omega) ((hK _ _ _ hk).le (by show off.1 + c.1 + 1 ≤ off.1 + (c.1 + 1); omega) (by show off.2 + c.2 + k ≤ off.2 + (c.2 + k); omega))
theorem pp_objW : Cond.instanceMethod Lib.objectInit ∈ pp_T ∧ Cond.code Lib.objectInit ⟨#[0xb1]⟩ 1 none ∈ pp_T := by
  have := pp_sub (ws := [Cond.instanceMethod Lib.objectInit, Cond.code Lib.objectInit ⟨#[0xb1]⟩ 1 none]) (by decide +kernel)
  exact ⟨this _ (by simp), this _ (by simp)⟩
theorem pp_call_e {mj : pp_MI} {c : Nat × Nat} {idx p kd n : Nat} (hc : pp_call mi mj c idx p kd n = true) : mj.kd = kd ∧ n = mj.np ∧ Cond.methodLink mi.y.cls idx mj.y ∈ pp_T ∧ pp_le (c.1 + mj.mc, c.2 + mj.ms) (mi.mc, mi.ms) = true := by
  simp only [pp_call, Bool.and_eq_true, decide_eq_true_eq] at hc
  exact ⟨hc.1.1.1, hc.1.1.2, pp_w_in hc.1.2, hc.2⟩
theorem ps_invokespecial {n : Nat} {c : Nat × Nat} {pc : Nat} {lk : pp_Lk} {L : List (Nat × Value)} {st : List Value} {w : pp_W} {K : pp_St} (hd : decode mi.by_ pc = .ok (.invokespecial n, pp_len (.invokespecial n) lk)) (hst : pp_stt mi pc c (.invokespecial n) lk = true) (hsp : pp_sp g h mi.ret P Y X (.invokespecial n) lk L st w K) (hRc : off.1 + mi.mc ≤ R.cells) (hRs : off.2 + mi.ms ≤ R.slots) (hR : pp_big R h) (hE : pp_End g R mi Z off P Y) (hK : ∀ L st w, K L st w → pp_ATc g R mi Z (off.1 + (pp_cs (.invokespecial n) lk c).1, off.2 + (pp_cs (.invokespecial n) lk c).2) (pc + pp_len (.invokespecial n) lk) L st w) : pp_ATc g R mi Z (off.1 + c.1, off.2 + c.2) pc L st w := by
  match lk, hst, hsp, hd, hK with
  | .inl (p, k, l), hst, hsp, hd, hK =>
    obtain ⟨a, s, rfl, hl, hk⟩ := pp_r_e hsp
    have := hR.1
    have := hR.2
    exact pr_objInit hd (pp_w_in hst) pp_objW.1 pp_objW.2 (by omega) (by omega) hl (hK _ _ _ hk)
  | .inr (.inl (mj, ci, p, l)), hst, hsp, hd, hK =>
    simp only [pp_stt, Bool.and_eq_true, Bool.not_eq_true', List.isEmpty_iff] at hst
    obtain ⟨⟨⟨h1, h2⟩, h3⟩, h4⟩ := hst
    obtain ⟨e1, e2, e3, e4⟩ := pp_call_e h1
    have hl := pp_le_1 e4
    dsimp only at hl
    obtain ⟨As, s, rfl, hlen, hs4, hrv, hM⟩ := pp_args_e l [] st _ hsp
    rw [List.append_nil] at hM hrv
    cases As with
    | nil => exact hrv.elim
    | cons v As =>
      obtain ⟨b, s9, hav, -⟩ := pp_r_e hrv
      cases hav
      rw [List.reverse_cons, List.append_assoc]
      exact pr_callI hd e3 e1 h3 (by simp only [List.length_cons] at hlen; omega) hR (by show off.1 + c.1 + mj.mc ≤ _; omega) (by show off.2 + c.2 + mj.ms ≤ _; omega) hs4 hM (pp_toK hE h4 e4 hK)
theorem ps_invokevirtual {n : Nat} {c : Nat × Nat} {pc : Nat} {lk : pp_Lk} {L : List (Nat × Value)} {st : List Value} {w : pp_W} {K : pp_St} (hd : decode mi.by_ pc = .ok (.invokevirtual n, pp_len (.invokevirtual n) lk)) (hst : pp_stt mi pc c (.invokevirtual n) lk = true) (hsp : pp_sp g h mi.ret P Y X (.invokevirtual n) lk L st w K) (hRc : off.1 + mi.mc ≤ R.cells) (hRs : off.2 + mi.ms ≤ R.slots) (hR : pp_big R h) (hE : pp_End g R mi Z off P Y) (hK : ∀ L st w, K L st w → pp_ATc g R mi Z (off.1 + (pp_cs (.invokevirtual n) lk c).1, off.2 + (pp_cs (.invokevirtual n) lk c).2) (pc + pp_len (.invokevirtual n) lk) L st w) : pp_ATc g R mi Z (off.1 + c.1, off.2 + c.2) pc L st w := by
  match lk, hst, hsp, hd, hK with
  | .inr (.inl (mj, ci, p, 0 :: l)), hst, hsp, hd, hK =>
    simp only [pp_stt, Bool.and_eq_true, List.isEmpty_iff] at hst
    obtain ⟨⟨⟨h1, h3⟩, h4⟩, h5⟩ := hst
    obtain ⟨e1, e2, e3, e4⟩ := pp_call_e h1
    have hl := pp_le_1 e4
    dsimp only at hl
    obtain ⟨As, s, rfl, hlen, hs4, hrv, hM⟩ := pp_args_e (0 :: l) [] st _ hsp
    rw [List.append_nil] at hM hrv
    cases As with
    | nil => exact hrv.elim
    | cons v As =>
      obtain ⟨b, s9, hav, hb⟩ := pp_r_e hrv
      cases hav
      rw [List.reverse_cons, List.append_assoc]
      split at h5
      · rename_i r hr
        exact pr_callV hd e3 e1 h3 hr (of_decide_eq_true h5) hb (by simp only [List.length_cons] at hlen; omega) hR (by show off.1 + c.1 + mj.mc ≤ _; omega) (by show off.2 + c.2 + mj.ms ≤ _; omega) hs4 hM (pp_toK hE h4 e4 hK)
      · cases h5
  | .inr (.inl (mj, ci, p, 1 :: l)), hst, hsp, hd, hK =>
    simp only [pp_stt, Bool.and_eq_true, List.isEmpty_iff] at hst
    obtain ⟨⟨⟨h1, h3⟩, h4⟩, h5⟩ := hst
    obtain ⟨e1, e2, e3, e4⟩ := pp_call_e h1
    have hl := pp_le_1 e4
    dsimp only at hl
    obtain ⟨As, s, rfl, hlen, hs4, hrv, hM⟩ := pp_args_e (1 :: l) [] st _ hsp
    rw [List.append_nil] at hM hrv
    cases As with
    | nil => exact hrv.elim
    | cons v As =>
      obtain ⟨b, s9, hav, hb⟩ := pp_r_e hrv
      cases hav
      rw [List.reverse_cons, List.append_assoc]
      exact pr_callX hd e3 e1 h3 (of_decide_eq_true h5) hb (by simp only [List.length_cons] at hlen; omega) hR (by show off.1 + c.1 + mj.mc ≤ _; omega) (by show off.2 + c.2 + mj.ms ≤ _; omega) hs4 hM (pp_toK hE h4 e4 hK)
theorem ps_invokestatic {n : Nat} {c : Nat × Nat} {pc : Nat} {lk : pp_Lk} {L : List (Nat × Value)} {st : List Value} {w : pp_W} {K : pp_St} (hd : decode mi.by_ pc = .ok (.invokestatic n, pp_len (.invokestatic n) lk)) (hst : pp_stt mi pc c (.invokestatic n) lk = true) (hsp : pp_sp g h mi.ret P Y X (.invokestatic n) lk L st w K) (hRc : off.1 + mi.mc ≤ R.cells) (hRs : off.2 + mi.ms ≤ R.slots) (hR : pp_big R h) (hE : pp_End g R mi Z off P Y) (hK : ∀ L st w, K L st w → pp_ATc g R mi Z (off.1 + (pp_cs (.invokestatic n) lk c).1, off.2 + (pp_cs (.invokestatic n) lk c).2) (pc + pp_len (.invokestatic n) lk) L st w) : pp_ATc g R mi Z (off.1 + c.1, off.2 + c.2) pc L st w := by
  match lk, hst, hsp, hd, hK with
  | .inl (0, p, l), hst, hsp, hd, hK =>
    obtain ⟨n9, s1, rfl, hk1⟩ := pp_i_e hsp
    obtain ⟨dp, s2, rfl, hk2⟩ := pp_i_e hk1
    obtain ⟨b, s3, rfl, hk3⟩ := pp_r_e hk2
    obtain ⟨sp, s4, rfl, hk4⟩ := pp_i_e hk3
    obtain ⟨a, s5, rfl, hl, g1, g2, g3, g4, g5, g6, g7, hk⟩ := pp_r_e hk4
    obtain ⟨t0, n0, ea, -, g4⟩ := pp_al_e g4
    obtain ⟨t1, n1, eb, -, g5⟩ := pp_al_e g5
    rw [ea] at g6
    rw [eb] at g7
    cases g6
    cases g7
    have := hR.1
    have := hR.2
    exact pr_copyi hd (pp_w_in hst) (by omega) (by omega) hl ea eb g1 g2 g3 g4 g5 (hK _ _ _ hk)
  | .inl (1, p, l), hst, hsp, hd, hK =>
    obtain ⟨n9, s1, rfl, hk1⟩ := pp_i_e hsp
    obtain ⟨dp, s2, rfl, hk2⟩ := pp_i_e hk1
    obtain ⟨b, s3, rfl, hk3⟩ := pp_r_e hk2
    obtain ⟨sp, s4, rfl, hk4⟩ := pp_i_e hk3
    obtain ⟨a, s5, rfl, hl, g1, g2, g3, g4, g5, g6, g7, hk⟩ := pp_r_e hk4
    obtain ⟨t0, n0, ea, -, g4⟩ := pp_al_e g4
    obtain ⟨t1, n1, eb, -, g5⟩ := pp_al_e g5
    rw [ea] at g6
    rw [eb] at g7
    cases g6
    cases g7
    have := hR.1
    have := hR.2
    exact pr_copyl hd (pp_w_in hst) (by omega) (by omega) hl ea eb g1 g2 g3 g4 g5 (hK _ _ _ hk)
  | .inl (2, p, l), hst, hsp, hd, hK =>
    simp only [pp_stt, Bool.and_eq_true] at hst
    have hl := pp_le_1 hst.2
    dsimp only at hl
    obtain ⟨y, s1, rfl, hk1⟩ := pp_i_e hsp
    obtain ⟨x, s2, rfl, hs4, hk⟩ := pp_i_e hk1
    exact pr_min hd (pp_w_in hst.1) hR (by show off.1 + c.1 ≤ _; omega) (by show off.2 + c.2 ≤ _; omega) hs4 (hK _ _ _ hk)
  | .inl (3, p, l), hst, hsp, hd, hK =>
    simp only [pp_stt, Bool.and_eq_true] at hst
    have hl := pp_le_1 hst.2
    dsimp only at hl
    obtain ⟨y, s1, rfl, hk1⟩ := pp_i_e hsp
    obtain ⟨x, s2, rfl, hs4, hk⟩ := pp_i_e hk1
    exact pr_max hd (pp_w_in hst.1) hR (by show off.1 + c.1 ≤ _; omega) (by show off.2 + c.2 ≤ _; omega) hs4 (hK _ _ _ hk)
  | .inl (4, p, l), hst, hsp, hd, hK =>
    simp only [pp_stt, Bool.and_eq_true] at hst
    have hl := pp_le_1 hst.2
    dsimp only at hl
    obtain ⟨y, s1, rfl, hk1⟩ := pp_j_e hsp
    obtain ⟨x, s2, rfl, hs4, hk⟩ := pp_j_e hk1
    exact pr_minL hd (pp_w_in hst.1) hR (by show off.1 + c.1 ≤ _; omega) (by show off.2 + c.2 ≤ _; omega) hs4 (hK _ _ _ hk)
  | .inr (.inl (mj, ci, p, l)), hst, hsp, hd, hK =>
    obtain ⟨As, s, rfl, hlen, hs4, hM⟩ := pp_args_e l [] st _ hsp
    rw [List.append_nil] at hM
    simp only [pp_stt] at hst
    split at hst
    · simp only [Bool.and_eq_true, decide_eq_true_eq, List.isEmpty_iff] at hst
      obtain ⟨⟨⟨⟨⟨⟨⟨h1, h2⟩, h3⟩, h4⟩, h5⟩, h6⟩, h7⟩, h8⟩ := hst
      have hl := pp_le_1 h7
      dsimp only at hl
      subst h3
      exact pr_callN h1 h2 hd h4 h5 (by omega) hR (by show off.1 + c.1 + mj.mc ≤ _; omega) (by show off.2 + c.2 + mj.ms ≤ _; omega) hs4 hM (pp_toK hE h8 h7 hK)
    · simp only [Bool.and_eq_true] at hst
      obtain ⟨h1, h4⟩ := hst
      obtain ⟨e1, e2, e3, e4⟩ := pp_call_e h1
      have hl := pp_le_1 e4
      dsimp only at hl
      by_cases hh : mj.hh = []
      · exact pr_callS hd e3 e1 hh (by omega) hR (by show off.1 + c.1 + mj.mc ≤ _; omega) (by show off.2 + c.2 + mj.ms ≤ _; omega) hs4 hM (pp_toK hE h4 e4 hK)
      · exact pr_callSX hd e3 e1 hh (by omega) hR (by show off.1 + c.1 + mj.mc ≤ _; omega) (by show off.2 + c.2 + mj.ms ≤ _; omega) hs4 hM (pp_toK hE h4 e4 hK)
theorem ps_ireturn {c : Nat × Nat} {pc : Nat} {lk : pp_Lk} {L : List (Nat × Value)} {st : List Value} {w : pp_W} {K : pp_St} (hd : decode mi.by_ pc = .ok (.ireturn, pp_len (.ireturn) lk)) (hst : pp_stt mi pc c (.ireturn) lk = true) (hsp : pp_sp g h mi.ret P Y X (.ireturn) lk L st w K) (hRc : off.1 + mi.mc ≤ R.cells) (hRs : off.2 + mi.ms ≤ R.slots) (hR : pp_big R h) (hE : pp_End g R mi Z off P Y) (hK : ∀ L st w, K L st w → pp_ATc g R mi Z (off.1 + (pp_cs (.ireturn) lk c).1, off.2 + (pp_cs (.ireturn) lk c).2) (pc + pp_len (.ireturn) lk) L st w) : pp_ATc g R mi Z (off.1 + c.1, off.2 + c.2) pc L st w := by
  have hl := pp_le_1 hst
  dsimp only at hl
  simp only [pp_sp] at hsp
  split at hsp
  · rename_i x
    refine (hE.2.1 pc L w x (mi.ret.getD .int) hd ?_ ?_ hsp.2).le (by show off.1 + c.1 ≤ off.1 + mi.mc; omega) (by show off.2 + c.2 ≤ off.2 + mi.ms; omega)
    · have := hsp.1
      unfold pp_rok at this
      split at this <;> first | (rename_i e; rw [e]; rfl) | exact this.elim
    · have := hsp.1
      unfold pp_rok at this
      split at this
      · rename_i e; rw [e]; rfl
      · rename_i e; rw [e]; rcases this with rfl | rfl <;> rfl
      · rename_i e; rw [e]; exact this
      · exact this.elim
  · exact hsp.elim
theorem ps_lreturn {c : Nat × Nat} {pc : Nat} {lk : pp_Lk} {L : List (Nat × Value)} {st : List Value} {w : pp_W} {K : pp_St} (hd : decode mi.by_ pc = .ok (.lreturn, pp_len (.lreturn) lk)) (hst : pp_stt mi pc c (.lreturn) lk = true) (hsp : pp_sp g h mi.ret P Y X (.lreturn) lk L st w K) (hRc : off.1 + mi.mc ≤ R.cells) (hRs : off.2 + mi.ms ≤ R.slots) (hR : pp_big R h) (hE : pp_End g R mi Z off P Y) (hK : ∀ L st w, K L st w → pp_ATc g R mi Z (off.1 + (pp_cs (.lreturn) lk c).1, off.2 + (pp_cs (.lreturn) lk c).2) (pc + pp_len (.lreturn) lk) L st w) : pp_ATc g R mi Z (off.1 + c.1, off.2 + c.2) pc L st w := by
  simp only [pp_stt, Bool.and_eq_true, decide_eq_true_eq] at hst
  obtain ⟨hst, hrt⟩ := hst
  have hl := pp_le_1 hst
  dsimp only at hl
  simp only [pp_sp] at hsp
  split at hsp
  · exact (hE.2.2.1 pc L w _ hd hrt hsp).le (by show off.1 + c.1 ≤ off.1 + mi.mc; omega) (by show off.2 + c.2 ≤ off.2 + mi.ms; omega)
  · exact hsp.elim
theorem ps_return {c : Nat × Nat} {pc : Nat} {lk : pp_Lk} {L : List (Nat × Value)} {st : List Value} {w : pp_W} {K : pp_St} (hd : decode mi.by_ pc = .ok (.return_, pp_len (.return_) lk)) (hst : pp_stt mi pc c (.return_) lk = true) (hsp : pp_sp g h mi.ret P Y X (.return_) lk L st w K) (hRc : off.1 + mi.mc ≤ R.cells) (hRs : off.2 + mi.ms ≤ R.slots) (hR : pp_big R h) (hE : pp_End g R mi Z off P Y) (hK : ∀ L st w, K L st w → pp_ATc g R mi Z (off.1 + (pp_cs (.return_) lk c).1, off.2 + (pp_cs (.return_) lk c).2) (pc + pp_len (.return_) lk) L st w) : pp_ATc g R mi Z (off.1 + c.1, off.2 + c.2) pc L st w := by
  simp only [pp_stt, Bool.and_eq_true, decide_eq_true_eq] at hst
  obtain ⟨hst, hrt⟩ := hst
  have hl := pp_le_1 hst
  dsimp only at hl
  simp only [pp_sp] at hsp
  split at hsp
  · exact (hE.1 pc L w hd hrt hsp).le (by show off.1 + c.1 ≤ off.1 + mi.mc; omega) (by show off.2 + c.2 ≤ off.2 + mi.ms; omega)
  · exact hsp.elim
end Sound2
end
section
/-! THE ENGINE, 13: a listing of a method, and what it asks-/
section Run
variable {g : pp_G} {R : Room} {mi : pp_MI} {Z : pp_CT → State → Prop} {off : Nat × Nat} {P : pp_R → pp_W → Prop} {Y : String → pp_W → Prop} {X : Nat → pp_St} {h : Nat}
theorem pp_step {i : Instr} {c : Nat × Nat} {pc : Nat} {lk : pp_Lk} {L : List (Nat × Value)} {st : List Value} {w : pp_W} {K : pp_St} (hi : i ≠ .athrow) (hd : decode mi.by_ pc = .ok (i, pp_len i lk)) (hst : pp_stt mi pc c i lk = true) (hsp : pp_sp g h mi.ret P Y X i lk L st w K)
    (hX : ∀ t L st w, X t L st w → pp_AT g R mi Z off t L st w) (hRc : off.1 + mi.mc ≤ R.cells) (hRs : off.2 + mi.ms ≤ R.slots) (hR : pp_big R h) (hE : pp_End g R mi Z off P Y)
    (hK : ∀ L st w, K L st w → pp_ATc g R mi Z (off.1 + (pp_cs i lk c).1, off.2 + (pp_cs i lk c).2) (pc + pp_len i lk) L st w) : pp_ATc g R mi Z (off.1 + c.1, off.2 + c.2) pc L st w := by
  cases i with
  | aconst_null => exact ps_aconst_null hd hst hsp hK
  | iconst => exact ps_iconst hd hst hsp hK
  | bipush => exact ps_bipush hd hst hsp hK
  | sipush => exact ps_sipush hd hst hsp hK
  | lconst => exact ps_lconst hd hst hsp hK
  | ldc => exact ps_ldc hd hst hsp hK
  | ldc_w => exact ps_ldc_w hd hst hsp hK
  | ldc2_w => exact ps_ldc2_w hd hst hsp hK
  | iload => exact ps_iload hd hst hsp hK
  | iload_n => exact ps_iload_n hd hst hsp hK
  | lload => exact ps_lload hd hst hsp hK
  | lload_n => exact ps_lload_n hd hst hsp hK
  | aload => exact ps_aload hd hst hsp hK
  | aload_n => exact ps_aload_n hd hst hsp hK
  | istore => exact ps_istore hd hst hsp hK
  | istore_n => exact ps_istore_n hd hst hsp hK
  | lstore => exact ps_lstore hd hst hsp hK
  | lstore_n => exact ps_lstore_n hd hst hsp hK
  | astore => exact ps_astore hd hst hsp hK
  | astore_n => exact ps_astore_n hd hst hsp hK
  | iinc => exact ps_iinc hd hst hsp hK
  | iadd => exact ps_iadd hd hst hsp hK
  | isub => exact ps_isub hd hst hsp hK
  | imul => exact ps_imul hd hst hsp hK
  | iand => exact ps_iand hd hst hsp hK
  | ior => exact ps_ior hd hst hsp hK
  | ixor => exact ps_ixor hd hst hsp hK
  | ishl => exact ps_ishl hd hst hsp hK
  | ishr => exact ps_ishr hd hst hsp hK
  | iushr => exact ps_iushr hd hst hsp hK
  | idiv => exact ps_idiv hd hst hsp hK
  | ladd => exact ps_ladd hd hst hsp hK
  | lsub => exact ps_lsub hd hst hsp hK
  | lmul => exact ps_lmul hd hst hsp hK
  | land => exact ps_land hd hst hsp hK
  | lor => exact ps_lor hd hst hsp hK
  | lxor => exact ps_lxor hd hst hsp hK
  | ldiv => exact ps_ldiv hd hst hsp hK
  | lrem => exact ps_lrem hd hst hsp hK
  | lcmp => exact ps_lcmp hd hst hsp hK
  | lshl => exact ps_lshl hd hst hsp hK
  | i2l => exact ps_i2l hd hst hsp hK
  | i2b => exact ps_i2b hd hst hsp hK
  | l2i => exact ps_l2i hd hst hsp hK
  | dup => exact ps_dup hd hst hsp hK
  | pop => exact ps_pop hd hst hsp hK
  | pop2 => exact ps_pop2 hd hst hsp hK
  | dup2 => exact ps_dup2 hd hst hsp hK
  | getfield => exact ps_getfield hd hst hsp hK
  | getstatic => exact ps_getstatic hd hst hsp hK
  | i2c => exact ps_i2c hd hst hsp hK
  | putfield => exact ps_putfield hd hst hsp hK
  | arraylength => exact ps_arraylength hd hst hsp hK
  | iaload => exact ps_iaload hd hst hsp hK
  | baload => exact ps_baload hd hst hsp hK
  | laload => exact ps_laload hd hst hsp hK
  | aaload => exact ps_aaload hd hst hsp hK
  | iastore => exact ps_iastore hd hst hsp hK
  | lastore => exact ps_lastore hd hst hsp hK
  | bastore => exact ps_bastore hd hst hsp hK
  | aastore => exact ps_aastore hd hst hsp hK
  | ifCond => exact ps_ifCond hd hst hsp hX hK
  | if_icmp => exact ps_if_icmp hd hst hsp hX hK
  | goto => exact ps_goto hd hst hsp hX hK
  | ifnull => exact ps_ifnull hd hst hsp hX hK
  | ifnonnull => exact ps_ifnonnull hd hst hsp hX hK
  | tableswitch => exact ps_tableswitch hd hst hsp hX hK
  | new => exact ps_new hd hst hsp hRc hRs hK
  | newarray => exact ps_newarray hd hst hsp hRc hRs hK
  | anewarray => exact ps_anewarray hd hst hsp hRc hRs hK
  | invokespecial => exact ps_invokespecial hd hst hsp hRc hRs hR hE hK
  | invokevirtual => exact ps_invokevirtual hd hst hsp hRc hRs hR hE hK
  | invokestatic => exact ps_invokestatic hd hst hsp hRc hRs hR hE hK
  | ireturn => exact ps_ireturn hd hst hsp hRc hRs hR hE hK
  | lreturn => exact ps_lreturn hd hst hsp hRc hRs hR hE hK
  | return_ => exact ps_return hd hst hsp hRc hRs hR hE hK
  | athrow => exact absurd rfl hi
  | _ => exact hsp.elim
/-- what a throw owes -/
def pp_EndT (g : pp_G) (R : Room) (mi : pp_MI) (Z : pp_CT → State → Prop) (off : Nat × Nat) (P : pp_R → pp_W → Prop) : Prop :=
  ∀ (pc is wd : Nat) (tx : String) (q : String × Nat × Nat) (c : Nat × Nat) (L : List (Nat × Value)) (st : List Value) (w : pp_W), mi.y.cls = RX8 → q ∈ pp_exs → (is, tx) ∈ pp_msgs → mi.hh = [] → c.1 + 1 ≤ mi.mc → c.2 + 6 ≤ mi.ms → decode mi.by_ pc = .ok (.new q.2.1, 3) → decode mi.by_ (pc + 3) = .ok (.dup, 1) →
    ((decode mi.by_ (pc + 4) = .ok (.ldc is, 2) ∧ decode mi.by_ (pc + 6) = .ok (.invokespecial q.2.2, 3) ∧ decode mi.by_ (pc + 9) = .ok (.athrow, 1)) ∨ (decode mi.by_ (pc + 4) = .ok (.ldc_w is, 3) ∧ decode mi.by_ (pc + 7) = .ok (.invokespecial q.2.2, 3) ∧ decode mi.by_ (pc + 10) = .ok (.athrow, 1))) →
    st.length ≤ 4 → (∀ k : Nat, P (.inr q.1) (w.1 ++ List.replicate k (15, 0), w.2)) → pp_ATc g R mi Z (off.1 + c.1, off.2 + c.2) pc L st w
theorem pp_run {e : Nat} (hX : ∀ t L st w, X t L st w → pp_AT g R mi Z off t L st w) (hRc : off.1 + mi.mc ≤ R.cells) (hRs : off.2 + mi.ms ≤ R.slots) (hR : pp_big R h) (hE : pp_End g R mi Z off P Y) (hT : pp_EndT g R mi Z off P) :
    ∀ (seg : pp_Seg) (pc : Nat) (c : Nat × Nat) (L : List (Nat × Value)) (st : List Value) (w : pp_W), pp_chk mi e pc c seg = true → pp_wp g h mi.ret P Y X e seg L st w → pp_ATc g R mi Z (off.1 + c.1, off.2 + c.2) pc L st w := by
  intro seg
  induction seg with
  | nil =>
    intro pc c L st w hc hw
    simp only [pp_chk, Bool.and_eq_true, decide_eq_true_eq] at hc
    obtain ⟨rfl, h2⟩ := hc
    have := pp_le_1 h2
    exact (hX _ _ _ _ hw).le (by show off.1 + c.1 ≤ off.1 + _; omega) (by show off.2 + c.2 ≤ off.2 + _; omega)
  | cons q seg ih =>
    intro pc c L st w hc hw
    obtain ⟨i, lk⟩ := q
    by_cases hi : i = .athrow
    · subst hi
      match lk, hc, hw with
      | .inl (x, is, wd :: mp :: l), hc, hw =>
        simp only [pp_chk] at hc
        split at hc
        · rename_i z y hz hy
          simp only [Bool.and_eq_true, decide_eq_true_eq, List.isEmpty_iff] at hc
          obtain ⟨⟨⟨⟨⟨⟨h1, h2⟩, h3⟩, h4⟩, h5⟩, h6⟩, h7⟩ := hc
          have hl := pp_le_1 h4
          dsimp only at hl
          have hw : st.length ≤ 4 ∧ ∀ k : Nat, P (.inr ((pp_exs.getD x ("", 0, 0)).1)) (w.1 ++ List.replicate k (15, 0), w.2) := hw
          have hg : pp_exs.getD x ("", 0, 0) = z := by rw [List.getD_eq_getElem?_getD, hz]; rfl
          rw [hg] at hw
          refine hT pc is wd y.2 z c L st w h1 (List.mem_of_getElem? hz) (by rw [← h2]; exact List.mem_of_getElem? hy) h3 hl.1 hl.2 h5 h6 ?_ hw.1 hw.2
          by_cases hwd : wd = 0
          · rw [if_pos hwd] at h7
            simp only [Bool.and_eq_true, decide_eq_true_eq] at h7
            exact Or.inl ⟨h7.1.1, h7.1.2, h7.2⟩
          · rw [if_neg hwd] at h7
            simp only [Bool.and_eq_true, decide_eq_true_eq] at h7
            exact Or.inr ⟨h7.1.1, h7.1.2, h7.2⟩
        · cases hc
    · have hc : (decide (decode mi.by_ pc = .ok (i, pp_len i lk)) && pp_stt mi pc c i lk && pp_chk mi e (pc + pp_len i lk) (pp_cs i lk c) seg) = true := by
        rw [pp_chk] at hc
        split at hc
        · exact absurd (by assumption) hi
        · exact hc
      simp only [Bool.and_eq_true, decide_eq_true_eq] at hc
      exact pp_step hi hc.1.1 hc.1.2 hw hX hRc hRs hR hE (fun L st w hk => ih _ _ _ _ _ hc.2 hk)
/-- ordinary methods -/
theorem pp_endOK (hh : mi.hh = []) : pp_End g R mi (pp_Z g mi P) (0, 0) P (fun E w => P (.inr E) w) :=
  ⟨fun pc L w hd hr hP => pe_vret hd hr (by show 0 + mi.mc ≤ _; omega) (by show 0 + mi.ms ≤ _; omega) hP, fun pc L w x ty hd hr hn hP => pe_iret hd hr hn (by show 0 + mi.mc ≤ _; omega) (by show 0 + mi.ms ≤ _; omega) hP, fun pc L w x hd hr hP => pe_lret hd hr (by show 0 + mi.mc ≤ _; omega) (by show 0 + mi.ms ≤ _; omega) hP, fun pc L st w E _ hP => pe_out hh (by show 0 + mi.mc ≤ _; omega) (by show 0 + mi.ms ≤ _; omega) hP⟩
theorem pp_endT : pp_EndT g (pp_room h mi) mi (pp_Z g mi P) (0, 0) P := by
  intro pc is wd tx q c L st w h1 h2 h3 h4 h5 h6 d0 d3 dd hst hP
  rcases dd with ⟨d4, d6, d9⟩ | ⟨d4, d6, d9⟩
  · exact pe_throw h1 h2 h3 h4 (by show 0 + c.1 + 1 ≤ _; omega) (by show 0 + c.2 + 6 ≤ _; omega) d0 d3 d4 d6 d9 hst hP
  · exact pe_throwW h1 h2 h3 h4 (by show 0 + c.1 + 1 ≤ _; omega) (by show 0 + c.2 + 6 ≤ _; omega) d0 d3 d4 d6 d9 hst hP
/-- THE JUDGEMENT of ordinary methods: at the label pc; calls go one lower -/
def pp_N (g : pp_G) (h : Nat) (mi : pp_MI) (P : pp_R → pp_W → Prop) (pc : Nat) : pp_St := fun L st w => pp_AT g (pp_room (h + 1) mi) mi (pp_Z g mi P) (0, 0) pc L st w
theorem pp_go {e pc : Nat} {seg : pp_Seg} {L : List (Nat × Value)} {st : List Value} {w : pp_W} (hh : mi.hh = []) (hc : pp_chk mi e pc (pp_cnt mi pc) seg = true) (hw : pp_wp g h mi.ret P (fun E w => P (.inr E) w) (pp_N g h mi P) e seg L st w) : pp_N g h mi P pc L st w :=
  pp_run (R := pp_room (h + 1) mi) (off := (0, 0)) (X := pp_N g h mi P) (fun _ _ _ _ hx => hx) (by show 0 + mi.mc ≤ mi.mc; omega) (by show 0 + mi.ms ≤ mi.ms; omega) ⟨by show h + 9 ≤ h + 1 + 8; omega, by show 40 * h + 240 ≤ 40 * (h + 1) + 200; omega⟩ (pp_endOK hh) pp_endT seg pc _ L st w hc hw
theorem pp_start {av : List Value} {w : pp_W} (hok : pp_MIok mi) (hh : mi.hh = []) (hl : (lg_sl av).length ≤ mi.nL) (k : pp_N g h mi P 0 (lv_args 0 av) [] w) : pp_MW g (h + 1) mi av w P :=
  pp_enter hok hh hl (k.le (Nat.zero_le _) (Nat.zero_le _))
theorem pp_N.sub {pc : Nat} {L L' : List (Nat × Value)} {st : List Value} {w : pp_W} (k : pp_N g h mi P pc L' st w) (hL : ∀ q ∈ L', q ∈ L) : pp_N g h mi P pc L st w := pp_ATc.sub k hL
end Run
end
section
/-! printed by wip/gencode.py: the methods -/
def pp_mok (mi : pp_MI) (a b c d : Nat) : Bool := plainName mi.y.cls && mi.nL.ble 21 && pp_w a (pp_cw mi) && pp_w b (.initialized mi.y.cls) && decide (mi.y.cls ≠ "java/lang/invoke/MethodHandle") && decide (mi.y.cls ≠ "java/lang/invoke/VarHandle") && decide ((parseMethodDescriptor mi.y.desc).map (fun d => d.parameters.length) = some mi.np) && decide (mi.y ≠ yL_law) &&
  ((decide (mi.kd = 0) && pp_w c (.static mi.y)) || (decide (mi.kd = 1) && pp_w c (.instanceMethod mi.y) && pp_w d (.selects mi.y.cls mi.y mi.y)) || (decide (mi.kd = 2) && decide (mi.y.name = "<init>") && pp_w c (.instanceMethod mi.y) && decide (mi.ret = none)))
theorem pp_mok_ok {mi : pp_MI} {a b c d : Nat} (h : pp_mok mi a b c d = true) : pp_MIok mi := by
  simp only [pp_mok, Bool.and_eq_true, Bool.or_eq_true, decide_eq_true_eq] at h
  obtain ⟨⟨⟨⟨⟨⟨⟨⟨h1, h2⟩, h3⟩, h4⟩, h5⟩, h6⟩, h7⟩, h8⟩, h9⟩ := h
  refine ⟨h1, Nat.le_of_ble_eq_true h2, pp_w_in h3, pp_w_in h4, ⟨h5, h6⟩, h7, ?_, h8⟩
  rcases h9 with (h9 | h9) | h9
  · exact Or.inl ⟨h9.1, pp_w_in h9.2⟩
  · exact Or.inr (Or.inl ⟨h9.1.1, pp_w_in h9.1.2, pp_w_in h9.2⟩)
  · exact Or.inr (Or.inr ⟨h9.1.1.1, h9.1.1.2, pp_w_in h9.1.2, h9.2⟩)
def mi_X2_init : pp_MI := (yX2_init, cX2_init, 1, none, (2, 716), [(27, 2, 716)], [], [], 2, 0)
theorem ok_X2_init : pp_MIok mi_X2_init := pp_mok_ok (a := 125) (b := 80) (c := 124) (d := 0) (by decide +kernel)
def mi_X2_clear : pp_MI := (yX2_clear, cX2_clear, 1, none, (0, 0), [], [], [], 1, 0)
theorem ok_X2_clear : pp_MIok mi_X2_clear := pp_mok_ok (a := 146) (b := 80) (c := 144) (d := 145) (by decide +kernel)
def mi_X2_add : pp_MI := (yX2_add, cX2_add, 2, none, (0, 0), [], [], [], 1, 1)
theorem ok_X2_add : pp_MIok mi_X2_add := pp_mok_ok (a := 150) (b := 80) (c := 148) (d := 149) (by decide +kernel)
def mi_X6_reset : pp_MI := (yX6_reset, cX6_reset, 1, none, (0, 0), [], [], [], 1, 0)
theorem ok_X6_reset : pp_MIok mi_X6_reset := pp_mok_ok (a := 142) (b := 79) (c := 140) (d := 141) (by decide +kernel)
def mi_X6_init : pp_MI := (yX6_init, cX6_init, 1, none, (6, 733), [(42, 6, 733)], [], [], 2, 0)
theorem ok_X6_init : pp_MIok mi_X6_init := pp_mok_ok (a := 119) (b := 79) (c := 118) (d := 0) (by decide +kernel)
def mi_X4_init : pp_MI := (yX4_init, cX4_init, 1, none, (9, 214), [(77, 9, 214)], [], [], 2, 0)
theorem ok_X4_init : pp_MIok mi_X4_init := pp_mok_ok (a := 234) (b := 81) (c := 233) (d := 0) (by decide +kernel)
def mi_X7_init : pp_MI := (yX7_init, cX7_init, 2, none, (0, 0), [], [], [], 2, 1)
theorem ok_X7_init : pp_MIok mi_X7_init := pp_mok_ok (a := 325) (b := 82) (c := 324) (d := 0) (by decide +kernel)
def mi_X5_init : pp_MI := (yX5_init, cX5_init, 2, none, (28, 1221), [(50, 28, 1221)], [], [], 2, 1)
theorem ok_X5_init : pp_MIok mi_X5_init := pp_mok_ok (a := 113) (b := 78) (c := 112) (d := 0) (by decide +kernel)
def mi_X0_init : pp_MI := (yX0_init, cX0_init, 3, none, (0, 0), [], [], [], 2, 2)
theorem ok_X0_init : pp_MIok mi_X0_init := pp_mok_ok (a := 381) (b := 83) (c := 380) (d := 0) (by decide +kernel)
def mi_X1_init : pp_MI := (yX1_init, cX1_init, 1, none, (4, 32), [(37, 4, 32)], [], [], 2, 0)
theorem ok_X1_init : pp_MIok mi_X1_init := pp_mok_ok (a := 394) (b := 84) (c := 393) (d := 0) (by decide +kernel)
def mi_X3_init : pp_MI := (yX3_init, cX3_init, 1, none, (1, 10), [(24, 1, 10)], [], [], 2, 0)
theorem ok_X3_init : pp_MIok mi_X3_init := pp_mok_ok (a := 420) (b := 85) (c := 419) (d := 0) (by decide +kernel)
def mi_X8_init : pp_MI := (yX8_init, cX8_init, 1, none, (56, 2964), [(110, 56, 2964)], [], [], 2, 0)
theorem ok_X8_init : pp_MIok mi_X8_init := pp_mok_ok (a := 105) (b := 77) (c := 104) (d := 0) (by decide +kernel)
def mi_X8_appendFour : pp_MI := (yX8_appendFour, cX8_appendFour, 3, none, (0, 0), [], [], [], 1, 1)
theorem ok_X8_appendFour : pp_MIok mi_X8_appendFour := pp_mok_ok (a := 472) (b := 77) (c := 471) (d := 0) (by decide +kernel)
def mi_X8_append : pp_MI := (yX8_append, cX8_append, 6, (some .int), (0, 0), [], [], [], 1, 5)
theorem ok_X8_append : pp_MIok mi_X8_append := pp_mok_ok (a := 468) (b := 77) (c := 466) (d := 467) (by decide +kernel)
def mi_X4_copyFrom : pp_MI := (yX4_copyFrom, cX4_copyFrom, 2, none, (0, 0), [], [], [], 1, 1)
theorem ok_X4_copyFrom : pp_MIok mi_X4_copyFrom := pp_mok_ok (a := 567) (b := 81) (c := 565) (d := 566) (by decide +kernel)
def mi_X7_endOfRun : pp_MI := (yX7_endOfRun, cX7_endOfRun, 4, (some .int), (0, 0), [], [], [], 1, 2)
theorem ok_X7_endOfRun : pp_MIok mi_X7_endOfRun := pp_mok_ok (a := 664) (b := 82) (c := 663) (d := 5) (by decide +kernel)
def mi_X7_numberAtStart : pp_MI := (yX7_numberAtStart, cX7_numberAtStart, 3, (some .int), (0, 0), [], [], [], 1, 0)
theorem ok_X7_numberAtStart : pp_MIok mi_X7_numberAtStart := pp_mok_ok (a := 668) (b := 82) (c := 667) (d := 6) (by decide +kernel)
def mi_X7_next : pp_MI := (yX7_next, cX7_next, 1, none, (0, 0), [], [], [], 1, 0)
theorem ok_X7_next : pp_MIok mi_X7_next := pp_mok_ok (a := 660) (b := 82) (c := 658) (d := 659) (by decide +kernel)
def mi_X7_begin : pp_MI := (yX7_begin, cX7_begin, 2, none, (0, 0), [], [], [], 1, 1)
theorem ok_X7_begin : pp_MIok mi_X7_begin := pp_mok_ok (a := 655) (b := 82) (c := 653) (d := 654) (by decide +kernel)
def mi_J0_coder_7d493 : pp_MI := (yJ0_coder_7d493, cJ0_coder_7d493, 1, (some .byte), (0, 0), [], [], [], 1, 0)
theorem ok_J0_coder_7d493 : pp_MIok mi_J0_coder_7d493 := pp_mok_ok (a := 689) (b := 93) (c := 687) (d := 688) (by decide +kernel)
def mi_J0_length_8abf5 : pp_MI := (yJ0_length_8abf5, cJ0_length_8abf5, 1, (some .int), (0, 0), [], [], [], 1, 0)
theorem ok_J0_length_8abf5 : pp_MIok mi_J0_length_8abf5 := pp_mok_ok (a := 685) (b := 93) (c := 683) (d := 684) (by decide +kernel)
def mi_J0_isLatin1_aae02 : pp_MI := (yJ0_isLatin1_aae02, cJ0_isLatin1_aae02, 1, (some .boolean), (0, 0), [], [], [], 1, 0)
theorem ok_J0_isLatin1_aae02 : pp_MIok mi_J0_isLatin1_aae02 := pp_mok_ok (a := 699) (b := 93) (c := 697) (d := 698) (by decide +kernel)
def mi_J3_checkIndex_8e157 : pp_MI := (yJ3_checkIndex_8e157, cJ3_checkIndex_8e157, 3, (some .int), (0, 0), [], [], [], 0, 3)
theorem ok_J3_checkIndex_8e157 : pp_MIok mi_J3_checkIndex_8e157 := pp_mok_ok (a := 710) (b := 95) (c := 709) (d := 0) (by decide +kernel)
def mi_J0_checkIndex_df160 : pp_MI := (yJ0_checkIndex_df160, cJ0_checkIndex_df160, 2, none, (0, 0), [], [], [], 0, 2)
theorem ok_J0_checkIndex_df160 : pp_MIok mi_J0_checkIndex_df160 := pp_mok_ok (a := 705) (b := 93) (c := 704) (d := 0) (by decide +kernel)
def mi_J1_charAt_3b067 : pp_MI := (yJ1_charAt_3b067, cJ1_charAt_3b067, 2, (some .char), (0, 0), [], [], [], 0, 2)
theorem ok_J1_charAt_3b067 : pp_MIok mi_J1_charAt_3b067 := pp_mok_ok (a := 702) (b := 94) (c := 701) (d := 0) (by decide +kernel)
def mi_J0_charAt_5068e : pp_MI := (yJ0_charAt_5068e, cJ0_charAt_5068e, 2, (some .char), (0, 0), [], [], [], 1, 1)
theorem ok_J0_charAt_5068e : pp_MIok mi_J0_charAt_5068e := pp_mok_ok (a := 695) (b := 93) (c := 693) (d := 694) (by decide +kernel)
def mi_X7_isWord : pp_MI := (yX7_isWord, cX7_isWord, 3, (some .boolean), (0, 0), [], [], [], 1, 1)
theorem ok_X7_isWord : pp_MIok mi_X7_isWord := pp_mok_ok (a := 681) (b := 82) (c := 679) (d := 680) (by decide +kernel)
def mi_X5_statementAtToken : pp_MI := (yX5_statementAtToken, cX5_statementAtToken, 1, (some .int), (0, 0), [], [], [], 1, 0)
theorem ok_X5_statementAtToken : pp_MIok mi_X5_statementAtToken := pp_mok_ok (a := 676) (b := 78) (c := 675) (d := 8) (by decide +kernel)
def mi_X5_admit : pp_MI := (yX5_admit, cX5_admit, 2, (some .int), (0, 0), [], [], [], 1, 1)
theorem ok_X5_admit : pp_MIok mi_X5_admit := pp_mok_ok (a := 744) (b := 78) (c := 743) (d := 9) (by decide +kernel)
def mi_X7_isSign : pp_MI := (yX7_isSign, cX7_isSign, 2, (some .boolean), (0, 0), [], [], [], 1, 1)
theorem ok_X7_isSign : pp_MIok mi_X7_isSign := pp_mok_ok (a := 762) (b := 82) (c := 760) (d := 761) (by decide +kernel)
def mi_X5_readFactor : pp_MI := (yX5_readFactor, cX5_readFactor, 3, (some .int), (0, 0), [], [], [], 1, 1)
theorem ok_X5_readFactor : pp_MIok mi_X5_readFactor := pp_mok_ok (a := 758) (b := 78) (c := 757) (d := 12) (by decide +kernel)
def mi_X5_readTerm : pp_MI := (yX5_readTerm, cX5_readTerm, 5, (some .int), (0, 0), [], [], [], 1, 1)
theorem ok_X5_readTerm : pp_MIok mi_X5_readTerm := pp_mok_ok (a := 754) (b := 78) (c := 753) (d := 11) (by decide +kernel)
def mi_X5_readSum : pp_MI := (yX5_readSum, cX5_readSum, 5, (some .int), (0, 0), [], [], [], 1, 1)
theorem ok_X5_readSum : pp_MIok mi_X5_readSum := pp_mok_ok (a := 750) (b := 78) (c := 749) (d := 10) (by decide +kernel)
def mi_X5_readOne : pp_MI := (yX5_readOne, cX5_readOne, 3, (some .int), (0, 0), [], [], [], 1, 2)
theorem ok_X5_readOne : pp_MIok mi_X5_readOne := pp_mok_ok (a := 774) (b := 78) (c := 773) (d := 14) (by decide +kernel)
def mi_X5_readTwo : pp_MI := (yX5_readTwo, cX5_readTwo, 7, (some .int), (0, 0), [], [], [], 1, 4)
theorem ok_X5_readTwo : pp_MIok mi_X5_readTwo := pp_mok_ok (a := 778) (b := 78) (c := 777) (d := 15) (by decide +kernel)
def mi_X5_readNumbers : pp_MI := (yX5_readNumbers, cX5_readNumbers, 2, (some .int), (0, 0), [], [], [], 1, 1)
theorem ok_X5_readNumbers : pp_MIok mi_X5_readNumbers := pp_mok_ok (a := 770) (b := 78) (c := 769) (d := 13) (by decide +kernel)
def mi_X4_addMember : pp_MI := (yX4_addMember, cX4_addMember, 2, (some .int), (0, 0), [], [], [], 1, 1)
theorem ok_X4_addMember : pp_MIok mi_X4_addMember := pp_mok_ok (a := 786) (b := 81) (c := 784) (d := 785) (by decide +kernel)
def mi_X6_addVersion : pp_MI := (yX6_addVersion, cX6_addVersion, 3, none, (0, 0), [], [], [], 1, 2)
theorem ok_X6_addVersion : pp_MIok mi_X6_addVersion := pp_mok_ok (a := 790) (b := 79) (c := 788) (d := 789) (by decide +kernel)
def mi_X4_addPatent : pp_MI := (yX4_addPatent, cX4_addPatent, 3, (some .int), (0, 0), [], [], [], 1, 2)
theorem ok_X4_addPatent : pp_MIok mi_X4_addPatent := pp_mok_ok (a := 794) (b := 81) (c := 792) (d := 793) (by decide +kernel)
def mi_X6_addLicensee : pp_MI := (yX6_addLicensee, cX6_addLicensee, 2, none, (0, 0), [], [], [], 1, 1)
theorem ok_X6_addLicensee : pp_MIok mi_X6_addLicensee := pp_mok_ok (a := 798) (b := 79) (c := 796) (d := 797) (by decide +kernel)
def mi_X5_keepRule : pp_MI := (yX5_keepRule, cX5_keepRule, 2, none, (0, 0), [], [], [], 1, 1)
theorem ok_X5_keepRule : pp_MIok mi_X5_keepRule := pp_mok_ok (a := 802) (b := 78) (c := 801) (d := 17) (by decide +kernel)
def mi_X5_keep : pp_MI := (yX5_keep, cX5_keep, 2, none, (0, 0), [], [], [], 1, 1)
theorem ok_X5_keep : pp_MIok mi_X5_keep := pp_mok_ok (a := 782) (b := 78) (c := 781) (d := 16) (by decide +kernel)
def mi_X5_readStatement : pp_MI := (yX5_readStatement, cX5_readStatement, 3, (some .int), (0, 0), [], [], [], 1, 0)
theorem ok_X5_readStatement : pp_MIok mi_X5_readStatement := pp_mok_ok (a := 672) (b := 78) (c := 671) (d := 7) (by decide +kernel)
def mi_X5_readPool : pp_MI := (yX5_readPool, cX5_readPool, 4, (some .int), (0, 0), [], [], [], 1, 1)
theorem ok_X5_readPool : pp_MIok mi_X5_readPool := pp_mok_ok (a := 649) (b := 78) (c := 647) (d := 648) (by decide +kernel)
def mi_X2_copyFrom : pp_MI := (yX2_copyFrom, cX2_copyFrom, 2, none, (0, 0), [], [], [], 1, 1)
theorem ok_X2_copyFrom : pp_MIok mi_X2_copyFrom := pp_mok_ok (a := 815) (b := 80) (c := 813) (d := 814) (by decide +kernel)
def mi_X6_copyFrom : pp_MI := (yX6_copyFrom, cX6_copyFrom, 2, none, (0, 0), [], [], [], 1, 1)
theorem ok_X6_copyFrom : pp_MIok mi_X6_copyFrom := pp_mok_ok (a := 810) (b := 79) (c := 808) (d := 809) (by decide +kernel)
def mi_X3_clear : pp_MI := (yX3_clear, cX3_clear, 1, none, (0, 0), [], [], [], 1, 0)
theorem ok_X3_clear : pp_MIok mi_X3_clear := pp_mok_ok (a := 821) (b := 85) (c := 819) (d := 820) (by decide +kernel)
def mi_X8_startOver : pp_MI := (yX8_startOver, cX8_startOver, 2, none, (0, 0), [], [], [], 1, 0)
theorem ok_X8_startOver : pp_MIok mi_X8_startOver := pp_mok_ok (a := 806) (b := 77) (c := 805) (d := 18) (by decide +kernel)
def mi_X5_position : pp_MI := (yX5_position, cX5_position, 1, (some .int), (0, 0), [], [], [], 1, 0)
theorem ok_X5_position : pp_MIok mi_X5_position := pp_mok_ok (a := 825) (b := 78) (c := 823) (d := 824) (by decide +kernel)
def mi_X8_parse : pp_MI := (yX8_parse, cX8_parse, 3, (some .int), (1, 6), [], [], [], 1, 1)
theorem ok_X8_parse : pp_MIok mi_X8_parse := pp_mok_ok (a := 578) (b := 77) (c := 576) (d := 577) (by decide +kernel)
def mi_X8_errorPosition : pp_MI := (yX8_errorPosition, cX8_errorPosition, 1, (some .int), (0, 0), [], [], [], 1, 0)
theorem ok_X8_errorPosition : pp_MIok mi_X8_errorPosition := pp_mok_ok (a := 476) (b := 77) (c := 474) (d := 475) (by decide +kernel)
def mi_X8_size : pp_MI := (yX8_size, cX8_size, 2, (some .int), (1, 6), [], [], [], 1, 1)
theorem ok_X8_size : pp_MIok mi_X8_size := pp_mok_ok (a := 832) (b := 77) (c := 830) (d := 831) (by decide +kernel)
def mi_X8_today : pp_MI := (yX8_today, cX8_today, 1, (some .int), (0, 0), [], [], [], 1, 0)
theorem ok_X8_today : pp_MIok mi_X8_today := pp_mok_ok (a := 480) (b := 77) (c := 478) (d := 479) (by decide +kernel)
def mi_X8_period : pp_MI := (yX8_period, cX8_period, 1, (some .int), (0, 0), [], [], [], 1, 0)
theorem ok_X8_period : pp_MIok mi_X8_period := pp_mok_ok (a := 484) (b := 77) (c := 482) (d := 483) (by decide +kernel)
def mi_X8_checkPatent : pp_MI := (yX8_checkPatent, cX8_checkPatent, 2, none, (1, 6), [], [], [], 1, 1)
theorem ok_X8_checkPatent : pp_MIok mi_X8_checkPatent := pp_mok_ok (a := 845) (b := 77) (c := 844) (d := 19) (by decide +kernel)
def mi_X8_checkVersion : pp_MI := (yX8_checkVersion, cX8_checkVersion, 2, none, (1, 6), [], [], [], 1, 1)
theorem ok_X8_checkVersion : pp_MIok mi_X8_checkVersion := pp_mok_ok (a := 865) (b := 77) (c := 864) (d := 20) (by decide +kernel)
def mi_X8_pairOf : pp_MI := (yX8_pairOf, cX8_pairOf, 2, (some .int), (0, 0), [], [], [], 0, 2)
theorem ok_X8_pairOf : pp_MIok mi_X8_pairOf := pp_mok_ok (a := 519) (b := 77) (c := 518) (d := 0) (by decide +kernel)
def mi_J6_bitCount_0f7a4 : pp_MI := (yJ6_bitCount_0f7a4, cJ6_bitCount_0f7a4, 1, (some .int), (0, 0), [], [], [], 0, 1)
theorem ok_J6_bitCount_0f7a4 : pp_MIok mi_J6_bitCount_0f7a4 := pp_mok_ok (a := 522) (b := 98) (c := 521) (d := 0) (by decide +kernel)
def mi_X0_outcome : pp_MI := (yX0_outcome, cX0_outcome, 3, (some .int), (0, 0), [], [], [], 1, 2)
theorem ok_X0_outcome : pp_MIok mi_X0_outcome := pp_mok_ok (a := 529) (b := 83) (c := 528) (d := 3) (by decide +kernel)
def mi_X0_decide : pp_MI := (yX0_decide, cX0_decide, 5, (some .int), (0, 0), [], [], [], 1, 2)
theorem ok_X0_decide : pp_MIok mi_X0_decide := pp_mok_ok (a := 516) (b := 83) (c := 514) (d := 515) (by decide +kernel)
def mi_X8_decision : pp_MI := (yX8_decision, cX8_decision, 3, (some .int), (2, 12), [(20, 2, 12)], [], [], 1, 2)
theorem ok_X8_decision : pp_MIok mi_X8_decision := pp_mok_ok (a := 841) (b := 77) (c := 839) (d := 840) (by decide +kernel)
def mi_X8_voters : pp_MI := (yX8_voters, cX8_voters, 5, (some .int), (2, 12), [(34, 2, 12), (44, 2, 12), (45, 2, 12)], [], [], 1, 3)
theorem ok_X8_voters : pp_MIok mi_X8_voters := pp_mok_ok (a := 874) (b := 77) (c := 872) (d := 873) (by decide +kernel)
def mi_X0_missingVotes : pp_MI := (yX0_missingVotes, cX0_missingVotes, 7, (some .int), (0, 0), [], [], [], 1, 2)
theorem ok_X0_missingVotes : pp_MIok mi_X0_missingVotes := pp_mok_ok (a := 886) (b := 83) (c := 884) (d := 885) (by decide +kernel)
def mi_X8_votesNeeded : pp_MI := (yX8_votesNeeded, cX8_votesNeeded, 3, (some .int), (2, 12), [(20, 2, 12)], [], [], 1, 2)
theorem ok_X8_votesNeeded : pp_MIok mi_X8_votesNeeded := pp_mok_ok (a := 882) (b := 77) (c := 880) (d := 881) (by decide +kernel)
def mi_X0_releasedOn : pp_MI := (yX0_releasedOn, cX0_releasedOn, 3, (some .boolean), (0, 0), [], [], [], 1, 2)
theorem ok_X0_releasedOn : pp_MIok mi_X0_releasedOn := pp_mok_ok (a := 508) (b := 83) (c := 506) (d := 507) (by decide +kernel)
def mi_X0_inForceOn : pp_MI := (yX0_inForceOn, cX0_inForceOn, 3, (some .boolean), (0, 0), [], [], [], 1, 2)
theorem ok_X0_inForceOn : pp_MIok mi_X0_inForceOn := pp_mok_ok (a := 512) (b := 83) (c := 510) (d := 511) (by decide +kernel)
def mi_X0_countsOn : pp_MI := (yX0_countsOn, cX0_countsOn, 4, (some .boolean), (0, 0), [], [], [], 1, 3)
theorem ok_X0_countsOn : pp_MIok mi_X0_countsOn := pp_mok_ok (a := 504) (b := 83) (c := 502) (d := 503) (by decide +kernel)
def mi_X8_counts : pp_MI := (yX8_counts, cX8_counts, 3, (some .boolean), (2, 12), [(27, 2, 12)], [], [], 1, 2)
theorem ok_X8_counts : pp_MIok mi_X8_counts := pp_mok_ok (a := 893) (b := 77) (c := 891) (d := 892) (by decide +kernel)
def mi_X8_checkMember : pp_MI := (yX8_checkMember, cX8_checkMember, 2, none, (1, 6), [], [], [], 1, 1)
theorem ok_X8_checkMember : pp_MIok mi_X8_checkMember := pp_mok_ok (a := 905) (b := 77) (c := 904) (d := 21) (by decide +kernel)
def mi_X8_firstToExpire : pp_MI := (yX8_firstToExpire, cX8_firstToExpire, 4, (some .int), (1, 6), [(9, 1, 6), (77, 1, 6), (79, 1, 6), (85, 1, 6), (87, 1, 6)], [], [], 1, 1)
theorem ok_X8_firstToExpire : pp_MIok mi_X8_firstToExpire := pp_mok_ok (a := 901) (b := 77) (c := 899) (d := 900) (by decide +kernel)
def mi_X0_versionsOn : pp_MI := (yX0_versionsOn, cX0_versionsOn, 5, (some .int), (0, 0), [], [], [], 1, 2)
theorem ok_X0_versionsOn : pp_MIok mi_X0_versionsOn := pp_mok_ok (a := 500) (b := 83) (c := 499) (d := 2) (by decide +kernel)
def mi_X2_combined : pp_MI := (yX2_combined, cX2_combined, 3, (some .int), (0, 0), [], [], [], 0, 3)
theorem ok_X2_combined : pp_MIok mi_X2_combined := pp_mok_ok (a := 536) (b := 80) (c := 535) (d := 0) (by decide +kernel)
def mi_X2_operand : pp_MI := (yX2_operand, cX2_operand, 4, (some .int), (0, 0), [], [], [], 0, 4)
theorem ok_X2_operand : pp_MIok mi_X2_operand := pp_mok_ok (a := 539) (b := 80) (c := 538) (d := 0) (by decide +kernel)
def mi_X2_evaluate : pp_MI := (yX2_evaluate, cX2_evaluate, 7, (some .int), (0, 0), [], [], [], 1, 3)
theorem ok_X2_evaluate : pp_MIok mi_X2_evaluate := pp_mok_ok (a := 533) (b := 80) (c := 531) (d := 532) (by decide +kernel)
def mi_X0_weightOn : pp_MI := (yX0_weightOn, cX0_weightOn, 8, (some .int), (0, 0), [], [], [], 1, 2)
theorem ok_X0_weightOn : pp_MIok mi_X0_weightOn := pp_mok_ok (a := 496) (b := 83) (c := 494) (d := 495) (by decide +kernel)
def mi_X8_weight : pp_MI := (yX8_weight, cX8_weight, 2, (some .int), (1, 6), [(21, 1, 6)], [], [], 1, 1)
theorem ok_X8_weight : pp_MIok mi_X8_weight := pp_mok_ok (a := 914) (b := 77) (c := 912) (d := 913) (by decide +kernel)
def mi_X8_weightAfter : pp_MI := (yX8_weightAfter, cX8_weightAfter, 3, (some .int), (2, 12), [(16, 1, 6), (26, 1, 6), (44, 1, 6)], [], [], 1, 2)
theorem ok_X8_weightAfter : pp_MIok mi_X8_weightAfter := pp_mok_ok (a := 921) (b := 77) (c := 919) (d := 920) (by decide +kernel)
def mi_X8_weighMembers : pp_MI := (yX8_weighMembers, cX8_weighMembers, 2, none, (0, 0), [], [], [], 1, 0)
theorem ok_X8_weighMembers : pp_MIok mi_X8_weighMembers := pp_mok_ok (a := 492) (b := 77) (c := 491) (d := 1) (by decide +kernel)
def mi_X1_openWeight : pp_MI := (yX1_openWeight, cX1_openWeight, 4, (some .long), (0, 0), [], [], [], 1, 0)
theorem ok_X1_openWeight : pp_MIok mi_X1_openWeight := pp_mok_ok (a := 944) (b := 84) (c := 943) (d := 23) (by decide +kernel)
def mi_X1_closeAbove : pp_MI := (yX1_closeAbove, cX1_closeAbove, 9, (some .boolean), (0, 0), [], [], [], 1, 1)
theorem ok_X1_closeAbove : pp_MIok mi_X1_closeAbove := pp_mok_ok (a := 940) (b := 84) (c := 939) (d := 22) (by decide +kernel)
def mi_X1_giveQuotas : pp_MI := (yX1_giveQuotas, cX1_giveQuotas, 8, none, (0, 0), [], [], [], 1, 0)
theorem ok_X1_giveQuotas : pp_MIok mi_X1_giveQuotas := pp_mok_ok (a := 948) (b := 84) (c := 947) (d := 24) (by decide +kernel)
def mi_X1_openWithLargestRemainder : pp_MI := (yX1_openWithLargestRemainder, cX1_openWithLargestRemainder, 3, (some .int), (0, 0), [], [], [], 1, 0)
theorem ok_X1_openWithLargestRemainder : pp_MIok mi_X1_openWithLargestRemainder := pp_mok_ok (a := 956) (b := 84) (c := 955) (d := 26) (by decide +kernel)
def mi_X1_giveRemainders : pp_MI := (yX1_giveRemainders, cX1_giveRemainders, 5, none, (0, 0), [], [], [], 1, 1)
theorem ok_X1_giveRemainders : pp_MIok mi_X1_giveRemainders := pp_mok_ok (a := 952) (b := 84) (c := 951) (d := 25) (by decide +kernel)
def mi_X1_divide : pp_MI := (yX1_divide, cX1_divide, 8, none, (0, 0), [], [], [], 1, 2)
theorem ok_X1_divide : pp_MIok mi_X1_divide := pp_mok_ok (a := 935) (b := 84) (c := 933) (d := 934) (by decide +kernel)
def mi_X8_shareOf : pp_MI := (yX8_shareOf, cX8_shareOf, 3, (some .int), (2, 12), [(15, 1, 6), (25, 1, 6), (56, 1, 6)], [], [], 1, 2)
theorem ok_X8_shareOf : pp_MIok mi_X8_shareOf := pp_mok_ok (a := 929) (b := 77) (c := 927) (d := 928) (by decide +kernel)
def mi_X1_isMajority : pp_MI := (yX1_isMajority, cX1_isMajority, 5, (some .boolean), (0, 0), [], [], [], 1, 1)
theorem ok_X1_isMajority : pp_MIok mi_X1_isMajority := pp_mok_ok (a := 550) (b := 84) (c := 548) (d := 549) (by decide +kernel)
def mi_X8_smallestMajority : pp_MI := (yX8_smallestMajority, cX8_smallestMajority, 4, (some .int), (0, 0), [], [], [], 1, 0)
theorem ok_X8_smallestMajority : pp_MIok mi_X8_smallestMajority := pp_mok_ok (a := 488) (b := 77) (c := 486) (d := 487) (by decide +kernel)
def mi_X8_power : pp_MI := (yX8_power, cX8_power, 6, (some .int), (1, 6), [(29, 1, 6), (71, 1, 6), (77, 1, 6), (80, 1, 6)], [], [], 1, 1)
theorem ok_X8_power : pp_MIok mi_X8_power := pp_mok_ok (a := 963) (b := 77) (c := 961) (d := 962) (by decide +kernel)
def mi_X8_checkLicensee : pp_MI := (yX8_checkLicensee, cX8_checkLicensee, 2, none, (1, 6), [], [], [], 1, 1)
theorem ok_X8_checkLicensee : pp_MIok mi_X8_checkLicensee := pp_mok_ok (a := 974) (b := 77) (c := 973) (d := 27) (by decide +kernel)
def mi_X8_owed : pp_MI := (yX8_owed, cX8_owed, 2, (some .long), (1, 6), [(15, 1, 6)], [], [], 1, 1)
theorem ok_X8_owed : pp_MIok mi_X8_owed := pp_mok_ok (a := 970) (b := 77) (c := 968) (d := 969) (by decide +kernel)
def mi_X8_reported : pp_MI := (yX8_reported, cX8_reported, 3, (some .int), (2, 12), [(24, 2, 12)], [], [], 1, 2)
theorem ok_X8_reported : pp_MIok mi_X8_reported := pp_mok_ok (a := 982) (b := 77) (c := 980) (d := 981) (by decide +kernel)
def mi_X8_account : pp_MI := (yX8_account, cX8_account, 2, (some .long), (1, 6), [(15, 1, 6)], [], [], 1, 1)
theorem ok_X8_account : pp_MIok mi_X8_account := pp_mok_ok (a := 989) (b := 77) (c := 987) (d := 988) (by decide +kernel)
def mi_X8_latestShare : pp_MI := (yX8_latestShare, cX8_latestShare, 2, (some .long), (1, 6), [(15, 1, 6)], [], [], 1, 1)
theorem ok_X8_latestShare : pp_MIok mi_X8_latestShare := pp_mok_ok (a := 996) (b := 77) (c := 994) (d := 995) (by decide +kernel)
def mi_X8_total : pp_MI := (yX8_total, cX8_total, 2, (some .long), (1, 6), [], [], [], 1, 1)
theorem ok_X8_total : pp_MIok mi_X8_total := pp_mok_ok (a := 1003) (b := 77) (c := 1001) (d := 1002) (by decide +kernel)
def mi_X8_largestDebtor : pp_MI := (yX8_largestDebtor, cX8_largestDebtor, 5, (some .int), (0, 0), [], [], [], 1, 0)
theorem ok_X8_largestDebtor : pp_MIok mi_X8_largestDebtor := pp_mok_ok (a := 555) (b := 77) (c := 553) (d := 554) (by decide +kernel)
def mi_X3_remember : pp_MI := (yX3_remember, cX3_remember, 3, none, (10, 233), [(60, 10, 233), (81, 10, 233)], [], [], 1, 1)
theorem ok_X3_remember : pp_MIok mi_X3_remember := pp_mok_ok (a := 1031) (b := 85) (c := 1029) (d := 1030) (by decide +kernel)
def mi_X8_advance : pp_MI := (yX8_advance, cX8_advance, 2, (some .int), (10, 233), [(79, 10, 233)], [], [], 1, 1)
theorem ok_X8_advance : pp_MIok mi_X8_advance := pp_mok_ok (a := 1011) (b := 77) (c := 1009) (d := 1010) (by decide +kernel)
def mi_X8_join : pp_MI := (yX8_join, cX8_join, 1, (some .int), (10, 233), [(48, 10, 233)], [], [], 1, 0)
theorem ok_X8_join : pp_MIok mi_X8_join := pp_mok_ok (a := 1040) (b := 77) (c := 1038) (d := 1039) (by decide +kernel)
def mi_X8_declare : pp_MI := (yX8_declare, cX8_declare, 3, (some .int), (11, 239), [(23, 1, 6), (33, 1, 6), (55, 1, 6), (76, 11, 239)], [], [], 1, 2)
theorem ok_X8_declare : pp_MIok mi_X8_declare := pp_mok_ok (a := 1049) (b := 77) (c := 1047) (d := 1048) (by decide +kernel)
def mi_X8_vote : pp_MI := (yX8_vote, cX8_vote, 7, (some .int), (12, 245), [(65, 2, 12), (76, 2, 12), (129, 12, 245), (144, 12, 245), (177, 12, 245), (190, 12, 245), (201, 12, 245)], [], [], 1, 4)
theorem ok_X8_vote : pp_MIok mi_X8_vote := pp_mok_ok (a := 1059) (b := 77) (c := 1057) (d := 1058) (by decide +kernel)
def mi_X8_reopen : pp_MI := (yX8_reopen, cX8_reopen, 5, (some .int), (12, 245), [(56, 2, 12), (90, 12, 245)], [], [], 1, 2)
theorem ok_X8_reopen : pp_MIok mi_X8_reopen := pp_mok_ok (a := 1069) (b := 77) (c := 1067) (d := 1068) (by decide +kernel)
def mi_X8_royaltyOf : pp_MI := (yX8_royaltyOf, cX8_royaltyOf, 4, (some .long), (0, 0), [], [], [], 1, 3)
theorem ok_X8_royaltyOf : pp_MIok mi_X8_royaltyOf := pp_mok_ok (a := 1083) (b := 77) (c := 1082) (d := 28) (by decide +kernel)
def mi_X8_report : pp_MI := (yX8_report, cX8_report, 6, (some .int), (12, 245), [(22, 2, 12), (33, 2, 12), (62, 2, 12), (117, 12, 245)], [], [], 1, 3)
theorem ok_X8_report : pp_MIok mi_X8_report := pp_mok_ok (a := 1077) (b := 77) (c := 1075) (d := 1076) (by decide +kernel)
def mi_X8_grantBack : pp_MI := (yX8_grantBack, cX8_grantBack, 6, (some .int), (11, 239), [(32, 1, 6), (86, 1, 6), (128, 11, 239)], [], [], 1, 1)
theorem ok_X8_grantBack : pp_MIok mi_X8_grantBack := pp_mok_ok (a := 1091) (b := 77) (c := 1089) (d := 1090) (by decide +kernel)
def mi_X8_pay : pp_MI := (yX8_pay, cX8_pay, 3, (some .long), (11, 239), [(25, 1, 6), (35, 1, 6), (98, 11, 239)], [], [], 1, 2)
theorem ok_X8_pay : pp_MIok mi_X8_pay := pp_mok_ok (a := 1103) (b := 77) (c := 1101) (d := 1102) (by decide +kernel)
def mi_X8_audit : pp_MI := (yX8_audit, cX8_audit, 10, (some .long), (12, 245), [(21, 2, 12), (32, 2, 12), (71, 12, 245), (129, 12, 245)], [], [], 1, 3)
theorem ok_X8_audit : pp_MIok mi_X8_audit := pp_mok_ok (a := 1110) (b := 77) (c := 1108) (d := 1109) (by decide +kernel)
def mi_X4_bookShares : pp_MI := (yX4_bookShares, cX4_bookShares, 3, none, (0, 0), [], [], [], 1, 1)
theorem ok_X4_bookShares : pp_MIok mi_X4_bookShares := pp_mok_ok (a := 1123) (b := 81) (c := 1121) (d := 1122) (by decide +kernel)
def mi_J7_fill_53178 : pp_MI := (yJ7_fill_53178, cJ7_fill_53178, 4, none, (0, 0), [], [], [], 0, 2)
theorem ok_J7_fill_53178 : pp_MIok mi_J7_fill_53178 := pp_mok_ok (a := 1130) (b := 100) (c := 1129) (d := 0) (by decide +kernel)
def mi_X4_beginPeriod : pp_MI := (yX4_beginPeriod, cX4_beginPeriod, 1, none, (0, 0), [], [], [], 1, 0)
theorem ok_X4_beginPeriod : pp_MIok mi_X4_beginPeriod := pp_mok_ok (a := 1127) (b := 81) (c := 1125) (d := 1126) (by decide +kernel)
def mi_X8_close : pp_MI := (yX8_close, cX8_close, 7, (some .long), (10, 233), [(175, 10, 233)], [], [], 1, 0)
theorem ok_X8_close : pp_MIok mi_X8_close := pp_mok_ok (a := 1118) (b := 77) (c := 1116) (d := 1117) (by decide +kernel)
def mi_X8_payOut : pp_MI := (yX8_payOut, cX8_payOut, 4, (some .long), (11, 239), [(32, 1, 6), (68, 11, 239)], [], [], 1, 1)
theorem ok_X8_payOut : pp_MIok mi_X8_payOut := pp_mok_ok (a := 1137) (b := 77) (c := 1135) (d := 1136) (by decide +kernel)
def mi_X3_takeBack : pp_MI := (yX3_takeBack, cX3_takeBack, 3, (some .int), (0, 0), [], [], [], 1, 1)
theorem ok_X3_takeBack : pp_MIok mi_X3_takeBack := pp_mok_ok (a := 563) (b := 85) (c := 561) (d := 562) (by decide +kernel)
def mi_X8_undo : pp_MI := (yX8_undo, cX8_undo, 1, (some .int), (0, 0), [], [], [], 1, 0)
theorem ok_X8_undo : pp_MIok mi_X8_undo := pp_mok_ok (a := 559) (b := 77) (c := 557) (d := 558) (by decide +kernel)
def mi_X8_checkSlot : pp_MI := (yX8_checkSlot, cX8_checkSlot, 2, none, (1, 6), [], [], [], 1, 1)
theorem ok_X8_checkSlot : pp_MIok mi_X8_checkSlot := pp_mok_ok (a := 1149) (b := 77) (c := 1148) (d := 29) (by decide +kernel)
def mi_X8_saveSnapshot : pp_MI := (yX8_saveSnapshot, cX8_saveSnapshot, 4, (some .boolean), (11, 239), [(26, 1, 6), (51, 11, 239)], [], [], 1, 1)
theorem ok_X8_saveSnapshot : pp_MIok mi_X8_saveSnapshot := pp_mok_ok (a := 1145) (b := 77) (c := 1143) (d := 1144) (by decide +kernel)
def mi_X8_restoreSnapshot : pp_MI := (yX8_restoreSnapshot, cX8_restoreSnapshot, 3, (some .int), (2, 12), [(27, 1, 6), (50, 1, 6)], [], [], 1, 1)
theorem ok_X8_restoreSnapshot : pp_MIok mi_X8_restoreSnapshot := pp_mok_ok (a := 1157) (b := 77) (c := 1155) (d := 1156) (by decide +kernel)
def mi_X9_emit : pp_MI := (yX9_emit, cX9_emit, 2, (some .boolean), (0, 0), [], [], [], 1, 1)
theorem ok_X9_emit : pp_MIok mi_X9_emit := pp_mok_ok (a := 1172) (b := 86) (c := 1171) (d := 31) (by decide +kernel)
def mi_X9_clearDraft : pp_MI := (yX9_clearDraft, cX9_clearDraft, 2, none, (0, 0), [], [], [], 1, 0)
theorem ok_X9_clearDraft : pp_MIok mi_X9_clearDraft := pp_mok_ok (a := 1168) (b := 86) (c := 1167) (d := 30) (by decide +kernel)
def mi_X9_lifts : pp_MI := (yX9_lifts, cX9_lifts, 2, none, (0, 0), [], [], [], 0, 1)
theorem ok_X9_lifts : pp_MIok mi_X9_lifts := pp_mok_ok (a := 1179) (b := 86) (c := 1178) (d := 0) (by decide +kernel)
def mi_X9_liftsAll : pp_MI := (yX9_liftsAll, cX9_liftsAll, 1, none, (0, 0), [], [], [], 1, 0)
theorem ok_X9_liftsAll : pp_MIok mi_X9_liftsAll := pp_mok_ok (a := 1176) (b := 86) (c := 1175) (d := 32) (by decide +kernel)
def mi_X9_begins : pp_MI := (yX9_begins, cX9_begins, 2, none, (0, 0), [], [], [], 1, 0)
theorem ok_X9_begins : pp_MIok mi_X9_begins := pp_mok_ok (a := 1183) (b := 86) (c := 1182) (d := 33) (by decide +kernel)
def mi_X9_init : pp_MI := (yX9_init, cX9_init, 1, none, (18, 5333), [(168, 18, 5333)], [], [], 2, 0)
theorem ok_X9_init : pp_MIok mi_X9_init := pp_mok_ok (a := 1163) (b := 86) (c := 1162) (d := 0) (by decide +kernel)
def mi_X9_thrown : pp_MI := (yX9_thrown, cX9_thrown, 1, (some .int), (0, 0), [], [], [], 1, 0)
theorem ok_X9_thrown : pp_MIok mi_X9_thrown := pp_mok_ok (a := 1281) (b := 86) (c := 1279) (d := 1280) (by decide +kernel)
def mi_X9_within : pp_MI := (yX9_within, cX9_within, 6, (some .boolean), (0, 0), [], [], [], 0, 3)
theorem ok_X9_within : pp_MIok mi_X9_within := pp_mok_ok (a := 1296) (b := 86) (c := 1295) (d := 0) (by decide +kernel)
def mi_X9_has : pp_MI := (yX9_has, cX9_has, 2, (some .boolean), (0, 0), [], [], [], 0, 2)
theorem ok_X9_has : pp_MIok mi_X9_has := pp_mok_ok (a := 1365) (b := 86) (c := 1364) (d := 0) (by decide +kernel)
def mi_X9_bits : pp_MI := (yX9_bits, cX9_bits, 5, (some .int), (0, 0), [], [], [], 0, 1)
theorem ok_X9_bits : pp_MIok mi_X9_bits := pp_mok_ok (a := 1438) (b := 86) (c := 1437) (d := 0) (by decide +kernel)
def mi_X9_throwsIf : pp_MI := (yX9_throwsIf, cX9_throwsIf, 3, (some .boolean), (0, 0), [], [], [], 1, 2)
theorem ok_X9_throwsIf : pp_MIok mi_X9_throwsIf := pp_mok_ok (a := 1300) (b := 86) (c := 1299) (d := 35) (by decide +kernel)
def mi_X9_bytesOf : pp_MI := (yX9_bytesOf, cX9_bytesOf, 3, none, (0, 0), [], [], [], 1, 1)
theorem ok_X9_bytesOf : pp_MIok mi_X9_bytesOf := pp_mok_ok (a := 1289) (b := 86) (c := 1288) (d := 34) (by decide +kernel)
def mi_X9_append : pp_MI := (yX9_append, cX9_append, 6, (some .int), (0, 0), [], [], [], 1, 5)
theorem ok_X9_append : pp_MIok mi_X9_append := pp_mok_ok (a := 1285) (b := 86) (c := 1283) (d := 1284) (by decide +kernel)
def mi_X9_byteAt : pp_MI := (yX9_byteAt, cX9_byteAt, 2, (some .int), (0, 0), [], [], [], 1, 1)
theorem ok_X9_byteAt : pp_MIok mi_X9_byteAt := pp_mok_ok (a := 1308) (b := 86) (c := 1307) (d := 37) (by decide +kernel)
def mi_X9_isSign : pp_MI := (yX9_isSign, cX9_isSign, 1, (some .boolean), (0, 0), [], [], [], 0, 1)
theorem ok_X9_isSign : pp_MIok mi_X9_isSign := pp_mok_ok (a := 1315) (b := 86) (c := 1314) (d := 0) (by decide +kernel)
def mi_X9_advance : pp_MI := (yX9_advance, cX9_advance, 2, none, (0, 0), [], [], [], 1, 0)
theorem ok_X9_advance : pp_MIok mi_X9_advance := pp_mok_ok (a := 1304) (b := 86) (c := 1303) (d := 36) (by decide +kernel)
def mi_X9_isWord : pp_MI := (yX9_isWord, cX9_isWord, 4, (some .boolean), (0, 0), [], [], [], 1, 1)
theorem ok_X9_isWord : pp_MIok mi_X9_isWord := pp_mok_ok (a := 1324) (b := 86) (c := 1323) (d := 39) (by decide +kernel)
def mi_X9_isSignHere : pp_MI := (yX9_isSignHere, cX9_isSignHere, 2, (some .boolean), (0, 0), [], [], [], 1, 1)
theorem ok_X9_isSignHere : pp_MIok mi_X9_isSignHere := pp_mok_ok (a := 1392) (b := 86) (c := 1391) (d := 52) (by decide +kernel)
def mi_X9_fails : pp_MI := (yX9_fails, cX9_fails, 2, (some .boolean), (0, 0), [], [], [], 1, 1)
theorem ok_X9_fails : pp_MIok mi_X9_fails := pp_mok_ok (a := 1338) (b := 86) (c := 1337) (d := 42) (by decide +kernel)
def mi_X9_takes : pp_MI := (yX9_takes, cX9_takes, 3, (some .boolean), (0, 0), [], [], [], 1, 2)
theorem ok_X9_takes : pp_MIok mi_X9_takes := pp_mok_ok (a := 1346) (b := 86) (c := 1345) (d := 44) (by decide +kernel)
def mi_X9_starts : pp_MI := (yX9_starts, cX9_starts, 3, (some .boolean), (0, 0), [], [], [], 1, 2)
theorem ok_X9_starts : pp_MIok mi_X9_starts := pp_mok_ok (a := 1334) (b := 86) (c := 1333) (d := 41) (by decide +kernel)
def mi_X9_once : pp_MI := (yX9_once, cX9_once, 2, (some .boolean), (0, 0), [], [], [], 1, 1)
theorem ok_X9_once : pp_MIok mi_X9_once := pp_mok_ok (a := 1362) (b := 86) (c := 1361) (d := 47) (by decide +kernel)
def mi_X9_sets : pp_MI := (yX9_sets, cX9_sets, 4, (some .boolean), (0, 0), [], [], [], 1, 3)
theorem ok_X9_sets : pp_MIok mi_X9_sets := pp_mok_ok (a := 1369) (b := 86) (c := 1368) (d := 48) (by decide +kernel)
def mi_X9_closes : pp_MI := (yX9_closes, cX9_closes, 2, (some .boolean), (0, 0), [], [], [], 1, 1)
theorem ok_X9_closes : pp_MIok mi_X9_closes := pp_mok_ok (a := 1396) (b := 86) (c := 1395) (d := 53) (by decide +kernel)
def mi_X9_lays : pp_MI := (yX9_lays, cX9_lays, 5, (some .boolean), (0, 0), [], [], [], 1, 4)
theorem ok_X9_lays : pp_MIok mi_X9_lays := pp_mok_ok (a := 1342) (b := 86) (c := 1341) (d := 43) (by decide +kernel)
def mi_X9_oneMore : pp_MI := (yX9_oneMore, cX9_oneMore, 3, (some .boolean), (0, 0), [], [], [], 1, 2)
theorem ok_X9_oneMore : pp_MIok mi_X9_oneMore := pp_mok_ok (a := 1330) (b := 86) (c := 1329) (d := 40) (by decide +kernel)
def mi_X9_counted : pp_MI := (yX9_counted, cX9_counted, 2, (some .boolean), (0, 0), [], [], [], 1, 1)
theorem ok_X9_counted : pp_MIok mi_X9_counted := pp_mok_ok (a := 1350) (b := 86) (c := 1349) (d := 45) (by decide +kernel)
def mi_X9_factor : pp_MI := (yX9_factor, cX9_factor, 2, (some .boolean), (0, 0), [], [], [], 1, 0)
theorem ok_X9_factor : pp_MIok mi_X9_factor := pp_mok_ok (a := 1388) (b := 86) (c := 1387) (d := 51) (by decide +kernel)
def mi_X9_term : pp_MI := (yX9_term, cX9_term, 2, (some .boolean), (0, 0), [], [], [], 1, 0)
theorem ok_X9_term : pp_MIok mi_X9_term := pp_mok_ok (a := 1384) (b := 86) (c := 1383) (d := 50) (by decide +kernel)
def mi_X9_sum : pp_MI := (yX9_sum, cX9_sum, 2, (some .boolean), (0, 0), [], [], [], 1, 0)
theorem ok_X9_sum : pp_MIok mi_X9_sum := pp_mok_ok (a := 1380) (b := 86) (c := 1379) (d := 49) (by decide +kernel)
def mi_X9_setting : pp_MI := (yX9_setting, cX9_setting, 1, (some .boolean), (0, 0), [], [], [], 1, 0)
theorem ok_X9_setting : pp_MIok mi_X9_setting := pp_mok_ok (a := 1357) (b := 86) (c := 1356) (d := 46) (by decide +kernel)
def mi_X9_statement : pp_MI := (yX9_statement, cX9_statement, 2, (some .boolean), (0, 0), [], [], [], 1, 0)
theorem ok_X9_statement : pp_MIok mi_X9_statement := pp_mok_ok (a := 1319) (b := 86) (c := 1318) (d := 38) (by decide +kernel)
def mi_X9_joined : pp_MI := (yX9_joined, cX9_joined, 3, (some .int), (0, 0), [], [], [], 0, 3)
theorem ok_X9_joined : pp_MIok mi_X9_joined := pp_mok_ok (a := 1489) (b := 86) (c := 1488) (d := 0) (by decide +kernel)
def mi_X9_worth : pp_MI := (yX9_worth, cX9_worth, 4, (some .int), (0, 0), [], [], [], 1, 0)
theorem ok_X9_worth : pp_MIok mi_X9_worth := pp_mok_ok (a := 1486) (b := 86) (c := 1485) (d := 63) (by decide +kernel)
def mi_X9_parse : pp_MI := (yX9_parse, cX9_parse, 3, (some .int), (0, 0), [], [], [], 1, 1)
theorem ok_X9_parse : pp_MIok mi_X9_parse := pp_mok_ok (a := 1293) (b := 86) (c := 1291) (d := 1292) (by decide +kernel)
def mi_X9_errorPosition : pp_MI := (yX9_errorPosition, cX9_errorPosition, 1, (some .int), (0, 0), [], [], [], 1, 0)
theorem ok_X9_errorPosition : pp_MIok mi_X9_errorPosition := pp_mok_ok (a := 1403) (b := 86) (c := 1401) (d := 1402) (by decide +kernel)
def mi_X9_size : pp_MI := (yX9_size, cX9_size, 2, (some .int), (0, 0), [], [], [], 1, 1)
theorem ok_X9_size : pp_MIok mi_X9_size := pp_mok_ok (a := 1407) (b := 86) (c := 1405) (d := 1406) (by decide +kernel)
def mi_X9_today : pp_MI := (yX9_today, cX9_today, 1, (some .int), (0, 0), [], [], [], 1, 0)
theorem ok_X9_today : pp_MIok mi_X9_today := pp_mok_ok (a := 1412) (b := 86) (c := 1410) (d := 1411) (by decide +kernel)
def mi_X9_period : pp_MI := (yX9_period, cX9_period, 1, (some .int), (0, 0), [], [], [], 1, 0)
theorem ok_X9_period : pp_MIok mi_X9_period := pp_mok_ok (a := 1416) (b := 86) (c := 1414) (d := 1415) (by decide +kernel)
def mi_X9_no : pp_MI := (yX9_no, cX9_no, 5, (some .boolean), (0, 0), [], [], [], 1, 2)
theorem ok_X9_no : pp_MIok mi_X9_no := pp_mok_ok (a := 1428) (b := 86) (c := 1427) (d := 55) (by decide +kernel)
def mi_X9_noMember : pp_MI := (yX9_noMember, cX9_noMember, 2, (some .boolean), (0, 0), [], [], [], 1, 1)
theorem ok_X9_noMember : pp_MIok mi_X9_noMember := pp_mok_ok (a := 1474) (b := 86) (c := 1473) (d := 61) (by decide +kernel)
def mi_X9_noPair : pp_MI := (yX9_noPair, cX9_noPair, 3, (some .boolean), (0, 0), [], [], [], 1, 2)
theorem ok_X9_noPair : pp_MIok mi_X9_noPair := pp_mok_ok (a := 1424) (b := 86) (c := 1423) (d := 54) (by decide +kernel)
def mi_X9_pair : pp_MI := (yX9_pair, cX9_pair, 2, (some .int), (0, 0), [], [], [], 0, 2)
theorem ok_X9_pair : pp_MIok mi_X9_pair := pp_mok_ok (a := 1435) (b := 86) (c := 1434) (d := 0) (by decide +kernel)
def mi_X9_isPositive : pp_MI := (yX9_isPositive, cX9_isPositive, 3, (some .boolean), (0, 0), [], [], [], 1, 2)
theorem ok_X9_isPositive : pp_MIok mi_X9_isPositive := pp_mok_ok (a := 1442) (b := 86) (c := 1441) (d := 57) (by decide +kernel)
def mi_X9_decided : pp_MI := (yX9_decided, cX9_decided, 5, (some .int), (0, 0), [], [], [], 1, 2)
theorem ok_X9_decided : pp_MIok mi_X9_decided := pp_mok_ok (a := 1432) (b := 86) (c := 1431) (d := 56) (by decide +kernel)
def mi_X9_decision : pp_MI := (yX9_decision, cX9_decision, 3, (some .int), (0, 0), [], [], [], 1, 2)
theorem ok_X9_decision : pp_MIok mi_X9_decision := pp_mok_ok (a := 1420) (b := 86) (c := 1418) (d := 1419) (by decide +kernel)
def mi_X9_voters : pp_MI := (yX9_voters, cX9_voters, 4, (some .int), (0, 0), [], [], [], 1, 3)
theorem ok_X9_voters : pp_MIok mi_X9_voters := pp_mok_ok (a := 1446) (b := 86) (c := 1444) (d := 1445) (by decide +kernel)
def mi_X9_votesNeeded : pp_MI := (yX9_votesNeeded, cX9_votesNeeded, 6, (some .int), (0, 0), [], [], [], 1, 2)
theorem ok_X9_votesNeeded : pp_MIok mi_X9_votesNeeded := pp_mok_ok (a := 1450) (b := 86) (c := 1448) (d := 1449) (by decide +kernel)
def mi_X9_isReleased : pp_MI := (yX9_isReleased, cX9_isReleased, 4, (some .boolean), (0, 0), [], [], [], 1, 2)
theorem ok_X9_isReleased : pp_MIok mi_X9_isReleased := pp_mok_ok (a := 1462) (b := 86) (c := 1461) (d := 59) (by decide +kernel)
def mi_X9_isInForce : pp_MI := (yX9_isInForce, cX9_isInForce, 4, (some .boolean), (0, 0), [], [], [], 1, 2)
theorem ok_X9_isInForce : pp_MIok mi_X9_isInForce := pp_mok_ok (a := 1466) (b := 86) (c := 1465) (d := 60) (by decide +kernel)
def mi_X9_isCounted : pp_MI := (yX9_isCounted, cX9_isCounted, 5, (some .boolean), (0, 0), [], [], [], 1, 3)
theorem ok_X9_isCounted : pp_MIok mi_X9_isCounted := pp_mok_ok (a := 1458) (b := 86) (c := 1457) (d := 58) (by decide +kernel)
def mi_X9_counts : pp_MI := (yX9_counts, cX9_counts, 3, (some .boolean), (0, 0), [], [], [], 1, 2)
theorem ok_X9_counts : pp_MIok mi_X9_counts := pp_mok_ok (a := 1454) (b := 86) (c := 1452) (d := 1453) (by decide +kernel)
def mi_X9_firstToExpire : pp_MI := (yX9_firstToExpire, cX9_firstToExpire, 5, (some .int), (0, 0), [], [], [], 1, 1)
theorem ok_X9_firstToExpire : pp_MIok mi_X9_firstToExpire := pp_mok_ok (a := 1470) (b := 86) (c := 1468) (d := 1469) (by decide +kernel)
def mi_X9_weightOn : pp_MI := (yX9_weightOn, cX9_weightOn, 7, (some .int), (0, 0), [], [], [], 1, 2)
theorem ok_X9_weightOn : pp_MIok mi_X9_weightOn := pp_mok_ok (a := 1482) (b := 86) (c := 1481) (d := 62) (by decide +kernel)
def mi_X9_weight : pp_MI := (yX9_weight, cX9_weight, 2, (some .int), (0, 0), [], [], [], 1, 1)
theorem ok_X9_weight : pp_MIok mi_X9_weight := pp_mok_ok (a := 1478) (b := 86) (c := 1476) (d := 1477) (by decide +kernel)
def mi_X9_weightAfter : pp_MI := (yX9_weightAfter, cX9_weightAfter, 3, (some .int), (0, 0), [], [], [], 1, 2)
theorem ok_X9_weightAfter : pp_MIok mi_X9_weightAfter := pp_mok_ok (a := 1494) (b := 86) (c := 1492) (d := 1493) (by decide +kernel)
def mi_X9_weighs : pp_MI := (yX9_weighs, cX9_weighs, 2, none, (0, 0), [], [], [], 1, 0)
theorem ok_X9_weighs : pp_MIok mi_X9_weighs := pp_mok_ok (a := 1508) (b := 86) (c := 1507) (d := 65) (by decide +kernel)
def mi_X9_openOnes : pp_MI := (yX9_openOnes, cX9_openOnes, 4, (some .long), (0, 0), [], [], [], 1, 0)
theorem ok_X9_openOnes : pp_MIok mi_X9_openOnes := pp_mok_ok (a := 1513) (b := 86) (c := 1512) (d := 66) (by decide +kernel)
def mi_X9_openAt : pp_MI := (yX9_openAt, cX9_openAt, 11, (some .int), (0, 0), [], [], [], 1, 3)
theorem ok_X9_openAt : pp_MIok mi_X9_openAt := pp_mok_ok (a := 1521) (b := 86) (c := 1520) (d := 68) (by decide +kernel)
def mi_X9_rounds : pp_MI := (yX9_rounds, cX9_rounds, 11, (some .long), (0, 0), [], [], [], 1, 3)
theorem ok_X9_rounds : pp_MIok mi_X9_rounds := pp_mok_ok (a := 1517) (b := 86) (c := 1516) (d := 67) (by decide +kernel)
def mi_X9_shares : pp_MI := (yX9_shares, cX9_shares, 13, (some .long), (0, 0), [], [], [], 1, 1)
theorem ok_X9_shares : pp_MIok mi_X9_shares := pp_mok_ok (a := 1504) (b := 86) (c := 1503) (d := 64) (by decide +kernel)
def mi_X9_shareOf : pp_MI := (yX9_shareOf, cX9_shareOf, 3, (some .int), (0, 0), [], [], [], 1, 2)
theorem ok_X9_shareOf : pp_MIok mi_X9_shareOf := pp_mok_ok (a := 1499) (b := 86) (c := 1497) (d := 1498) (by decide +kernel)
def mi_X9_heaviness : pp_MI := (yX9_heaviness, cX9_heaviness, 5, (some .long), (0, 0), [], [], [], 1, 1)
theorem ok_X9_heaviness : pp_MIok mi_X9_heaviness := pp_mok_ok (a := 1535) (b := 86) (c := 1534) (d := 70) (by decide +kernel)
def mi_X9_isMajority : pp_MI := (yX9_isMajority, cX9_isMajority, 2, (some .boolean), (0, 0), [], [], [], 1, 1)
theorem ok_X9_isMajority : pp_MIok mi_X9_isMajority := pp_mok_ok (a := 1530) (b := 86) (c := 1529) (d := 69) (by decide +kernel)
def mi_X9_smallestMajority : pp_MI := (yX9_smallestMajority, cX9_smallestMajority, 3, (some .int), (0, 0), [], [], [], 1, 0)
theorem ok_X9_smallestMajority : pp_MIok mi_X9_smallestMajority := pp_mok_ok (a := 1526) (b := 86) (c := 1524) (d := 1525) (by decide +kernel)
def mi_X9_power : pp_MI := (yX9_power, cX9_power, 4, (some .int), (0, 0), [], [], [], 1, 1)
theorem ok_X9_power : pp_MIok mi_X9_power := pp_mok_ok (a := 1539) (b := 86) (c := 1537) (d := 1538) (by decide +kernel)
def mi_X9_noLicensee : pp_MI := (yX9_noLicensee, cX9_noLicensee, 2, (some .boolean), (0, 0), [], [], [], 1, 1)
theorem ok_X9_noLicensee : pp_MIok mi_X9_noLicensee := pp_mok_ok (a := 1547) (b := 86) (c := 1546) (d := 71) (by decide +kernel)
def mi_X9_noReport : pp_MI := (yX9_noReport, cX9_noReport, 3, (some .boolean), (0, 0), [], [], [], 1, 2)
theorem ok_X9_noReport : pp_MIok mi_X9_noReport := pp_mok_ok (a := 1555) (b := 86) (c := 1554) (d := 72) (by decide +kernel)
def mi_X9_owed : pp_MI := (yX9_owed, cX9_owed, 2, (some .long), (0, 0), [], [], [], 1, 1)
theorem ok_X9_owed : pp_MIok mi_X9_owed := pp_mok_ok (a := 1543) (b := 86) (c := 1541) (d := 1542) (by decide +kernel)
def mi_X9_reported : pp_MI := (yX9_reported, cX9_reported, 3, (some .int), (0, 0), [], [], [], 1, 2)
theorem ok_X9_reported : pp_MIok mi_X9_reported := pp_mok_ok (a := 1551) (b := 86) (c := 1549) (d := 1550) (by decide +kernel)
def mi_X9_account : pp_MI := (yX9_account, cX9_account, 2, (some .long), (0, 0), [], [], [], 1, 1)
theorem ok_X9_account : pp_MIok mi_X9_account := pp_mok_ok (a := 1559) (b := 86) (c := 1557) (d := 1558) (by decide +kernel)
def mi_X9_latestShare : pp_MI := (yX9_latestShare, cX9_latestShare, 2, (some .long), (0, 0), [], [], [], 1, 1)
theorem ok_X9_latestShare : pp_MIok mi_X9_latestShare := pp_mok_ok (a := 1563) (b := 86) (c := 1561) (d := 1562) (by decide +kernel)
def mi_X9_total : pp_MI := (yX9_total, cX9_total, 2, (some .long), (0, 0), [], [], [], 1, 1)
theorem ok_X9_total : pp_MIok mi_X9_total := pp_mok_ok (a := 1567) (b := 86) (c := 1565) (d := 1566) (by decide +kernel)
def mi_X9_largestDebtor : pp_MI := (yX9_largestDebtor, cX9_largestDebtor, 3, (some .int), (0, 0), [], [], [], 1, 0)
theorem ok_X9_largestDebtor : pp_MIok mi_X9_largestDebtor := pp_mok_ok (a := 1572) (b := 86) (c := 1570) (d := 1571) (by decide +kernel)
def mi_X9_copies : pp_MI := (yX9_copies, cX9_copies, 6, none, (0, 0), [], [], [], 0, 5)
theorem ok_X9_copies : pp_MIok mi_X9_copies := pp_mok_ok (a := 1583) (b := 86) (c := 1582) (d := 0) (by decide +kernel)
def mi_X9_keeps : pp_MI := (yX9_keeps, cX9_keeps, 1, none, (0, 0), [], [], [], 1, 0)
theorem ok_X9_keeps : pp_MIok mi_X9_keeps := pp_mok_ok (a := 1580) (b := 86) (c := 1579) (d := 73) (by decide +kernel)
def mi_X9_advance_ : pp_MI := (yX9_advance_, cX9_advance_, 2, (some .int), (0, 0), [], [], [], 1, 1)
theorem ok_X9_advance_ : pp_MIok mi_X9_advance_ := pp_mok_ok (a := 1576) (b := 86) (c := 1574) (d := 1575) (by decide +kernel)
def mi_X9_join : pp_MI := (yX9_join, cX9_join, 2, (some .int), (0, 0), [], [], [], 1, 0)
theorem ok_X9_join : pp_MIok mi_X9_join := pp_mok_ok (a := 1587) (b := 86) (c := 1585) (d := 1586) (by decide +kernel)
def mi_X9_declare : pp_MI := (yX9_declare, cX9_declare, 4, (some .int), (0, 0), [], [], [], 1, 2)
theorem ok_X9_declare : pp_MIok mi_X9_declare := pp_mok_ok (a := 1592) (b := 86) (c := 1590) (d := 1591) (by decide +kernel)
def mi_X9_vote : pp_MI := (yX9_vote, cX9_vote, 8, (some .int), (0, 0), [], [], [], 1, 4)
theorem ok_X9_vote : pp_MIok mi_X9_vote := pp_mok_ok (a := 1597) (b := 86) (c := 1595) (d := 1596) (by decide +kernel)
def mi_X9_reopen : pp_MI := (yX9_reopen, cX9_reopen, 5, (some .int), (0, 0), [], [], [], 1, 2)
theorem ok_X9_reopen : pp_MIok mi_X9_reopen := pp_mok_ok (a := 1602) (b := 86) (c := 1600) (d := 1601) (by decide +kernel)
def mi_X9_royalty : pp_MI := (yX9_royalty, cX9_royalty, 5, (some .long), (0, 0), [], [], [], 1, 3)
theorem ok_X9_royalty : pp_MIok mi_X9_royalty := pp_mok_ok (a := 1610) (b := 86) (c := 1609) (d := 74) (by decide +kernel)
def mi_X9_report : pp_MI := (yX9_report, cX9_report, 6, (some .int), (0, 0), [], [], [], 1, 3)
theorem ok_X9_report : pp_MIok mi_X9_report := pp_mok_ok (a := 1606) (b := 86) (c := 1604) (d := 1605) (by decide +kernel)
def mi_X9_grantBack : pp_MI := (yX9_grantBack, cX9_grantBack, 6, (some .int), (0, 0), [], [], [], 1, 1)
theorem ok_X9_grantBack : pp_MIok mi_X9_grantBack := pp_mok_ok (a := 1614) (b := 86) (c := 1612) (d := 1613) (by decide +kernel)
def mi_X9_pay : pp_MI := (yX9_pay, cX9_pay, 3, (some .long), (0, 0), [], [], [], 1, 2)
theorem ok_X9_pay : pp_MIok mi_X9_pay := pp_mok_ok (a := 1618) (b := 86) (c := 1616) (d := 1617) (by decide +kernel)
def mi_X9_audit : pp_MI := (yX9_audit, cX9_audit, 7, (some .long), (0, 0), [], [], [], 1, 3)
theorem ok_X9_audit : pp_MIok mi_X9_audit := pp_mok_ok (a := 1622) (b := 86) (c := 1620) (d := 1621) (by decide +kernel)
def mi_X9_close : pp_MI := (yX9_close, cX9_close, 10, (some .long), (0, 0), [], [], [], 1, 0)
theorem ok_X9_close : pp_MIok mi_X9_close := pp_mok_ok (a := 1627) (b := 86) (c := 1625) (d := 1626) (by decide +kernel)
def mi_X9_payOut : pp_MI := (yX9_payOut, cX9_payOut, 4, (some .long), (0, 0), [], [], [], 1, 1)
theorem ok_X9_payOut : pp_MIok mi_X9_payOut := pp_mok_ok (a := 1631) (b := 86) (c := 1629) (d := 1630) (by decide +kernel)
def mi_X9_undo : pp_MI := (yX9_undo, cX9_undo, 1, (some .int), (0, 0), [], [], [], 1, 0)
theorem ok_X9_undo : pp_MIok mi_X9_undo := pp_mok_ok (a := 1635) (b := 86) (c := 1633) (d := 1634) (by decide +kernel)
def mi_X9_noSlot : pp_MI := (yX9_noSlot, cX9_noSlot, 2, (some .boolean), (0, 0), [], [], [], 1, 1)
theorem ok_X9_noSlot : pp_MIok mi_X9_noSlot := pp_mok_ok (a := 1643) (b := 86) (c := 1642) (d := 75) (by decide +kernel)
def mi_X9_saveSnapshot : pp_MI := (yX9_saveSnapshot, cX9_saveSnapshot, 3, (some .boolean), (0, 0), [], [], [], 1, 1)
theorem ok_X9_saveSnapshot : pp_MIok mi_X9_saveSnapshot := pp_mok_ok (a := 1639) (b := 86) (c := 1637) (d := 1638) (by decide +kernel)
def mi_X9_restoreSnapshot : pp_MI := (yX9_restoreSnapshot, cX9_restoreSnapshot, 2, (some .int), (0, 0), [], [], [], 1, 1)
theorem ok_X9_restoreSnapshot : pp_MIok mi_X9_restoreSnapshot := pp_mok_ok (a := 1647) (b := 86) (c := 1645) (d := 1646) (by decide +kernel)
def mi_L_parse : pp_MI := (yL_parse, cL_parse, 4, (some .int), (1, 6), [(12, 1, 6), (15, 1, 6), (17, 1, 6)], [(0, 9, 12, 13)], [("java/lang/IllegalArgumentException", 1)], 0, 3)
theorem ok_L_parse : pp_MIok mi_L_parse := pp_mok_ok (a := 573) (b := 76) (c := 572) (d := 0) (by decide +kernel)
def mi_L_size : pp_MI := (yL_size, cL_size, 4, (some .int), (1, 6), [(12, 1, 6), (15, 1, 6), (17, 1, 6)], [(0, 9, 12, 13)], [("java/lang/IllegalArgumentException", 1)], 0, 3)
theorem ok_L_size : pp_MIok mi_L_size := pp_mok_ok (a := 828) (b := 76) (c := 827) (d := 0) (by decide +kernel)
def mi_L_decision : pp_MI := (yL_decision, cL_decision, 5, (some .int), (2, 12), [(13, 2, 12), (17, 2, 12), (19, 2, 12)], [(0, 10, 13, 22)], [("java/lang/IndexOutOfBoundsException", 1)], 0, 4)
theorem ok_L_decision : pp_MIok mi_L_decision := pp_mok_ok (a := 836) (b := 76) (c := 835) (d := 0) (by decide +kernel)
def mi_L_voters : pp_MI := (yL_voters, cL_voters, 6, (some .int), (2, 12), [(15, 2, 12), (19, 2, 12), (21, 2, 12)], [(0, 12, 15, 22)], [("java/lang/IndexOutOfBoundsException", 1)], 0, 5)
theorem ok_L_voters : pp_MIok mi_L_voters := pp_mok_ok (a := 870) (b := 76) (c := 869) (d := 0) (by decide +kernel)
def mi_L_votesNeeded : pp_MI := (yL_votesNeeded, cL_votesNeeded, 5, (some .int), (2, 12), [(13, 2, 12), (17, 2, 12), (19, 2, 12)], [(0, 10, 13, 22)], [("java/lang/IndexOutOfBoundsException", 1)], 0, 4)
theorem ok_L_votesNeeded : pp_MIok mi_L_votesNeeded := pp_mok_ok (a := 878) (b := 76) (c := 877) (d := 0) (by decide +kernel)
def mi_L_counts : pp_MI := (yL_counts, cL_counts, 5, (some .int), (2, 12), [(15, 2, 12), (16, 2, 12), (20, 2, 12), (24, 2, 12), (26, 2, 12)], [(0, 17, 20, 22)], [("java/lang/IndexOutOfBoundsException", 1)], 0, 4)
theorem ok_L_counts : pp_MIok mi_L_counts := pp_mok_ok (a := 889) (b := 76) (c := 888) (d := 0) (by decide +kernel)
def mi_L_firstToExpire : pp_MI := (yL_firstToExpire, cL_firstToExpire, 4, (some .int), (1, 6), [(12, 1, 6), (15, 1, 6), (17, 1, 6)], [(0, 9, 12, 22)], [("java/lang/IndexOutOfBoundsException", 1)], 0, 3)
theorem ok_L_firstToExpire : pp_MIok mi_L_firstToExpire := pp_mok_ok (a := 897) (b := 76) (c := 896) (d := 0) (by decide +kernel)
def mi_L_weight : pp_MI := (yL_weight, cL_weight, 4, (some .int), (1, 6), [(12, 1, 6), (15, 1, 6), (17, 1, 6)], [(0, 9, 12, 22)], [("java/lang/IndexOutOfBoundsException", 1)], 0, 3)
theorem ok_L_weight : pp_MIok mi_L_weight := pp_mok_ok (a := 910) (b := 76) (c := 909) (d := 0) (by decide +kernel)
def mi_L_weightAfter : pp_MI := (yL_weightAfter, cL_weightAfter, 5, (some .int), (2, 12), [(13, 2, 12), (17, 2, 12), (21, 2, 12), (23, 2, 12)], [(0, 10, 13, 22), (0, 10, 17, 13)], [("java/lang/IndexOutOfBoundsException", 1), ("java/lang/IllegalArgumentException", 2)], 0, 4)
theorem ok_L_weightAfter : pp_MIok mi_L_weightAfter := pp_mok_ok (a := 917) (b := 76) (c := 916) (d := 0) (by decide +kernel)
def mi_L_shareOf : pp_MI := (yL_shareOf, cL_shareOf, 5, (some .int), (2, 12), [(13, 2, 12), (17, 2, 12), (21, 2, 12), (23, 2, 12)], [(0, 10, 13, 22), (0, 10, 17, 13)], [("java/lang/IndexOutOfBoundsException", 1), ("java/lang/IllegalArgumentException", 2)], 0, 4)
theorem ok_L_shareOf : pp_MIok mi_L_shareOf := pp_mok_ok (a := 925) (b := 76) (c := 924) (d := 0) (by decide +kernel)
def mi_L_power : pp_MI := (yL_power, cL_power, 4, (some .int), (1, 6), [(12, 1, 6), (15, 1, 6), (17, 1, 6)], [(0, 9, 12, 22)], [("java/lang/IndexOutOfBoundsException", 1)], 0, 3)
theorem ok_L_power : pp_MIok mi_L_power := pp_mok_ok (a := 959) (b := 76) (c := 958) (d := 0) (by decide +kernel)
def mi_L_owed : pp_MI := (yL_owed, cL_owed, 4, (some .int), (1, 6), [(11, 1, 6), (14, 1, 6), (16, 1, 6)], [(0, 8, 11, 22)], [("java/lang/IndexOutOfBoundsException", 1)], 0, 3)
theorem ok_L_owed : pp_MIok mi_L_owed := pp_mok_ok (a := 966) (b := 76) (c := 965) (d := 0) (by decide +kernel)
def mi_L_reported : pp_MI := (yL_reported, cL_reported, 5, (some .int), (2, 12), [(13, 2, 12), (17, 2, 12), (19, 2, 12)], [(0, 10, 13, 22)], [("java/lang/IndexOutOfBoundsException", 1)], 0, 4)
theorem ok_L_reported : pp_MIok mi_L_reported := pp_mok_ok (a := 978) (b := 76) (c := 977) (d := 0) (by decide +kernel)
def mi_L_account : pp_MI := (yL_account, cL_account, 4, (some .int), (1, 6), [(11, 1, 6), (14, 1, 6), (16, 1, 6)], [(0, 8, 11, 22)], [("java/lang/IndexOutOfBoundsException", 1)], 0, 3)
theorem ok_L_account : pp_MIok mi_L_account := pp_mok_ok (a := 985) (b := 76) (c := 984) (d := 0) (by decide +kernel)
def mi_L_latestShare : pp_MI := (yL_latestShare, cL_latestShare, 4, (some .int), (1, 6), [(11, 1, 6), (14, 1, 6), (16, 1, 6)], [(0, 8, 11, 22)], [("java/lang/IndexOutOfBoundsException", 1)], 0, 3)
theorem ok_L_latestShare : pp_MIok mi_L_latestShare := pp_mok_ok (a := 992) (b := 76) (c := 991) (d := 0) (by decide +kernel)
def mi_L_total : pp_MI := (yL_total, cL_total, 4, (some .int), (1, 6), [(11, 1, 6), (14, 1, 6), (16, 1, 6)], [(0, 8, 11, 13)], [("java/lang/IllegalArgumentException", 1)], 0, 3)
theorem ok_L_total : pp_MIok mi_L_total := pp_mok_ok (a := 999) (b := 76) (c := 998) (d := 0) (by decide +kernel)
def mi_L_advance : pp_MI := (yL_advance, cL_advance, 4, (some .int), (10, 233), [(12, 10, 233), (15, 10, 233), (18, 10, 233), (20, 10, 233)], [(0, 9, 12, 13), (0, 9, 15, 69)], [("java/lang/IllegalArgumentException", 1), ("java/lang/IllegalStateException", 2)], 0, 3)
theorem ok_L_advance : pp_MIok mi_L_advance := pp_mok_ok (a := 1006) (b := 76) (c := 1005) (d := 0) (by decide +kernel)
def mi_L_join : pp_MI := (yL_join, cL_join, 3, (some .int), (10, 233), [(11, 10, 233), (14, 10, 233), (16, 10, 233)], [(0, 8, 11, 69)], [("java/lang/IllegalStateException", 1)], 0, 2)
theorem ok_L_join : pp_MIok mi_L_join := pp_mok_ok (a := 1036) (b := 76) (c := 1035) (d := 0) (by decide +kernel)
def mi_L_declare : pp_MI := (yL_declare, cL_declare, 5, (some .int), (11, 239), [(13, 11, 239), (17, 11, 239), (21, 11, 239), (25, 11, 239), (27, 11, 239)], [(0, 10, 13, 22), (0, 10, 17, 13), (0, 10, 21, 69)], [("java/lang/IndexOutOfBoundsException", 1), ("java/lang/IllegalArgumentException", 2), ("java/lang/IllegalStateException", 3)], 0, 4)
theorem ok_L_declare : pp_MIok mi_L_declare := pp_mok_ok (a := 1045) (b := 76) (c := 1044) (d := 0) (by decide +kernel)
def mi_L_vote : pp_MI := (yL_vote, cL_vote, 7, (some .int), (12, 245), [(17, 12, 245), (21, 12, 245), (25, 12, 245), (27, 12, 245)], [(0, 14, 17, 22), (0, 14, 21, 69)], [("java/lang/IndexOutOfBoundsException", 1), ("java/lang/IllegalStateException", 2)], 0, 6)
theorem ok_L_vote : pp_MIok mi_L_vote := pp_mok_ok (a := 1055) (b := 76) (c := 1054) (d := 0) (by decide +kernel)
def mi_L_reopen : pp_MI := (yL_reopen, cL_reopen, 5, (some .int), (12, 245), [(13, 12, 245), (17, 12, 245), (21, 12, 245), (23, 12, 245)], [(0, 10, 13, 22), (0, 10, 17, 69)], [("java/lang/IndexOutOfBoundsException", 1), ("java/lang/IllegalStateException", 2)], 0, 4)
theorem ok_L_reopen : pp_MIok mi_L_reopen := pp_mok_ok (a := 1065) (b := 76) (c := 1064) (d := 0) (by decide +kernel)
def mi_L_report : pp_MI := (yL_report, cL_report, 6, (some .int), (12, 245), [(15, 12, 245), (19, 12, 245), (23, 12, 245), (27, 12, 245), (29, 12, 245)], [(0, 12, 15, 22), (0, 12, 19, 13), (0, 12, 23, 69)], [("java/lang/IndexOutOfBoundsException", 1), ("java/lang/IllegalArgumentException", 2), ("java/lang/IllegalStateException", 3)], 0, 5)
theorem ok_L_report : pp_MIok mi_L_report := pp_mok_ok (a := 1073) (b := 76) (c := 1072) (d := 0) (by decide +kernel)
def mi_L_grantBack : pp_MI := (yL_grantBack, cL_grantBack, 4, (some .int), (11, 239), [(12, 11, 239), (15, 11, 239), (18, 11, 239), (20, 11, 239)], [(0, 9, 12, 22), (0, 9, 15, 69)], [("java/lang/IndexOutOfBoundsException", 1), ("java/lang/IllegalStateException", 2)], 0, 3)
theorem ok_L_grantBack : pp_MIok mi_L_grantBack := pp_mok_ok (a := 1087) (b := 76) (c := 1086) (d := 0) (by decide +kernel)
def mi_L_pay : pp_MI := (yL_pay, cL_pay, 5, (some .int), (11, 239), [(12, 11, 239), (16, 11, 239), (20, 11, 239), (22, 11, 239)], [(0, 9, 12, 22), (0, 9, 16, 13)], [("java/lang/IndexOutOfBoundsException", 1), ("java/lang/IllegalArgumentException", 2)], 0, 4)
theorem ok_L_pay : pp_MIok mi_L_pay := pp_mok_ok (a := 1099) (b := 76) (c := 1098) (d := 0) (by decide +kernel)
def mi_L_audit : pp_MI := (yL_audit, cL_audit, 6, (some .int), (12, 245), [(14, 12, 245), (18, 12, 245), (22, 12, 245), (24, 12, 245)], [(0, 11, 14, 22), (0, 11, 18, 13)], [("java/lang/IndexOutOfBoundsException", 1), ("java/lang/IllegalArgumentException", 2)], 0, 5)
theorem ok_L_audit : pp_MIok mi_L_audit := pp_mok_ok (a := 1106) (b := 76) (c := 1105) (d := 0) (by decide +kernel)
def mi_L_close : pp_MI := (yL_close, cL_close, 3, (some .int), (10, 233), [(10, 10, 233), (13, 10, 233), (15, 10, 233)], [(0, 7, 10, 69)], [("java/lang/IllegalStateException", 1)], 0, 2)
theorem ok_L_close : pp_MIok mi_L_close := pp_mok_ok (a := 1114) (b := 76) (c := 1113) (d := 0) (by decide +kernel)
def mi_L_payOut : pp_MI := (yL_payOut, cL_payOut, 4, (some .int), (11, 239), [(11, 11, 239), (14, 11, 239), (17, 11, 239), (19, 11, 239)], [(0, 8, 11, 22), (0, 8, 14, 69)], [("java/lang/IndexOutOfBoundsException", 1), ("java/lang/IllegalStateException", 2)], 0, 3)
theorem ok_L_payOut : pp_MIok mi_L_payOut := pp_mok_ok (a := 1133) (b := 76) (c := 1132) (d := 0) (by decide +kernel)
def mi_L_saveSnapshot : pp_MI := (yL_saveSnapshot, cL_saveSnapshot, 4, (some .int), (11, 239), [(14, 11, 239), (15, 11, 239), (19, 11, 239), (22, 11, 239), (24, 11, 239)], [(0, 16, 19, 22)], [("java/lang/IndexOutOfBoundsException", 1)], 0, 3)
theorem ok_L_saveSnapshot : pp_MIok mi_L_saveSnapshot := pp_mok_ok (a := 1141) (b := 76) (c := 1140) (d := 0) (by decide +kernel)
def mi_L_restoreSnapshot : pp_MI := (yL_restoreSnapshot, cL_restoreSnapshot, 4, (some .int), (2, 12), [(12, 2, 12), (15, 2, 12), (18, 2, 12), (20, 2, 12)], [(0, 9, 12, 22), (0, 9, 15, 69)], [("java/lang/IndexOutOfBoundsException", 1), ("java/lang/IllegalStateException", 2)], 0, 3)
theorem ok_L_restoreSnapshot : pp_MIok mi_L_restoreSnapshot := pp_mok_ok (a := 1153) (b := 76) (c := 1152) (d := 0) (by decide +kernel)
def mi_L_law : pp_MI := (yL_law, cL_law, 8, (some .boolean), (235, 11363), [(23, 77, 8339), (200, 77, 8339), (273, 77, 8339), (309, 78, 8345), (326, 78, 8345), (329, 78, 8345), (342, 78, 8345), (378, 79, 8351), (395, 79, 8351), (398, 79, 8351), (411, 79, 8351), (424, 79, 8351), (472, 81, 8363), (489, 81, 8363), (492, 81, 8363), (518, 81, 8363), (519, 81, 8363), (551, 83, 8375), (552, 83, 8375), (568, 83, 8375), (585, 83, 8375), (588, 83, 8375), (636, 85, 8387), (653, 85, 8387), (656, 85, 8387), (704, 87, 8399), (721, 87, 8399), (722, 87, 8399), (728, 87, 8399), (731, 87, 8399), (767, 88, 8405), (784, 88, 8405), (787, 88, 8405), (823, 89, 8411), (840, 89, 8411), (843, 89, 8411), (891, 91, 8423), (908, 91, 8423), (911, 91, 8423), (959, 93, 8435), (976, 93, 8435), (979, 93, 8435), (992, 93, 8435), (1028, 94, 8441), (1045, 94, 8441), (1048, 94, 8441), (1084, 95, 8447), (1100, 95, 8447), (1103, 95, 8447), (1151, 97, 8459), (1168, 97, 8459), (1171, 97, 8459), (1207, 98, 8465), (1223, 98, 8465), (1226, 98, 8465), (1262, 99, 8471), (1278, 99, 8471), (1281, 99, 8471), (1317, 100, 8477), (1333, 100, 8477), (1336, 100, 8477), (1349, 100, 8477), (1385, 110, 8710), (1402, 110, 8710), (1405, 110, 8710), (1429, 120, 8943), (1446, 120, 8943), (1449, 120, 8943), (1497, 131, 9182), (1514, 131, 9182), (1517, 131, 9182), (1549, 131, 9182), (1550, 131, 9182), (1588, 143, 9427), (1589, 143, 9427), (1605, 143, 9427), (1622, 143, 9427), (1625, 143, 9427), (1673, 155, 9672), (1690, 155, 9672), (1693, 155, 9672), (1753, 167, 9917), (1770, 167, 9917), (1773, 167, 9917), (1809, 178, 10156), (1826, 178, 10156), (1829, 178, 10156), (1877, 189, 10395), (1893, 189, 10395), (1896, 189, 10395), (1956, 201, 10640), (1972, 201, 10640), (1975, 201, 10640), (1999, 211, 10873), (2015, 211, 10873), (2018, 211, 10873), (2054, 222, 11112), (2070, 222, 11112), (2073, 222, 11112), (2086, 222, 11112), (2122, 233, 11351), (2139, 233, 11351), (2140, 233, 11351), (2146, 233, 11351), (2149, 233, 11351), (2185, 235, 11363), (2202, 235, 11363), (2205, 235, 11363), (2211, 235, 11363), (2213, 235, 11363)], [], [], 0, 1)
end
section
/-! printed by wip/gencode.py: listings -/
def sg_X2_init_0 : pp_Seg := [(.aload_n 0, .inl (0, 0, [])), (.invokespecial 3, .inl (126, 0, [])), (.aload_n 0, .inl (0, 0, [])), (.sipush 700, .inr (.inr (.int 700, 0))), (.newarray .int, .inl (10, 700, [])), (.putfield 9, .inl (2, 0, [2, 127])), (.aload_n 0, .inl (0, 0, [])), (.iconst 0, .inr (.inr (.int 0, 0))), (.putfield 15, .inl (2, 1, [0, 128])), (.aload_n 0, .inl (0, 0, [])), (.bipush 16, .inr (.inr (.int 16, 0))), (.newarray .int, .inl (10, 16, [])), (.putfield 19, .inl (2, 2, [2, 129])), (.return_, .inl (0, 0, []))]
theorem sk_X2_init_0 : pp_chk mi_X2_init 27 0 (pp_cnt mi_X2_init 0) sg_X2_init_0 = true := by decide +kernel
def sg_X2_clear_0 : pp_Seg := [(.aload_n 0, .inl (0, 0, [])), (.iconst 0, .inr (.inr (.int 0, 0))), (.putfield 15, .inl (2, 1, [0, 128])), (.return_, .inl (0, 0, []))]
theorem sk_X2_clear_0 : pp_chk mi_X2_clear 6 0 (pp_cnt mi_X2_clear 0) sg_X2_clear_0 = true := by decide +kernel
def sg_X2_add_0 : pp_Seg := [(.aload_n 0, .inl (0, 0, [])), (.getfield 15, .inl (2, 1, [0, 128])), (.aload_n 0, .inl (0, 0, [])), (.getfield 9, .inl (2, 0, [2, 127])), (.arraylength, .inl (0, 0, [])), (.if_icmp .ge 23, .inl (32, 0, [])), (.aload_n 0, .inl (0, 0, [])), (.getfield 9, .inl (2, 0, [2, 127])), (.aload_n 0, .inl (0, 0, [])), (.getfield 15, .inl (2, 1, [0, 128])), (.iload_n 1, .inl (0, 0, [])), (.iastore, .inl (0, 0, [])), (.aload_n 0, .inl (0, 0, [])), (.dup, .inl (0, 0, [])), (.getfield 15, .inl (2, 1, [0, 128])), (.iconst 1, .inr (.inr (.int 1, 0))), (.iadd, .inl (0, 0, [])), (.putfield 15, .inl (2, 1, [0, 128]))]
theorem sk_X2_add_0 : pp_chk mi_X2_add 32 0 (pp_cnt mi_X2_add 0) sg_X2_add_0 = true := by decide +kernel
def sg_X2_add_32 : pp_Seg := [(.return_, .inl (0, 0, []))]
theorem sk_X2_add_32 : pp_chk mi_X2_add 33 32 (pp_cnt mi_X2_add 32) sg_X2_add_32 = true := by decide +kernel
def sg_X6_reset_0 : pp_Seg := [(.aload_n 0, .inl (0, 0, [])), (.iconst 0, .inr (.inr (.int 0, 0))), (.putfield 31, .inl (6, 0, [0, 151])), (.aload_n 0, .inl (0, 0, [])), (.iconst 0, .inr (.inr (.int 0, 0))), (.putfield 35, .inl (6, 3, [0, 159])), (.aload_n 0, .inl (0, 0, [])), (.iconst 3, .inr (.inr (.int 3, 0))), (.putfield 38, .inl (6, 5, [0, 164])), (.aload_n 0, .inl (0, 0, [])), (.bipush 50, .inr (.inr (.int 50, 0))), (.putfield 41, .inl (6, 6, [0, 167])), (.aload_n 0, .inl (0, 0, [])), (.bipush 100, .inr (.inr (.int 100, 0))), (.putfield 44, .inl (6, 7, [0, 170])), (.aload_n 0, .inl (0, 0, [])), (.bipush 10, .inr (.inr (.int 10, 0))), (.putfield 47, .inl (6, 8, [0, 173])), (.aload_n 0, .inl (0, 0, [])), (.iconst 5, .inr (.inr (.int 5, 0))), (.putfield 50, .inl (6, 9, [0, 176])), (.aload_n 0, .inl (0, 0, [])), (.iconst 0, .inr (.inr (.int 0, 0))), (.putfield 53, .inl (6, 10, [0, 179])), (.aload_n 0, .inl (0, 0, [])), (.bipush 100, .inr (.inr (.int 100, 0))), (.putfield 56, .inl (6, 11, [0, 182])), (.aload_n 0, .inl (0, 0, [])), (.sipush 1000, .inr (.inr (.int 1000, 0))), (.putfield 59, .inl (6, 12, [0, 185])), (.aload_n 0, .inl (0, 0, [])), (.bipush 20, .inr (.inr (.int 20, 0))), (.putfield 62, .inl (6, 13, [0, 188])), (.aload_n 0, .inl (0, 0, [])), (.bipush 50, .inr (.inr (.int 50, 0))), (.putfield 65, .inl (6, 14, [0, 191])), (.aload_n 0, .inl (0, 0, [])), (.getfield 24, .inl (6, 15, [2, 194])), (.invokevirtual 68, .inr (.inl (mi_X2_clear, 2, 143, [0]))), (.aload_n 0, .inl (0, 0, [])), (.getfield 24, .inl (6, 15, [2, 194])), (.iconst (-1), .inr (.inr (.int (-1), 0))), (.invokevirtual 71, .inr (.inl (mi_X2_add, 2, 147, [0, 0]))), (.return_, .inl (0, 0, []))]
theorem sk_X6_reset_0 : pp_chk mi_X6_reset 84 0 (pp_cnt mi_X6_reset 0) sg_X6_reset_0 = true := by decide +kernel
def sg_X6_init_0 : pp_Seg := [(.aload_n 0, .inl (0, 0, [])), (.invokespecial 3, .inl (120, 0, [])), (.aload_n 0, .inl (0, 0, [])), (.iconst 4, .inr (.inr (.int 4, 0))), (.newarray .int, .inl (10, 4, [])), (.putfield 9, .inl (6, 1, [2, 155])), (.aload_n 0, .inl (0, 0, [])), (.iconst 4, .inr (.inr (.int 4, 0))), (.newarray .int, .inl (10, 4, [])), (.putfield 15, .inl (6, 2, [2, 157])), (.aload_n 0, .inl (0, 0, [])), (.bipush 6, .inr (.inr (.int 6, 0))), (.newarray .int, .inl (10, 6, [])), (.putfield 18, .inl (6, 4, [2, 162])), (.aload_n 0, .inl (0, 0, [])), (.new 21, .inl (2, 3, [121])), (.dup, .inl (0, 0, [])), (.invokespecial 23, .inr (.inl (mi_X2_init, 2, 123, [0]))), (.putfield 24, .inl (6, 15, [2, 194])), (.aload_n 0, .inl (0, 0, [])), (.invokevirtual 28, .inr (.inl (mi_X6_reset, 6, 139, [0]))), (.return_, .inl (0, 0, []))]
theorem sk_X6_init_0 : pp_chk mi_X6_init 42 0 (pp_cnt mi_X6_init 0) sg_X6_init_0 = true := by decide +kernel
def sg_X4_init_0 : pp_Seg := [(.aload_n 0, .inl (0, 0, [])), (.invokespecial 3, .inl (235, 0, [])), (.aload_n 0, .inl (0, 0, [])), (.bipush 8, .inr (.inr (.int 8, 0))), (.newarray .int, .inl (10, 8, [])), (.putfield 9, .inl (4, 3, [2, 243])), (.aload_n 0, .inl (0, 0, [])), (.bipush 16, .inr (.inr (.int 16, 0))), (.newarray .int, .inl (10, 16, [])), (.putfield 15, .inl (4, 5, [2, 249])), (.aload_n 0, .inl (0, 0, [])), (.bipush 16, .inr (.inr (.int 16, 0))), (.newarray .int, .inl (10, 16, [])), (.putfield 18, .inl (4, 6, [2, 252])), (.aload_n 0, .inl (0, 0, [])), (.bipush 64, .inr (.inr (.int 64, 0))), (.newarray .int, .inl (10, 64, [])), (.putfield 21, .inl (4, 7, [2, 255])), (.aload_n 0, .inl (0, 0, [])), (.bipush 64, .inr (.inr (.int 64, 0))), (.newarray .int, .inl (10, 64, [])), (.putfield 24, .inl (4, 8, [2, 258])), (.aload_n 0, .inl (0, 0, [])), (.bipush 24, .inr (.inr (.int 24, 0))), (.newarray .int, .inl (10, 24, [])), (.putfield 27, .inl (4, 9, [2, 261])), (.aload_n 0, .inl (0, 0, [])), (.bipush 6, .inr (.inr (.int 6, 0))), (.newarray .long, .inl (13, 6, [])), (.putfield 30, .inl (4, 10, [2, 263])), (.aload_n 0, .inl (0, 0, [])), (.bipush 8, .inr (.inr (.int 8, 0))), (.newarray .long, .inl (13, 8, [])), (.putfield 34, .inl (4, 12, [2, 267])), (.aload_n 0, .inl (0, 0, [])), (.bipush 8, .inr (.inr (.int 8, 0))), (.newarray .long, .inl (13, 8, [])), (.putfield 37, .inl (4, 13, [2, 269])), (.return_, .inl (0, 0, []))]
theorem sk_X4_init_0 : pp_chk mi_X4_init 77 0 (pp_cnt mi_X4_init 0) sg_X4_init_0 = true := by decide +kernel
def sg_X7_init_0 : pp_Seg := [(.aload_n 0, .inl (0, 0, [])), (.invokespecial 3, .inl (326, 0, [])), (.aload_n 0, .inl (0, 0, [])), (.aload_n 1, .inl (0, 0, [])), (.putfield 9, .inl (7, 0, [2, 327])), (.return_, .inl (0, 0, []))]
theorem sk_X7_init_0 : pp_chk mi_X7_init 10 0 (pp_cnt mi_X7_init 0) sg_X7_init_0 = true := by decide +kernel
def sg_X5_init_0 : pp_Seg := [(.aload_n 0, .inl (0, 0, [])), (.invokespecial 3, .inl (114, 0, [])), (.aload_n 0, .inl (0, 0, [])), (.new 9, .inl (6, 16, [115])), (.dup, .inl (0, 0, [])), (.invokespecial 11, .inr (.inl (mi_X6_init, 6, 117, [0]))), (.putfield 12, .inl (5, 0, [2, 349])), (.aload_n 0, .inl (0, 0, [])), (.new 18, .inl (4, 19, [230])), (.dup, .inl (0, 0, [])), (.invokespecial 20, .inr (.inl (mi_X4_init, 4, 232, [0]))), (.putfield 21, .inl (5, 1, [2, 351])), (.aload_n 0, .inl (0, 0, [])), (.new 18, .inl (4, 19, [230])), (.dup, .inl (0, 0, [])), (.invokespecial 20, .inr (.inl (mi_X4_init, 4, 232, [0]))), (.putfield 25, .inl (5, 2, [2, 353])), (.aload_n 0, .inl (0, 0, [])), (.new 28, .inl (7, 6, [321])), (.dup, .inl (0, 0, [])), (.aload_n 1, .inl (0, 0, [])), (.invokespecial 30, .inr (.inl (mi_X7_init, 7, 323, [0, 0]))), (.putfield 33, .inl (5, 3, [2, 354])), (.return_, .inl (0, 0, []))]
theorem sk_X5_init_0 : pp_chk mi_X5_init 50 0 (pp_cnt mi_X5_init 0) sg_X5_init_0 = true := by decide +kernel
def sg_X0_init_0 : pp_Seg := [(.aload_n 0, .inl (0, 0, [])), (.invokespecial 3, .inl (382, 0, [])), (.aload_n 0, .inl (0, 0, [])), (.aload_n 1, .inl (0, 0, [])), (.putfield 9, .inl (0, 0, [2, 383])), (.aload_n 0, .inl (0, 0, [])), (.aload_n 2, .inl (0, 0, [])), (.putfield 15, .inl (0, 1, [2, 384])), (.return_, .inl (0, 0, []))]
theorem sk_X0_init_0 : pp_chk mi_X0_init 15 0 (pp_cnt mi_X0_init 0) sg_X0_init_0 = true := by decide +kernel
def sg_X1_init_0 : pp_Seg := [(.aload_n 0, .inl (0, 0, [])), (.invokespecial 3, .inl (395, 0, [])), (.aload_n 0, .inl (0, 0, [])), (.bipush 8, .inr (.inr (.int 8, 0))), (.newarray .int, .inl (10, 8, [])), (.putfield 9, .inl (1, 0, [2, 396])), (.aload_n 0, .inl (0, 0, [])), (.bipush 8, .inr (.inr (.int 8, 0))), (.newarray .long, .inl (13, 8, [])), (.putfield 15, .inl (1, 1, [2, 398])), (.aload_n 0, .inl (0, 0, [])), (.bipush 8, .inr (.inr (.int 8, 0))), (.newarray .boolean, .inl (12, 8, [])), (.putfield 19, .inl (1, 3, [2, 402])), (.aload_n 0, .inl (0, 0, [])), (.bipush 8, .inr (.inr (.int 8, 0))), (.newarray .long, .inl (13, 8, [])), (.putfield 23, .inl (1, 4, [2, 403])), (.return_, .inl (0, 0, []))]
theorem sk_X1_init_0 : pp_chk mi_X1_init 37 0 (pp_cnt mi_X1_init 0) sg_X1_init_0 = true := by decide +kernel
def sg_X3_init_0 : pp_Seg := [(.aload_n 0, .inl (0, 0, [])), (.invokespecial 3, .inl (421, 0, [])), (.aload_n 0, .inl (0, 0, [])), (.bipush 10, .inr (.inr (.int 10, 0))), (.anewarray 9, .inl (14, 10, [422])), (.putfield 11, .inl (3, 0, [2, 424])), (.aload_n 0, .inl (0, 0, [])), (.iconst 0, .inr (.inr (.int 0, 0))), (.putfield 17, .inl (3, 1, [0, 425])), (.aload_n 0, .inl (0, 0, [])), (.iconst 0, .inr (.inr (.int 0, 0))), (.putfield 21, .inl (3, 2, [0, 426])), (.return_, .inl (0, 0, []))]
theorem sk_X3_init_0 : pp_chk mi_X3_init 24 0 (pp_cnt mi_X3_init 0) sg_X3_init_0 = true := by decide +kernel
def sg_X8_init_0 : pp_Seg := [(.aload_n 0, .inl (0, 0, [])), (.invokespecial 1, .inl (106, 0, [])), (.aload_n 0, .inl (0, 0, [])), (.sipush 700, .inr (.inr (.int 700, 0))), (.newarray .byte, .inl (11, 700, [])), (.putfield 9, .inl (8, 0, [2, 434])), (.aload_n 0, .inl (0, 0, [])), (.iconst 0, .inr (.inr (.int 0, 0))), (.putfield 13, .inl (8, 1, [0, 435])), (.aload_n 0, .inl (0, 0, [])), (.iconst (-1), .inr (.inr (.int (-1), 0))), (.putfield 17, .inl (8, 2, [0, 436])), (.aload_n 0, .inl (0, 0, [])), (.new 20, .inl (5, 7, [109])), (.dup, .inl (0, 0, [])), (.aload_n 0, .inl (0, 0, [])), (.getfield 9, .inl (8, 0, [2, 434])), (.invokespecial 22, .inr (.inl (mi_X5_init, 5, 111, [0, 0]))), (.putfield 25, .inl (8, 3, [2, 437])), (.aload_n 0, .inl (0, 0, [])), (.new 29, .inl (6, 16, [373])), (.dup, .inl (0, 0, [])), (.invokespecial 31, .inr (.inl (mi_X6_init, 6, 374, [0]))), (.putfield 32, .inl (8, 4, [2, 438])), (.aload_n 0, .inl (0, 0, [])), (.new 36, .inl (4, 19, [375])), (.dup, .inl (0, 0, [])), (.invokespecial 38, .inr (.inl (mi_X4_init, 4, 376, [0]))), (.putfield 39, .inl (8, 5, [2, 439])), (.aload_n 0, .inl (0, 0, [])), (.new 43, .inl (0, 2, [377])), (.dup, .inl (0, 0, [])), (.aload_n 0, .inl (0, 0, [])), (.getfield 32, .inl (8, 4, [2, 438])), (.aload_n 0, .inl (0, 0, [])), (.getfield 39, .inl (8, 5, [2, 439])), (.invokespecial 45, .inr (.inl (mi_X0_init, 0, 379, [0, 0, 0]))), (.putfield 48, .inl (8, 6, [2, 440])), (.aload_n 0, .inl (0, 0, [])), (.new 52, .inl (1, 5, [390])), (.dup, .inl (0, 0, [])), (.invokespecial 54, .inr (.inl (mi_X1_init, 1, 392, [0]))), (.putfield 55, .inl (8, 7, [2, 441])), (.aload_n 0, .inl (0, 0, [])), (.new 59, .inl (3, 3, [416])), (.dup, .inl (0, 0, [])), (.invokespecial 61, .inr (.inl (mi_X3_init, 3, 418, [0]))), (.putfield 62, .inl (8, 8, [2, 442])), (.aload_n 0, .inl (0, 0, [])), (.iconst 2, .inr (.inr (.int 2, 0))), (.anewarray 36, .inl (14, 2, [375])), (.putfield 66, .inl (8, 9, [2, 443])), (.return_, .inl (0, 0, []))]
theorem sk_X8_init_0 : pp_chk mi_X8_init 110 0 (pp_cnt mi_X8_init 0) sg_X8_init_0 = true := by decide +kernel
def sg_X8_appendFour_0 : pp_Seg := [(.bipush 24, .inr (.inr (.int 24, 0))), (.istore_n 2, .inl (0, 0, []))]
theorem sk_X8_appendFour_0 : pp_chk mi_X8_appendFour 3 0 (pp_cnt mi_X8_appendFour 0) sg_X8_appendFour_0 = true := by decide +kernel
def sg_X8_appendFour_3 : pp_Seg := [(.iload_n 2, .inl (0, 0, [])), (.ifCond .lt 44, .inl (48, 0, [])), (.aload_n 0, .inl (0, 0, [])), (.getfield 13, .inl (8, 1, [0, 435])), (.aload_n 0, .inl (0, 0, [])), (.getfield 9, .inl (8, 0, [2, 434])), (.arraylength, .inl (0, 0, [])), (.if_icmp .ge 32, .inl (48, 0, [])), (.aload_n 0, .inl (0, 0, [])), (.getfield 9, .inl (8, 0, [2, 434])), (.aload_n 0, .inl (0, 0, [])), (.getfield 13, .inl (8, 1, [0, 435])), (.iload_n 1, .inl (0, 0, [])), (.iload_n 2, .inl (0, 0, [])), (.iushr, .inl (0, 0, [])), (.i2b, .inl (0, 0, [])), (.bastore, .inl (0, 0, [])), (.aload_n 0, .inl (0, 0, [])), (.dup, .inl (0, 0, [])), (.getfield 13, .inl (8, 1, [0, 435])), (.iconst 1, .inr (.inr (.int 1, 0))), (.iadd, .inl (0, 0, [])), (.putfield 13, .inl (8, 1, [0, 435])), (.iinc 2 (-8), .inr (.inr (.int (-8), 0))), (.goto (-42), .inl (3, 0, []))]
theorem sk_X8_appendFour_3 : pp_chk mi_X8_appendFour 48 3 (pp_cnt mi_X8_appendFour 3) sg_X8_appendFour_3 = true := by decide +kernel
def sg_X8_appendFour_48 : pp_Seg := [(.return_, .inl (0, 0, []))]
theorem sk_X8_appendFour_48 : pp_chk mi_X8_appendFour 49 48 (pp_cnt mi_X8_appendFour 48) sg_X8_appendFour_48 = true := by decide +kernel
def sg_X8_append_0 : pp_Seg := [(.aload_n 0, .inl (0, 0, [])), (.getfield 13, .inl (8, 1, [0, 435])), (.bipush 20, .inr (.inr (.int 20, 0))), (.iadd, .inl (0, 0, [])), (.sipush 700, .inr (.inr (.int 700, 0))), (.if_icmp .le 5, .inl (15, 0, [])), (.iconst (-1), .inr (.inr (.int (-1), 0))), (.ireturn, .inl (0, 0, []))]
theorem sk_X8_append_0 : pp_chk mi_X8_append 15 0 (pp_cnt mi_X8_append 0) sg_X8_append_0 = true := by decide +kernel
def sg_X8_append_15 : pp_Seg := [(.aload_n 0, .inl (0, 0, [])), (.iload_n 1, .inl (0, 0, [])), (.invokevirtual 70, .inr (.inl (mi_X8_appendFour, 8, 469, [0, 0]))), (.aload_n 0, .inl (0, 0, [])), (.iload_n 2, .inl (0, 0, [])), (.invokevirtual 70, .inr (.inl (mi_X8_appendFour, 8, 469, [0, 0]))), (.aload_n 0, .inl (0, 0, [])), (.iload_n 3, .inl (0, 0, [])), (.invokevirtual 70, .inr (.inl (mi_X8_appendFour, 8, 469, [0, 0]))), (.aload_n 0, .inl (0, 0, [])), (.iload 4, .inl (0, 0, [])), (.invokevirtual 70, .inr (.inl (mi_X8_appendFour, 8, 469, [0, 0]))), (.aload_n 0, .inl (0, 0, [])), (.iload 5, .inl (0, 0, [])), (.invokevirtual 70, .inr (.inl (mi_X8_appendFour, 8, 469, [0, 0]))), (.aload_n 0, .inl (0, 0, [])), (.getfield 13, .inl (8, 1, [0, 435])), (.ireturn, .inl (0, 0, []))]
theorem sk_X8_append_15 : pp_chk mi_X8_append 47 15 (pp_cnt mi_X8_append 15) sg_X8_append_15 = true := by decide +kernel
def sg_X4_copyFrom_0 : pp_Seg := [(.aload_n 0, .inl (0, 0, [])), (.aload_n 1, .inl (0, 0, [])), (.getfield 40, .inl (4, 0, [0, 236])), (.putfield 40, .inl (4, 0, [0, 236])), (.aload_n 0, .inl (0, 0, [])), (.aload_n 1, .inl (0, 0, [])), (.getfield 44, .inl (4, 1, [0, 238])), (.putfield 44, .inl (4, 1, [0, 238])), (.aload_n 0, .inl (0, 0, [])), (.aload_n 1, .inl (0, 0, [])), (.getfield 47, .inl (4, 2, [0, 240])), (.putfield 47, .inl (4, 2, [0, 240])), (.aload_n 1, .inl (0, 0, [])), (.getfield 9, .inl (4, 3, [2, 243])), (.iconst 0, .inr (.inr (.int 0, 0))), (.aload_n 0, .inl (0, 0, [])), (.getfield 9, .inl (4, 3, [2, 243])), (.iconst 0, .inr (.inr (.int 0, 0))), (.bipush 8, .inr (.inr (.int 8, 0))), (.invokestatic 50, .inl (0, 568, [])), (.aload_n 0, .inl (0, 0, [])), (.aload_n 1, .inl (0, 0, [])), (.getfield 56, .inl (4, 4, [0, 245])), (.putfield 56, .inl (4, 4, [0, 245])), (.aload_n 1, .inl (0, 0, [])), (.getfield 15, .inl (4, 5, [2, 249])), (.iconst 0, .inr (.inr (.int 0, 0))), (.aload_n 0, .inl (0, 0, [])), (.getfield 15, .inl (4, 5, [2, 249])), (.iconst 0, .inr (.inr (.int 0, 0))), (.bipush 16, .inr (.inr (.int 16, 0))), (.invokestatic 50, .inl (0, 568, [])), (.aload_n 1, .inl (0, 0, [])), (.getfield 18, .inl (4, 6, [2, 252])), (.iconst 0, .inr (.inr (.int 0, 0))), (.aload_n 0, .inl (0, 0, [])), (.getfield 18, .inl (4, 6, [2, 252])), (.iconst 0, .inr (.inr (.int 0, 0))), (.bipush 16, .inr (.inr (.int 16, 0))), (.invokestatic 50, .inl (0, 568, [])), (.aload_n 1, .inl (0, 0, [])), (.getfield 21, .inl (4, 7, [2, 255])), (.iconst 0, .inr (.inr (.int 0, 0))), (.aload_n 0, .inl (0, 0, [])), (.getfield 21, .inl (4, 7, [2, 255])), (.iconst 0, .inr (.inr (.int 0, 0))), (.bipush 64, .inr (.inr (.int 64, 0))), (.invokestatic 50, .inl (0, 568, [])), (.aload_n 1, .inl (0, 0, [])), (.getfield 24, .inl (4, 8, [2, 258])), (.iconst 0, .inr (.inr (.int 0, 0))), (.aload_n 0, .inl (0, 0, [])), (.getfield 24, .inl (4, 8, [2, 258])), (.iconst 0, .inr (.inr (.int 0, 0))), (.bipush 64, .inr (.inr (.int 64, 0))), (.invokestatic 50, .inl (0, 568, [])), (.aload_n 1, .inl (0, 0, [])), (.getfield 27, .inl (4, 9, [2, 261])), (.iconst 0, .inr (.inr (.int 0, 0))), (.aload_n 0, .inl (0, 0, [])), (.getfield 27, .inl (4, 9, [2, 261])), (.iconst 0, .inr (.inr (.int 0, 0))), (.bipush 24, .inr (.inr (.int 24, 0))), (.invokestatic 50, .inl (0, 568, [])), (.aload_n 1, .inl (0, 0, [])), (.getfield 30, .inl (4, 10, [2, 263])), (.iconst 0, .inr (.inr (.int 0, 0))), (.aload_n 0, .inl (0, 0, [])), (.getfield 30, .inl (4, 10, [2, 263])), (.iconst 0, .inr (.inr (.int 0, 0))), (.bipush 6, .inr (.inr (.int 6, 0))), (.invokestatic 50, .inl (1, 568, [])), (.aload_n 0, .inl (0, 0, [])), (.aload_n 1, .inl (0, 0, [])), (.getfield 59, .inl (4, 11, [0, 265])), (.putfield 59, .inl (4, 11, [0, 265])), (.aload_n 1, .inl (0, 0, [])), (.getfield 34, .inl (4, 12, [2, 267])), (.iconst 0, .inr (.inr (.int 0, 0))), (.aload_n 0, .inl (0, 0, [])), (.getfield 34, .inl (4, 12, [2, 267])), (.iconst 0, .inr (.inr (.int 0, 0))), (.bipush 8, .inr (.inr (.int 8, 0))), (.invokestatic 50, .inl (1, 568, [])), (.aload_n 1, .inl (0, 0, [])), (.getfield 37, .inl (4, 13, [2, 269])), (.iconst 0, .inr (.inr (.int 0, 0))), (.aload_n 0, .inl (0, 0, [])), (.getfield 37, .inl (4, 13, [2, 269])), (.iconst 0, .inr (.inr (.int 0, 0))), (.bipush 8, .inr (.inr (.int 8, 0))), (.invokestatic 50, .inl (1, 568, [])), (.aload_n 0, .inl (0, 0, [])), (.aload_n 1, .inl (0, 0, [])), (.getfield 62, .inl (4, 14, [1, 271])), (.putfield 62, .inl (4, 14, [1, 271])), (.aload_n 0, .inl (0, 0, [])), (.aload_n 1, .inl (0, 0, [])), (.getfield 66, .inl (4, 15, [1, 273])), (.putfield 66, .inl (4, 15, [1, 273])), (.aload_n 0, .inl (0, 0, [])), (.aload_n 1, .inl (0, 0, [])), (.getfield 69, .inl (4, 16, [1, 275])), (.putfield 69, .inl (4, 16, [1, 275])), (.aload_n 0, .inl (0, 0, [])), (.aload_n 1, .inl (0, 0, [])), (.getfield 72, .inl (4, 17, [1, 277])), (.putfield 72, .inl (4, 17, [1, 277])), (.aload_n 0, .inl (0, 0, [])), (.aload_n 1, .inl (0, 0, [])), (.getfield 75, .inl (4, 18, [1, 279])), (.putfield 75, .inl (4, 18, [1, 279])), (.return_, .inl (0, 0, []))]
theorem sk_X4_copyFrom_0 : pp_chk mi_X4_copyFrom 216 0 (pp_cnt mi_X4_copyFrom 0) sg_X4_copyFrom_0 = true := by decide +kernel
def sg_X7_endOfRun_0 : pp_Seg := [(.aload_n 0, .inl (0, 0, [])), (.getfield 31, .inl (7, 4, [0, 333])), (.istore_n 3, .inl (0, 0, []))]
theorem sk_X7_endOfRun_0 : pp_chk mi_X7_endOfRun 5 0 (pp_cnt mi_X7_endOfRun 0) sg_X7_endOfRun_0 = true := by decide +kernel
def sg_X7_endOfRun_5 : pp_Seg := [(.iload_n 3, .inl (0, 0, [])), (.aload_n 0, .inl (0, 0, [])), (.getfield 21, .inl (7, 1, [0, 328])), (.if_icmp .ge 29, .inl (39, 0, [])), (.aload_n 0, .inl (0, 0, [])), (.getfield 9, .inl (7, 0, [2, 327])), (.iload_n 3, .inl (0, 0, [])), (.baload, .inl (0, 0, [])), (.iload_n 1, .inl (0, 0, [])), (.if_icmp .lt 19, .inl (39, 0, [])), (.aload_n 0, .inl (0, 0, [])), (.getfield 9, .inl (7, 0, [2, 327])), (.iload_n 3, .inl (0, 0, [])), (.baload, .inl (0, 0, [])), (.iload_n 2, .inl (0, 0, [])), (.if_icmp .gt 9, .inl (39, 0, [])), (.iinc 3 1, .inr (.inr (.int 1, 0))), (.goto (-31), .inl (5, 0, []))]
theorem sk_X7_endOfRun_5 : pp_chk mi_X7_endOfRun 39 5 (pp_cnt mi_X7_endOfRun 5) sg_X7_endOfRun_5 = true := by decide +kernel
def sg_X7_endOfRun_39 : pp_Seg := [(.iload_n 3, .inl (0, 0, [])), (.ireturn, .inl (0, 0, []))]
theorem sk_X7_endOfRun_39 : pp_chk mi_X7_endOfRun 41 39 (pp_cnt mi_X7_endOfRun 39) sg_X7_endOfRun_39 = true := by decide +kernel
def sg_X7_numberAtStart_0 : pp_Seg := [(.iconst 0, .inr (.inr (.int 0, 0))), (.istore_n 1, .inl (0, 0, [])), (.aload_n 0, .inl (0, 0, [])), (.getfield 31, .inl (7, 4, [0, 333])), (.istore_n 2, .inl (0, 0, []))]
theorem sk_X7_numberAtStart_0 : pp_chk mi_X7_numberAtStart 7 0 (pp_cnt mi_X7_numberAtStart 0) sg_X7_numberAtStart_0 = true := by decide +kernel
def sg_X7_numberAtStart_7 : pp_Seg := [(.iload_n 2, .inl (0, 0, [])), (.aload_n 0, .inl (0, 0, [])), (.getfield 25, .inl (7, 2, [0, 329])), (.if_icmp .ge 24, .inl (36, 0, [])), (.iload_n 1, .inl (0, 0, [])), (.bipush 10, .inr (.inr (.int 10, 0))), (.imul, .inl (0, 0, [])), (.aload_n 0, .inl (0, 0, [])), (.getfield 9, .inl (7, 0, [2, 327])), (.iload_n 2, .inl (0, 0, [])), (.baload, .inl (0, 0, [])), (.bipush 48, .inr (.inr (.int 48, 0))), (.isub, .inl (0, 0, [])), (.iadd, .inl (0, 0, [])), (.istore_n 1, .inl (0, 0, [])), (.iinc 2 1, .inr (.inr (.int 1, 0))), (.goto (-26), .inl (7, 0, []))]
theorem sk_X7_numberAtStart_7 : pp_chk mi_X7_numberAtStart 36 7 (pp_cnt mi_X7_numberAtStart 7) sg_X7_numberAtStart_7 = true := by decide +kernel
def sg_X7_numberAtStart_36 : pp_Seg := [(.iload_n 1, .inl (0, 0, [])), (.ireturn, .inl (0, 0, []))]
theorem sk_X7_numberAtStart_36 : pp_chk mi_X7_numberAtStart 38 36 (pp_cnt mi_X7_numberAtStart 36) sg_X7_numberAtStart_36 = true := by decide +kernel
def sg_X7_next_0 : pp_Seg := [(.aload_n 0, .inl (0, 0, [])), (.aload_n 0, .inl (0, 0, [])), (.getfield 25, .inl (7, 2, [0, 329])), (.putfield 31, .inl (7, 4, [0, 333]))]
theorem sk_X7_next_0 : pp_chk mi_X7_next 8 0 (pp_cnt mi_X7_next 0) sg_X7_next_0 = true := by decide +kernel
def sg_X7_next_8 : pp_Seg := [(.aload_n 0, .inl (0, 0, [])), (.getfield 31, .inl (7, 4, [0, 333])), (.aload_n 0, .inl (0, 0, [])), (.getfield 21, .inl (7, 1, [0, 328])), (.if_icmp .ge 44, .inl (60, 0, [])), (.aload_n 0, .inl (0, 0, [])), (.getfield 9, .inl (7, 0, [2, 327])), (.aload_n 0, .inl (0, 0, [])), (.getfield 31, .inl (7, 4, [0, 333])), (.baload, .inl (0, 0, [])), (.bipush 32, .inr (.inr (.int 32, 0))), (.if_icmp .eq 17, .inl (47, 0, [])), (.aload_n 0, .inl (0, 0, [])), (.getfield 9, .inl (7, 0, [2, 327])), (.aload_n 0, .inl (0, 0, [])), (.getfield 31, .inl (7, 4, [0, 333])), (.baload, .inl (0, 0, [])), (.bipush 10, .inr (.inr (.int 10, 0))), (.if_icmp .ne 16, .inl (60, 0, []))]
theorem sk_X7_next_8 : pp_chk mi_X7_next 47 8 (pp_cnt mi_X7_next 8) sg_X7_next_8 = true := by decide +kernel
def sg_X7_next_47 : pp_Seg := [(.aload_n 0, .inl (0, 0, [])), (.dup, .inl (0, 0, [])), (.getfield 31, .inl (7, 4, [0, 333])), (.iconst 1, .inr (.inr (.int 1, 0))), (.iadd, .inl (0, 0, [])), (.putfield 31, .inl (7, 4, [0, 333])), (.goto (-49), .inl (8, 0, []))]
theorem sk_X7_next_47 : pp_chk mi_X7_next 60 47 (pp_cnt mi_X7_next 47) sg_X7_next_47 = true := by decide +kernel
def sg_X7_next_60 : pp_Seg := [(.aload_n 0, .inl (0, 0, [])), (.iconst 0, .inr (.inr (.int 0, 0))), (.putfield 34, .inl (7, 5, [0, 334])), (.aload_n 0, .inl (0, 0, [])), (.getfield 31, .inl (7, 4, [0, 333])), (.aload_n 0, .inl (0, 0, [])), (.getfield 21, .inl (7, 1, [0, 328])), (.if_icmp .lt 19, .inl (92, 0, [])), (.aload_n 0, .inl (0, 0, [])), (.aload_n 0, .inl (0, 0, [])), (.getfield 31, .inl (7, 4, [0, 333])), (.putfield 25, .inl (7, 2, [0, 329])), (.aload_n 0, .inl (0, 0, [])), (.iconst 0, .inr (.inr (.int 0, 0))), (.putfield 37, .inl (7, 3, [0, 331])), (.goto 231, .inl (320, 0, []))]
theorem sk_X7_next_60 : pp_chk mi_X7_next 92 60 (pp_cnt mi_X7_next 60) sg_X7_next_60 = true := by decide +kernel
def sg_X7_next_92 : pp_Seg := [(.aload_n 0, .inl (0, 0, [])), (.getfield 9, .inl (7, 0, [2, 327])), (.aload_n 0, .inl (0, 0, [])), (.getfield 31, .inl (7, 4, [0, 333])), (.baload, .inl (0, 0, [])), (.bipush 97, .inr (.inr (.int 97, 0))), (.if_icmp .lt 55, .inl (158, 0, [])), (.aload_n 0, .inl (0, 0, [])), (.getfield 9, .inl (7, 0, [2, 327])), (.aload_n 0, .inl (0, 0, [])), (.getfield 31, .inl (7, 4, [0, 333])), (.baload, .inl (0, 0, [])), (.bipush 122, .inr (.inr (.int 122, 0))), (.if_icmp .gt 41, .inl (158, 0, [])), (.aload_n 0, .inl (0, 0, [])), (.aload_n 0, .inl (0, 0, [])), (.bipush 97, .inr (.inr (.int 97, 0))), (.bipush 122, .inr (.inr (.int 122, 0))), (.invokevirtual 40, .inr (.inl (mi_X7_endOfRun, 7, 661, [0, 0, 0]))), (.putfield 25, .inl (7, 2, [0, 329])), (.aload_n 0, .inl (0, 0, [])), (.aload_n 0, .inl (0, 0, [])), (.getfield 25, .inl (7, 2, [0, 329])), (.aload_n 0, .inl (0, 0, [])), (.getfield 31, .inl (7, 4, [0, 333])), (.isub, .inl (0, 0, [])), (.bipush 8, .inr (.inr (.int 8, 0))), (.if_icmp .gt 7, .inl (151, 0, [])), (.iconst 1, .inr (.inr (.int 1, 0))), (.goto 4, .inl (152, 0, []))]
theorem sk_X7_next_92 : pp_chk mi_X7_next 151 92 (pp_cnt mi_X7_next 92) sg_X7_next_92 = true := by decide +kernel
def sg_X7_next_151 : pp_Seg := [(.iconst 4, .inr (.inr (.int 4, 0)))]
theorem sk_X7_next_151 : pp_chk mi_X7_next 152 151 (pp_cnt mi_X7_next 151) sg_X7_next_151 = true := by decide +kernel
def sg_X7_next_152 : pp_Seg := [(.putfield 37, .inl (7, 3, [0, 331])), (.goto 165, .inl (320, 0, []))]
theorem sk_X7_next_152 : pp_chk mi_X7_next 158 152 (pp_cnt mi_X7_next 152) sg_X7_next_152 = true := by decide +kernel
def sg_X7_next_158 : pp_Seg := [(.aload_n 0, .inl (0, 0, [])), (.getfield 9, .inl (7, 0, [2, 327])), (.aload_n 0, .inl (0, 0, [])), (.getfield 31, .inl (7, 4, [0, 333])), (.baload, .inl (0, 0, [])), (.bipush 48, .inr (.inr (.int 48, 0))), (.if_icmp .lt 74, .inl (243, 0, [])), (.aload_n 0, .inl (0, 0, [])), (.getfield 9, .inl (7, 0, [2, 327])), (.aload_n 0, .inl (0, 0, [])), (.getfield 31, .inl (7, 4, [0, 333])), (.baload, .inl (0, 0, [])), (.bipush 57, .inr (.inr (.int 57, 0))), (.if_icmp .gt 60, .inl (243, 0, [])), (.aload_n 0, .inl (0, 0, [])), (.aload_n 0, .inl (0, 0, [])), (.bipush 48, .inr (.inr (.int 48, 0))), (.bipush 57, .inr (.inr (.int 57, 0))), (.invokevirtual 40, .inr (.inl (mi_X7_endOfRun, 7, 661, [0, 0, 0]))), (.putfield 25, .inl (7, 2, [0, 329])), (.aload_n 0, .inl (0, 0, [])), (.aload_n 0, .inl (0, 0, [])), (.getfield 25, .inl (7, 2, [0, 329])), (.aload_n 0, .inl (0, 0, [])), (.getfield 31, .inl (7, 4, [0, 333])), (.isub, .inl (0, 0, [])), (.iconst 4, .inr (.inr (.int 4, 0))), (.if_icmp .gt 7, .inl (216, 0, [])), (.iconst 2, .inr (.inr (.int 2, 0))), (.goto 4, .inl (217, 0, []))]
theorem sk_X7_next_158 : pp_chk mi_X7_next 216 158 (pp_cnt mi_X7_next 158) sg_X7_next_158 = true := by decide +kernel
def sg_X7_next_216 : pp_Seg := [(.iconst 4, .inr (.inr (.int 4, 0)))]
theorem sk_X7_next_216 : pp_chk mi_X7_next 217 216 (pp_cnt mi_X7_next 216) sg_X7_next_216 = true := by decide +kernel
def sg_X7_next_217 : pp_Seg := [(.putfield 37, .inl (7, 3, [0, 331])), (.aload_n 0, .inl (0, 0, [])), (.aload_n 0, .inl (0, 0, [])), (.getfield 37, .inl (7, 3, [0, 331])), (.iconst 2, .inr (.inr (.int 2, 0))), (.if_icmp .ne 10, .inl (236, 0, [])), (.aload_n 0, .inl (0, 0, [])), (.invokevirtual 43, .inr (.inl (mi_X7_numberAtStart, 7, 665, [0]))), (.goto 4, .inl (237, 0, []))]
theorem sk_X7_next_217 : pp_chk mi_X7_next 236 217 (pp_cnt mi_X7_next 217) sg_X7_next_217 = true := by decide +kernel
def sg_X7_next_236 : pp_Seg := [(.iconst 0, .inr (.inr (.int 0, 0)))]
theorem sk_X7_next_236 : pp_chk mi_X7_next 237 236 (pp_cnt mi_X7_next 236) sg_X7_next_236 = true := by decide +kernel
def sg_X7_next_237 : pp_Seg := [(.putfield 34, .inl (7, 5, [0, 334])), (.goto 80, .inl (320, 0, []))]
theorem sk_X7_next_237 : pp_chk mi_X7_next 243 237 (pp_cnt mi_X7_next 237) sg_X7_next_237 = true := by decide +kernel
def sg_X7_next_243 : pp_Seg := [(.aload_n 0, .inl (0, 0, [])), (.aload_n 0, .inl (0, 0, [])), (.getfield 31, .inl (7, 4, [0, 333])), (.iconst 1, .inr (.inr (.int 1, 0))), (.iadd, .inl (0, 0, [])), (.putfield 25, .inl (7, 2, [0, 329])), (.aload_n 0, .inl (0, 0, [])), (.aload_n 0, .inl (0, 0, [])), (.getfield 9, .inl (7, 0, [2, 327])), (.aload_n 0, .inl (0, 0, [])), (.getfield 31, .inl (7, 4, [0, 333])), (.baload, .inl (0, 0, [])), (.putfield 34, .inl (7, 5, [0, 334])), (.aload_n 0, .inl (0, 0, [])), (.aload_n 0, .inl (0, 0, [])), (.getfield 34, .inl (7, 5, [0, 334])), (.bipush 59, .inr (.inr (.int 59, 0))), (.if_icmp .eq 39, .inl (312, 0, [])), (.aload_n 0, .inl (0, 0, [])), (.getfield 34, .inl (7, 5, [0, 334])), (.bipush 40, .inr (.inr (.int 40, 0))), (.if_icmp .lt 12, .inl (294, 0, [])), (.aload_n 0, .inl (0, 0, [])), (.getfield 34, .inl (7, 5, [0, 334])), (.bipush 43, .inr (.inr (.int 43, 0))), (.if_icmp .le 21, .inl (312, 0, []))]
theorem sk_X7_next_243 : pp_chk mi_X7_next 294 243 (pp_cnt mi_X7_next 243) sg_X7_next_243 = true := by decide +kernel
def sg_X7_next_294 : pp_Seg := [(.aload_n 0, .inl (0, 0, [])), (.getfield 34, .inl (7, 5, [0, 334])), (.bipush 45, .inr (.inr (.int 45, 0))), (.if_icmp .eq 12, .inl (312, 0, [])), (.aload_n 0, .inl (0, 0, [])), (.getfield 34, .inl (7, 5, [0, 334])), (.bipush 47, .inr (.inr (.int 47, 0))), (.if_icmp .ne 7, .inl (316, 0, []))]
theorem sk_X7_next_294 : pp_chk mi_X7_next 312 294 (pp_cnt mi_X7_next 294) sg_X7_next_294 = true := by decide +kernel
def sg_X7_next_312 : pp_Seg := [(.iconst 3, .inr (.inr (.int 3, 0))), (.goto 4, .inl (317, 0, []))]
theorem sk_X7_next_312 : pp_chk mi_X7_next 316 312 (pp_cnt mi_X7_next 312) sg_X7_next_312 = true := by decide +kernel
def sg_X7_next_316 : pp_Seg := [(.iconst 4, .inr (.inr (.int 4, 0)))]
theorem sk_X7_next_316 : pp_chk mi_X7_next 317 316 (pp_cnt mi_X7_next 316) sg_X7_next_316 = true := by decide +kernel
def sg_X7_next_317 : pp_Seg := [(.putfield 37, .inl (7, 3, [0, 331]))]
theorem sk_X7_next_317 : pp_chk mi_X7_next 320 317 (pp_cnt mi_X7_next 317) sg_X7_next_317 = true := by decide +kernel
def sg_X7_next_320 : pp_Seg := [(.return_, .inl (0, 0, []))]
theorem sk_X7_next_320 : pp_chk mi_X7_next 321 320 (pp_cnt mi_X7_next 320) sg_X7_next_320 = true := by decide +kernel
def sg_X7_begin_0 : pp_Seg := [(.aload_n 0, .inl (0, 0, [])), (.iload_n 1, .inl (0, 0, [])), (.aload_n 0, .inl (0, 0, [])), (.getfield 9, .inl (7, 0, [2, 327])), (.arraylength, .inl (0, 0, [])), (.invokestatic 15, .inl (2, 656, [])), (.putfield 21, .inl (7, 1, [0, 328])), (.aload_n 0, .inl (0, 0, [])), (.iconst 0, .inr (.inr (.int 0, 0))), (.putfield 25, .inl (7, 2, [0, 329])), (.aload_n 0, .inl (0, 0, [])), (.invokevirtual 28, .inr (.inl (mi_X7_next, 7, 657, [0]))), (.return_, .inl (0, 0, []))]
theorem sk_X7_begin_0 : pp_chk mi_X7_begin 23 0 (pp_cnt mi_X7_begin 0) sg_X7_begin_0 = true := by decide +kernel
def sg_X7_isWord_0 : pp_Seg := [(.aload_n 0, .inl (0, 0, [])), (.getfield 37, .inl (7, 3, [0, 331])), (.iconst 1, .inr (.inr (.int 1, 0))), (.if_icmp .ne 19, .inl (24, 0, [])), (.aload_n 0, .inl (0, 0, [])), (.getfield 25, .inl (7, 2, [0, 329])), (.aload_n 0, .inl (0, 0, [])), (.getfield 31, .inl (7, 4, [0, 333])), (.isub, .inl (0, 0, [])), (.aload_n 1, .inl (0, 0, [])), (.invokevirtual 47, .inr (.inl (mi_J0_length_8abf5, 0, 682, [1]))), (.if_icmp .eq 5, .inl (26, 0, []))]
theorem sk_X7_isWord_0 : pp_chk mi_X7_isWord 24 0 (pp_cnt mi_X7_isWord 0) sg_X7_isWord_0 = true := by decide +kernel
def sg_X7_isWord_24 : pp_Seg := [(.iconst 0, .inr (.inr (.int 0, 0))), (.ireturn, .inl (0, 0, []))]
theorem sk_X7_isWord_24 : pp_chk mi_X7_isWord 26 24 (pp_cnt mi_X7_isWord 24) sg_X7_isWord_24 = true := by decide +kernel
def sg_X7_isWord_26 : pp_Seg := [(.iconst 0, .inr (.inr (.int 0, 0))), (.istore_n 2, .inl (0, 0, []))]
theorem sk_X7_isWord_26 : pp_chk mi_X7_isWord 28 26 (pp_cnt mi_X7_isWord 26) sg_X7_isWord_26 = true := by decide +kernel
def sg_X7_isWord_28 : pp_Seg := [(.iload_n 2, .inl (0, 0, [])), (.aload_n 1, .inl (0, 0, [])), (.invokevirtual 47, .inr (.inl (mi_J0_length_8abf5, 0, 682, [1]))), (.if_icmp .ge 30, .inl (63, 0, [])), (.aload_n 0, .inl (0, 0, [])), (.getfield 9, .inl (7, 0, [2, 327])), (.aload_n 0, .inl (0, 0, [])), (.getfield 31, .inl (7, 4, [0, 333])), (.iload_n 2, .inl (0, 0, [])), (.iadd, .inl (0, 0, [])), (.baload, .inl (0, 0, [])), (.aload_n 1, .inl (0, 0, [])), (.iload_n 2, .inl (0, 0, [])), (.invokevirtual 51, .inr (.inl (mi_J0_charAt_5068e, 0, 692, [1, 0]))), (.if_icmp .eq 5, .inl (57, 0, [])), (.iconst 0, .inr (.inr (.int 0, 0))), (.ireturn, .inl (0, 0, []))]
theorem sk_X7_isWord_28 : pp_chk mi_X7_isWord 57 28 (pp_cnt mi_X7_isWord 28) sg_X7_isWord_28 = true := by decide +kernel
def sg_X7_isWord_57 : pp_Seg := [(.iinc 2 1, .inr (.inr (.int 1, 0))), (.goto (-32), .inl (28, 0, []))]
theorem sk_X7_isWord_57 : pp_chk mi_X7_isWord 63 57 (pp_cnt mi_X7_isWord 57) sg_X7_isWord_57 = true := by decide +kernel
def sg_X7_isWord_63 : pp_Seg := [(.iconst 1, .inr (.inr (.int 1, 0))), (.ireturn, .inl (0, 0, []))]
theorem sk_X7_isWord_63 : pp_chk mi_X7_isWord 65 63 (pp_cnt mi_X7_isWord 63) sg_X7_isWord_63 = true := by decide +kernel
def sg_X5_statementAtToken_0 : pp_Seg := [(.aload_n 0, .inl (0, 0, [])), (.getfield 33, .inl (5, 3, [2, 354])), (.ldc 94, .inr (.inr (.ref 1, 0))), (.invokevirtual 96, .inr (.inl (mi_X7_isWord, 7, 678, [0, 0]))), (.ifCond .eq 5, .inl (14, 0, [])), (.iconst 0, .inr (.inr (.int 0, 0))), (.ireturn, .inl (0, 0, []))]
theorem sk_X5_statementAtToken_0 : pp_chk mi_X5_statementAtToken 14 0 (pp_cnt mi_X5_statementAtToken 0) sg_X5_statementAtToken_0 = true := by decide +kernel
def sg_X5_statementAtToken_14 : pp_Seg := [(.aload_n 0, .inl (0, 0, [])), (.getfield 33, .inl (5, 3, [2, 354])), (.ldc 100, .inr (.inr (.ref 2, 1))), (.invokevirtual 96, .inr (.inl (mi_X7_isWord, 7, 678, [0, 0]))), (.ifCond .eq 5, .inl (28, 0, [])), (.iconst 1, .inr (.inr (.int 1, 0))), (.ireturn, .inl (0, 0, []))]
theorem sk_X5_statementAtToken_14 : pp_chk mi_X5_statementAtToken 28 14 (pp_cnt mi_X5_statementAtToken 14) sg_X5_statementAtToken_14 = true := by decide +kernel
def sg_X5_statementAtToken_28 : pp_Seg := [(.aload_n 0, .inl (0, 0, [])), (.getfield 33, .inl (5, 3, [2, 354])), (.ldc 102, .inr (.inr (.ref 3, 2))), (.invokevirtual 96, .inr (.inl (mi_X7_isWord, 7, 678, [0, 0]))), (.ifCond .eq 5, .inl (42, 0, [])), (.iconst 2, .inr (.inr (.int 2, 0))), (.ireturn, .inl (0, 0, []))]
theorem sk_X5_statementAtToken_28 : pp_chk mi_X5_statementAtToken 42 28 (pp_cnt mi_X5_statementAtToken 28) sg_X5_statementAtToken_28 = true := by decide +kernel
def sg_X5_statementAtToken_42 : pp_Seg := [(.aload_n 0, .inl (0, 0, [])), (.getfield 33, .inl (5, 3, [2, 354])), (.ldc 104, .inr (.inr (.ref 4, 3))), (.invokevirtual 96, .inr (.inl (mi_X7_isWord, 7, 678, [0, 0]))), (.ifCond .eq 5, .inl (56, 0, [])), (.iconst 3, .inr (.inr (.int 3, 0))), (.ireturn, .inl (0, 0, []))]
theorem sk_X5_statementAtToken_42 : pp_chk mi_X5_statementAtToken 56 42 (pp_cnt mi_X5_statementAtToken 42) sg_X5_statementAtToken_42 = true := by decide +kernel
def sg_X5_statementAtToken_56 : pp_Seg := [(.aload_n 0, .inl (0, 0, [])), (.getfield 33, .inl (5, 3, [2, 354])), (.ldc 106, .inr (.inr (.ref 5, 4))), (.invokevirtual 96, .inr (.inl (mi_X7_isWord, 7, 678, [0, 0]))), (.ifCond .eq 5, .inl (70, 0, [])), (.iconst 4, .inr (.inr (.int 4, 0))), (.ireturn, .inl (0, 0, []))]
theorem sk_X5_statementAtToken_56 : pp_chk mi_X5_statementAtToken 70 56 (pp_cnt mi_X5_statementAtToken 56) sg_X5_statementAtToken_56 = true := by decide +kernel
def sg_X5_statementAtToken_70 : pp_Seg := [(.aload_n 0, .inl (0, 0, [])), (.getfield 33, .inl (5, 3, [2, 354])), (.ldc 108, .inr (.inr (.ref 6, 5))), (.invokevirtual 96, .inr (.inl (mi_X7_isWord, 7, 678, [0, 0]))), (.ifCond .eq 5, .inl (84, 0, [])), (.iconst 5, .inr (.inr (.int 5, 0))), (.ireturn, .inl (0, 0, []))]
theorem sk_X5_statementAtToken_70 : pp_chk mi_X5_statementAtToken 84 70 (pp_cnt mi_X5_statementAtToken 70) sg_X5_statementAtToken_70 = true := by decide +kernel
def sg_X5_statementAtToken_84 : pp_Seg := [(.aload_n 0, .inl (0, 0, [])), (.getfield 33, .inl (5, 3, [2, 354])), (.ldc 110, .inr (.inr (.ref 7, 6))), (.invokevirtual 96, .inr (.inl (mi_X7_isWord, 7, 678, [0, 0]))), (.ifCond .eq 6, .inl (99, 0, [])), (.bipush 6, .inr (.inr (.int 6, 0))), (.ireturn, .inl (0, 0, []))]
theorem sk_X5_statementAtToken_84 : pp_chk mi_X5_statementAtToken 99 84 (pp_cnt mi_X5_statementAtToken 84) sg_X5_statementAtToken_84 = true := by decide +kernel
def sg_X5_statementAtToken_99 : pp_Seg := [(.aload_n 0, .inl (0, 0, [])), (.getfield 33, .inl (5, 3, [2, 354])), (.ldc 112, .inr (.inr (.ref 8, 7))), (.invokevirtual 96, .inr (.inl (mi_X7_isWord, 7, 678, [0, 0]))), (.ifCond .eq 6, .inl (114, 0, [])), (.bipush 7, .inr (.inr (.int 7, 0))), (.ireturn, .inl (0, 0, []))]
theorem sk_X5_statementAtToken_99 : pp_chk mi_X5_statementAtToken 114 99 (pp_cnt mi_X5_statementAtToken 99) sg_X5_statementAtToken_99 = true := by decide +kernel
def sg_X5_statementAtToken_114 : pp_Seg := [(.aload_n 0, .inl (0, 0, [])), (.getfield 33, .inl (5, 3, [2, 354])), (.ldc 114, .inr (.inr (.ref 9, 8))), (.invokevirtual 96, .inr (.inl (mi_X7_isWord, 7, 678, [0, 0]))), (.ifCond .eq 6, .inl (129, 0, [])), (.bipush 8, .inr (.inr (.int 8, 0))), (.ireturn, .inl (0, 0, []))]
theorem sk_X5_statementAtToken_114 : pp_chk mi_X5_statementAtToken 129 114 (pp_cnt mi_X5_statementAtToken 114) sg_X5_statementAtToken_114 = true := by decide +kernel
def sg_X5_statementAtToken_129 : pp_Seg := [(.aload_n 0, .inl (0, 0, [])), (.getfield 33, .inl (5, 3, [2, 354])), (.ldc 116, .inr (.inr (.ref 10, 9))), (.invokevirtual 96, .inr (.inl (mi_X7_isWord, 7, 678, [0, 0]))), (.ifCond .eq 6, .inl (144, 0, [])), (.bipush 9, .inr (.inr (.int 9, 0))), (.ireturn, .inl (0, 0, []))]
theorem sk_X5_statementAtToken_129 : pp_chk mi_X5_statementAtToken 144 129 (pp_cnt mi_X5_statementAtToken 129) sg_X5_statementAtToken_129 = true := by decide +kernel
def sg_X5_statementAtToken_144 : pp_Seg := [(.aload_n 0, .inl (0, 0, [])), (.getfield 33, .inl (5, 3, [2, 354])), (.ldc 118, .inr (.inr (.ref 11, 10))), (.invokevirtual 96, .inr (.inl (mi_X7_isWord, 7, 678, [0, 0]))), (.ifCond .eq 6, .inl (159, 0, [])), (.bipush 10, .inr (.inr (.int 10, 0))), (.ireturn, .inl (0, 0, []))]
theorem sk_X5_statementAtToken_144 : pp_chk mi_X5_statementAtToken 159 144 (pp_cnt mi_X5_statementAtToken 144) sg_X5_statementAtToken_144 = true := by decide +kernel
def sg_X5_statementAtToken_159 : pp_Seg := [(.aload_n 0, .inl (0, 0, [])), (.getfield 33, .inl (5, 3, [2, 354])), (.ldc 120, .inr (.inr (.ref 12, 11))), (.invokevirtual 96, .inr (.inl (mi_X7_isWord, 7, 678, [0, 0]))), (.ifCond .eq 6, .inl (174, 0, [])), (.bipush 11, .inr (.inr (.int 11, 0))), (.ireturn, .inl (0, 0, []))]
theorem sk_X5_statementAtToken_159 : pp_chk mi_X5_statementAtToken 174 159 (pp_cnt mi_X5_statementAtToken 159) sg_X5_statementAtToken_159 = true := by decide +kernel
def sg_X5_statementAtToken_174 : pp_Seg := [(.iconst (-1), .inr (.inr (.int (-1), 0))), (.ireturn, .inl (0, 0, []))]
theorem sk_X5_statementAtToken_174 : pp_chk mi_X5_statementAtToken 176 174 (pp_cnt mi_X5_statementAtToken 174) sg_X5_statementAtToken_174 = true := by decide +kernel
def sg_X5_admit_0 : pp_Seg := [(.iload_n 1, .inl (0, 0, [])), (.tableswitch 108 (-1) 3 #[35, 37, 55, 72, 90], .inl (109, 35, [36, 38, 56, 73, 91]))]
theorem sk_X5_admit_0 : pp_chk mi_X5_admit 36 0 (pp_cnt mi_X5_admit 0) sg_X5_admit_0 = true := by decide +kernel
def sg_X5_admit_36 : pp_Seg := [(.iconst 1, .inr (.inr (.int 1, 0))), (.ireturn, .inl (0, 0, []))]
theorem sk_X5_admit_36 : pp_chk mi_X5_admit 38 36 (pp_cnt mi_X5_admit 36) sg_X5_admit_36 = true := by decide +kernel
def sg_X5_admit_38 : pp_Seg := [(.aload_n 0, .inl (0, 0, [])), (.getfield 21, .inl (5, 1, [2, 351])), (.getfield 122, .inl (4, 2, [0, 241])), (.bipush 8, .inr (.inr (.int 8, 0))), (.if_icmp .ge 7, .inl (54, 0, [])), (.iconst 0, .inr (.inr (.int 0, 0))), (.goto 4, .inl (55, 0, []))]
theorem sk_X5_admit_38 : pp_chk mi_X5_admit 54 38 (pp_cnt mi_X5_admit 38) sg_X5_admit_38 = true := by decide +kernel
def sg_X5_admit_54 : pp_Seg := [(.iconst 4, .inr (.inr (.int 4, 0)))]
theorem sk_X5_admit_54 : pp_chk mi_X5_admit 55 54 (pp_cnt mi_X5_admit 54) sg_X5_admit_54 = true := by decide +kernel
def sg_X5_admit_55 : pp_Seg := [(.ireturn, .inl (0, 0, []))]
theorem sk_X5_admit_55 : pp_chk mi_X5_admit 56 55 (pp_cnt mi_X5_admit 55) sg_X5_admit_55 = true := by decide +kernel
def sg_X5_admit_56 : pp_Seg := [(.aload_n 0, .inl (0, 0, [])), (.getfield 12, .inl (5, 0, [2, 349])), (.getfield 125, .inl (6, 0, [0, 152])), (.iconst 4, .inr (.inr (.int 4, 0))), (.if_icmp .ge 7, .inl (71, 0, [])), (.iconst 0, .inr (.inr (.int 0, 0))), (.goto 4, .inl (72, 0, []))]
theorem sk_X5_admit_56 : pp_chk mi_X5_admit 71 56 (pp_cnt mi_X5_admit 56) sg_X5_admit_56 = true := by decide +kernel
def sg_X5_admit_71 : pp_Seg := [(.iconst 4, .inr (.inr (.int 4, 0)))]
theorem sk_X5_admit_71 : pp_chk mi_X5_admit 72 71 (pp_cnt mi_X5_admit 71) sg_X5_admit_71 = true := by decide +kernel
def sg_X5_admit_72 : pp_Seg := [(.ireturn, .inl (0, 0, []))]
theorem sk_X5_admit_72 : pp_chk mi_X5_admit 73 72 (pp_cnt mi_X5_admit 72) sg_X5_admit_72 = true := by decide +kernel
def sg_X5_admit_73 : pp_Seg := [(.aload_n 0, .inl (0, 0, [])), (.getfield 21, .inl (5, 1, [2, 351])), (.getfield 128, .inl (4, 4, [0, 246])), (.bipush 16, .inr (.inr (.int 16, 0))), (.if_icmp .ge 7, .inl (89, 0, [])), (.iconst 0, .inr (.inr (.int 0, 0))), (.goto 4, .inl (90, 0, []))]
theorem sk_X5_admit_73 : pp_chk mi_X5_admit 89 73 (pp_cnt mi_X5_admit 73) sg_X5_admit_73 = true := by decide +kernel
def sg_X5_admit_89 : pp_Seg := [(.iconst 4, .inr (.inr (.int 4, 0)))]
theorem sk_X5_admit_89 : pp_chk mi_X5_admit 90 89 (pp_cnt mi_X5_admit 89) sg_X5_admit_89 = true := by decide +kernel
def sg_X5_admit_90 : pp_Seg := [(.ireturn, .inl (0, 0, []))]
theorem sk_X5_admit_90 : pp_chk mi_X5_admit 91 90 (pp_cnt mi_X5_admit 90) sg_X5_admit_90 = true := by decide +kernel
def sg_X5_admit_91 : pp_Seg := [(.aload_n 0, .inl (0, 0, [])), (.getfield 12, .inl (5, 0, [2, 349])), (.getfield 131, .inl (6, 3, [0, 160])), (.bipush 6, .inr (.inr (.int 6, 0))), (.if_icmp .ge 7, .inl (107, 0, [])), (.iconst 0, .inr (.inr (.int 0, 0))), (.goto 4, .inl (108, 0, []))]
theorem sk_X5_admit_91 : pp_chk mi_X5_admit 107 91 (pp_cnt mi_X5_admit 91) sg_X5_admit_91 = true := by decide +kernel
def sg_X5_admit_107 : pp_Seg := [(.iconst 4, .inr (.inr (.int 4, 0)))]
theorem sk_X5_admit_107 : pp_chk mi_X5_admit 108 107 (pp_cnt mi_X5_admit 107) sg_X5_admit_107 = true := by decide +kernel
def sg_X5_admit_108 : pp_Seg := [(.ireturn, .inl (0, 0, []))]
theorem sk_X5_admit_108 : pp_chk mi_X5_admit 109 108 (pp_cnt mi_X5_admit 108) sg_X5_admit_108 = true := by decide +kernel
def sg_X5_admit_109 : pp_Seg := [(.aload_n 0, .inl (0, 0, [])), (.getfield 48, .inl (5, 4, [0, 355])), (.iload_n 1, .inl (0, 0, [])), (.ishr, .inl (0, 0, [])), (.iconst 1, .inr (.inr (.int 1, 0))), (.iand, .inl (0, 0, [])), (.ifCond .ne 7, .inl (124, 0, [])), (.iconst 0, .inr (.inr (.int 0, 0))), (.goto 4, .inl (125, 0, []))]
theorem sk_X5_admit_109 : pp_chk mi_X5_admit 124 109 (pp_cnt mi_X5_admit 109) sg_X5_admit_109 = true := by decide +kernel
def sg_X5_admit_124 : pp_Seg := [(.iconst 2, .inr (.inr (.int 2, 0)))]
theorem sk_X5_admit_124 : pp_chk mi_X5_admit 125 124 (pp_cnt mi_X5_admit 124) sg_X5_admit_124 = true := by decide +kernel
def sg_X5_admit_125 : pp_Seg := [(.ireturn, .inl (0, 0, []))]
theorem sk_X5_admit_125 : pp_chk mi_X5_admit 126 125 (pp_cnt mi_X5_admit 125) sg_X5_admit_125 = true := by decide +kernel
def sg_X7_isSign_0 : pp_Seg := [(.aload_n 0, .inl (0, 0, [])), (.getfield 37, .inl (7, 3, [0, 331])), (.iconst 3, .inr (.inr (.int 3, 0))), (.if_icmp .ne 15, .inl (20, 0, [])), (.aload_n 0, .inl (0, 0, [])), (.getfield 34, .inl (7, 5, [0, 334])), (.iload_n 1, .inl (0, 0, [])), (.if_icmp .ne 7, .inl (20, 0, [])), (.iconst 1, .inr (.inr (.int 1, 0))), (.goto 4, .inl (21, 0, []))]
theorem sk_X7_isSign_0 : pp_chk mi_X7_isSign 20 0 (pp_cnt mi_X7_isSign 0) sg_X7_isSign_0 = true := by decide +kernel
def sg_X7_isSign_20 : pp_Seg := [(.iconst 0, .inr (.inr (.int 0, 0)))]
theorem sk_X7_isSign_20 : pp_chk mi_X7_isSign 21 20 (pp_cnt mi_X7_isSign 20) sg_X7_isSign_20 = true := by decide +kernel
def sg_X7_isSign_21 : pp_Seg := [(.ireturn, .inl (0, 0, []))]
theorem sk_X7_isSign_21 : pp_chk mi_X7_isSign 22 21 (pp_cnt mi_X7_isSign 21) sg_X7_isSign_21 = true := by decide +kernel
def sg_X5_readFactor_0 : pp_Seg := [(.aload_n 0, .inl (0, 0, [])), (.getfield 33, .inl (5, 3, [2, 354])), (.bipush 40, .inr (.inr (.int 40, 0))), (.invokevirtual 87, .inr (.inl (mi_X7_isSign, 7, 759, [0, 0]))), (.ifCond .eq 48, .inl (57, 0, [])), (.iload_n 1, .inl (0, 0, [])), (.iconst 5, .inr (.inr (.int 5, 0))), (.if_icmp .lt 5, .inl (19, 0, [])), (.iconst 4, .inr (.inr (.int 4, 0))), (.ireturn, .inl (0, 0, []))]
theorem sk_X5_readFactor_0 : pp_chk mi_X5_readFactor 19 0 (pp_cnt mi_X5_readFactor 0) sg_X5_readFactor_0 = true := by decide +kernel
def sg_X5_readFactor_19 : pp_Seg := [(.aload_n 0, .inl (0, 0, [])), (.getfield 33, .inl (5, 3, [2, 354])), (.invokevirtual 69, .inr (.inl (mi_X7_next, 7, 745, [0]))), (.aload_n 0, .inl (0, 0, [])), (.iload_n 1, .inl (0, 0, [])), (.iconst 1, .inr (.inr (.int 1, 0))), (.iadd, .inl (0, 0, [])), (.invokevirtual 81, .inr (.inl (mi_X5_readSum, 5, 747, [0, 0]))), (.istore_n 2, .inl (0, 0, [])), (.iload_n 2, .inl (0, 0, [])), (.ifCond .eq 5, .inl (40, 0, [])), (.iload_n 2, .inl (0, 0, [])), (.ireturn, .inl (0, 0, []))]
theorem sk_X5_readFactor_19 : pp_chk mi_X5_readFactor 40 19 (pp_cnt mi_X5_readFactor 19) sg_X5_readFactor_19 = true := by decide +kernel
def sg_X5_readFactor_40 : pp_Seg := [(.aload_n 0, .inl (0, 0, [])), (.getfield 33, .inl (5, 3, [2, 354])), (.bipush 41, .inr (.inr (.int 41, 0))), (.invokevirtual 87, .inr (.inl (mi_X7_isSign, 7, 759, [0, 0]))), (.ifCond .ne 5, .inl (54, 0, [])), (.iconst 1, .inr (.inr (.int 1, 0))), (.ireturn, .inl (0, 0, []))]
theorem sk_X5_readFactor_40 : pp_chk mi_X5_readFactor 54 40 (pp_cnt mi_X5_readFactor 40) sg_X5_readFactor_40 = true := by decide +kernel
def sg_X5_readFactor_54 : pp_Seg := [(.goto 116, .inl (170, 0, []))]
theorem sk_X5_readFactor_54 : pp_chk mi_X5_readFactor 57 54 (pp_cnt mi_X5_readFactor 54) sg_X5_readFactor_54 = true := by decide +kernel
def sg_X5_readFactor_57 : pp_Seg := [(.aload_n 0, .inl (0, 0, [])), (.getfield 33, .inl (5, 3, [2, 354])), (.getfield 55, .inl (7, 3, [0, 330])), (.iconst 2, .inr (.inr (.int 2, 0))), (.if_icmp .ne 23, .inl (88, 0, [])), (.aload_n 0, .inl (0, 0, [])), (.getfield 12, .inl (5, 0, [2, 349])), (.getfield 72, .inl (6, 15, [2, 195])), (.aload_n 0, .inl (0, 0, [])), (.getfield 33, .inl (5, 3, [2, 354])), (.getfield 148, .inl (7, 5, [0, 335])), (.invokevirtual 196, .inr (.inl (mi_X2_add, 2, 763, [0, 0]))), (.goto 85, .inl (170, 0, []))]
theorem sk_X5_readFactor_57 : pp_chk mi_X5_readFactor 88 57 (pp_cnt mi_X5_readFactor 57) sg_X5_readFactor_57 = true := by decide +kernel
def sg_X5_readFactor_88 : pp_Seg := [(.aload_n 0, .inl (0, 0, [])), (.getfield 33, .inl (5, 3, [2, 354])), (.ldc 202, .inr (.inr (.ref 13, 12))), (.invokevirtual 96, .inr (.inl (mi_X7_isWord, 7, 678, [0, 0]))), (.ifCond .eq 17, .inl (114, 0, [])), (.aload_n 0, .inl (0, 0, [])), (.getfield 12, .inl (5, 0, [2, 349])), (.getfield 72, .inl (6, 15, [2, 195])), (.iconst (-1), .inr (.inr (.int (-1), 0))), (.invokevirtual 196, .inr (.inl (mi_X2_add, 2, 763, [0, 0]))), (.goto 59, .inl (170, 0, []))]
theorem sk_X5_readFactor_88 : pp_chk mi_X5_readFactor 114 88 (pp_cnt mi_X5_readFactor 88) sg_X5_readFactor_88 = true := by decide +kernel
def sg_X5_readFactor_114 : pp_Seg := [(.aload_n 0, .inl (0, 0, [])), (.getfield 33, .inl (5, 3, [2, 354])), (.ldc 203, .inr (.inr (.ref 14, 13))), (.invokevirtual 96, .inr (.inl (mi_X7_isWord, 7, 678, [0, 0]))), (.ifCond .eq 18, .inl (141, 0, [])), (.aload_n 0, .inl (0, 0, [])), (.getfield 12, .inl (5, 0, [2, 349])), (.getfield 72, .inl (6, 15, [2, 195])), (.bipush (-2), .inr (.inr (.int (-2), 0))), (.invokevirtual 196, .inr (.inl (mi_X2_add, 2, 763, [0, 0]))), (.goto 32, .inl (170, 0, []))]
theorem sk_X5_readFactor_114 : pp_chk mi_X5_readFactor 141 114 (pp_cnt mi_X5_readFactor 114) sg_X5_readFactor_114 = true := by decide +kernel
def sg_X5_readFactor_141 : pp_Seg := [(.aload_n 0, .inl (0, 0, [])), (.getfield 33, .inl (5, 3, [2, 354])), (.ldc 205, .inr (.inr (.ref 15, 14))), (.invokevirtual 96, .inr (.inl (mi_X7_isWord, 7, 678, [0, 0]))), (.ifCond .eq 18, .inl (168, 0, [])), (.aload_n 0, .inl (0, 0, [])), (.getfield 12, .inl (5, 0, [2, 349])), (.getfield 72, .inl (6, 15, [2, 195])), (.bipush (-3), .inr (.inr (.int (-3), 0))), (.invokevirtual 196, .inr (.inl (mi_X2_add, 2, 763, [0, 0]))), (.goto 5, .inl (170, 0, []))]
theorem sk_X5_readFactor_141 : pp_chk mi_X5_readFactor 168 141 (pp_cnt mi_X5_readFactor 141) sg_X5_readFactor_141 = true := by decide +kernel
def sg_X5_readFactor_168 : pp_Seg := [(.iconst 1, .inr (.inr (.int 1, 0))), (.ireturn, .inl (0, 0, []))]
theorem sk_X5_readFactor_168 : pp_chk mi_X5_readFactor 170 168 (pp_cnt mi_X5_readFactor 168) sg_X5_readFactor_168 = true := by decide +kernel
def sg_X5_readFactor_170 : pp_Seg := [(.aload_n 0, .inl (0, 0, [])), (.getfield 33, .inl (5, 3, [2, 354])), (.invokevirtual 69, .inr (.inl (mi_X7_next, 7, 745, [0]))), (.iconst 0, .inr (.inr (.int 0, 0))), (.ireturn, .inl (0, 0, []))]
theorem sk_X5_readFactor_170 : pp_chk mi_X5_readFactor 179 170 (pp_cnt mi_X5_readFactor 170) sg_X5_readFactor_170 = true := by decide +kernel
def sg_X5_readTerm_0 : pp_Seg := [(.aload_n 0, .inl (0, 0, [])), (.iload_n 1, .inl (0, 0, [])), (.invokevirtual 199, .inr (.inl (mi_X5_readFactor, 5, 755, [0, 0]))), (.istore_n 2, .inl (0, 0, [])), (.iconst 0, .inr (.inr (.int 0, 0))), (.istore_n 3, .inl (0, 0, []))]
theorem sk_X5_readTerm_0 : pp_chk mi_X5_readTerm 8 0 (pp_cnt mi_X5_readTerm 0) sg_X5_readTerm_0 = true := by decide +kernel
def sg_X5_readTerm_8 : pp_Seg := [(.iload_n 3, .inl (0, 0, [])), (.sipush 700, .inr (.inr (.int 700, 0))), (.if_icmp .ge 83, .inl (95, 0, [])), (.iload_n 2, .inl (0, 0, [])), (.ifCond .ne 79, .inl (95, 0, [])), (.aload_n 0, .inl (0, 0, [])), (.getfield 33, .inl (5, 3, [2, 354])), (.bipush 42, .inr (.inr (.int 42, 0))), (.invokevirtual 87, .inr (.inl (mi_X7_isSign, 7, 759, [0, 0]))), (.ifCond .ne 15, .inl (43, 0, [])), (.aload_n 0, .inl (0, 0, [])), (.getfield 33, .inl (5, 3, [2, 354])), (.bipush 47, .inr (.inr (.int 47, 0))), (.invokevirtual 87, .inr (.inl (mi_X7_isSign, 7, 759, [0, 0]))), (.ifCond .eq 55, .inl (95, 0, []))]
theorem sk_X5_readTerm_8 : pp_chk mi_X5_readTerm 43 8 (pp_cnt mi_X5_readTerm 8) sg_X5_readTerm_8 = true := by decide +kernel
def sg_X5_readTerm_43 : pp_Seg := [(.aload_n 0, .inl (0, 0, [])), (.getfield 33, .inl (5, 3, [2, 354])), (.bipush 42, .inr (.inr (.int 42, 0))), (.invokevirtual 87, .inr (.inl (mi_X7_isSign, 7, 759, [0, 0]))), (.ifCond .eq 8, .inl (60, 0, [])), (.bipush (-6), .inr (.inr (.int (-6), 0))), (.goto 5, .inl (62, 0, []))]
theorem sk_X5_readTerm_43 : pp_chk mi_X5_readTerm 60 43 (pp_cnt mi_X5_readTerm 43) sg_X5_readTerm_43 = true := by decide +kernel
def sg_X5_readTerm_60 : pp_Seg := [(.bipush (-7), .inr (.inr (.int (-7), 0)))]
theorem sk_X5_readTerm_60 : pp_chk mi_X5_readTerm 62 60 (pp_cnt mi_X5_readTerm 60) sg_X5_readTerm_60 = true := by decide +kernel
def sg_X5_readTerm_62 : pp_Seg := [(.istore 4, .inl (0, 0, [])), (.aload_n 0, .inl (0, 0, [])), (.getfield 33, .inl (5, 3, [2, 354])), (.invokevirtual 69, .inr (.inl (mi_X7_next, 7, 745, [0]))), (.aload_n 0, .inl (0, 0, [])), (.iload_n 1, .inl (0, 0, [])), (.invokevirtual 199, .inr (.inl (mi_X5_readFactor, 5, 755, [0, 0]))), (.istore_n 2, .inl (0, 0, [])), (.aload_n 0, .inl (0, 0, [])), (.getfield 12, .inl (5, 0, [2, 349])), (.getfield 72, .inl (6, 15, [2, 195])), (.iload 4, .inl (0, 0, [])), (.invokevirtual 196, .inr (.inl (mi_X2_add, 2, 763, [0, 0]))), (.iinc 3 1, .inr (.inr (.int 1, 0))), (.goto (-84), .inl (8, 0, []))]
theorem sk_X5_readTerm_62 : pp_chk mi_X5_readTerm 95 62 (pp_cnt mi_X5_readTerm 62) sg_X5_readTerm_62 = true := by decide +kernel
def sg_X5_readTerm_95 : pp_Seg := [(.iload_n 2, .inl (0, 0, [])), (.ireturn, .inl (0, 0, []))]
theorem sk_X5_readTerm_95 : pp_chk mi_X5_readTerm 97 95 (pp_cnt mi_X5_readTerm 95) sg_X5_readTerm_95 = true := by decide +kernel
def sg_X5_readSum_0 : pp_Seg := [(.aload_n 0, .inl (0, 0, [])), (.iload_n 1, .inl (0, 0, [])), (.invokevirtual 193, .inr (.inl (mi_X5_readTerm, 5, 751, [0, 0]))), (.istore_n 2, .inl (0, 0, [])), (.iconst 0, .inr (.inr (.int 0, 0))), (.istore_n 3, .inl (0, 0, []))]
theorem sk_X5_readSum_0 : pp_chk mi_X5_readSum 8 0 (pp_cnt mi_X5_readSum 0) sg_X5_readSum_0 = true := by decide +kernel
def sg_X5_readSum_8 : pp_Seg := [(.iload_n 3, .inl (0, 0, [])), (.sipush 700, .inr (.inr (.int 700, 0))), (.if_icmp .ge 83, .inl (95, 0, [])), (.iload_n 2, .inl (0, 0, [])), (.ifCond .ne 79, .inl (95, 0, [])), (.aload_n 0, .inl (0, 0, [])), (.getfield 33, .inl (5, 3, [2, 354])), (.bipush 43, .inr (.inr (.int 43, 0))), (.invokevirtual 87, .inr (.inl (mi_X7_isSign, 7, 759, [0, 0]))), (.ifCond .ne 15, .inl (43, 0, [])), (.aload_n 0, .inl (0, 0, [])), (.getfield 33, .inl (5, 3, [2, 354])), (.bipush 45, .inr (.inr (.int 45, 0))), (.invokevirtual 87, .inr (.inl (mi_X7_isSign, 7, 759, [0, 0]))), (.ifCond .eq 55, .inl (95, 0, []))]
theorem sk_X5_readSum_8 : pp_chk mi_X5_readSum 43 8 (pp_cnt mi_X5_readSum 8) sg_X5_readSum_8 = true := by decide +kernel
def sg_X5_readSum_43 : pp_Seg := [(.aload_n 0, .inl (0, 0, [])), (.getfield 33, .inl (5, 3, [2, 354])), (.bipush 43, .inr (.inr (.int 43, 0))), (.invokevirtual 87, .inr (.inl (mi_X7_isSign, 7, 759, [0, 0]))), (.ifCond .eq 8, .inl (60, 0, [])), (.bipush (-4), .inr (.inr (.int (-4), 0))), (.goto 5, .inl (62, 0, []))]
theorem sk_X5_readSum_43 : pp_chk mi_X5_readSum 60 43 (pp_cnt mi_X5_readSum 43) sg_X5_readSum_43 = true := by decide +kernel
def sg_X5_readSum_60 : pp_Seg := [(.bipush (-5), .inr (.inr (.int (-5), 0)))]
theorem sk_X5_readSum_60 : pp_chk mi_X5_readSum 62 60 (pp_cnt mi_X5_readSum 60) sg_X5_readSum_60 = true := by decide +kernel
def sg_X5_readSum_62 : pp_Seg := [(.istore 4, .inl (0, 0, [])), (.aload_n 0, .inl (0, 0, [])), (.getfield 33, .inl (5, 3, [2, 354])), (.invokevirtual 69, .inr (.inl (mi_X7_next, 7, 745, [0]))), (.aload_n 0, .inl (0, 0, [])), (.iload_n 1, .inl (0, 0, [])), (.invokevirtual 193, .inr (.inl (mi_X5_readTerm, 5, 751, [0, 0]))), (.istore_n 2, .inl (0, 0, [])), (.aload_n 0, .inl (0, 0, [])), (.getfield 12, .inl (5, 0, [2, 349])), (.getfield 72, .inl (6, 15, [2, 195])), (.iload 4, .inl (0, 0, [])), (.invokevirtual 196, .inr (.inl (mi_X2_add, 2, 763, [0, 0]))), (.iinc 3 1, .inr (.inr (.int 1, 0))), (.goto (-84), .inl (8, 0, []))]
theorem sk_X5_readSum_62 : pp_chk mi_X5_readSum 95 62 (pp_cnt mi_X5_readSum 62) sg_X5_readSum_62 = true := by decide +kernel
def sg_X5_readSum_95 : pp_Seg := [(.iload_n 2, .inl (0, 0, [])), (.ireturn, .inl (0, 0, []))]
theorem sk_X5_readSum_95 : pp_chk mi_X5_readSum 97 95 (pp_cnt mi_X5_readSum 95) sg_X5_readSum_95 = true := by decide +kernel
def sg_X5_readOne_0 : pp_Seg := [(.aload_n 0, .inl (0, 0, [])), (.getfield 33, .inl (5, 3, [2, 354])), (.getfield 55, .inl (7, 3, [0, 330])), (.iconst 2, .inr (.inr (.int 2, 0))), (.if_icmp .eq 5, .inl (13, 0, [])), (.iconst 1, .inr (.inr (.int 1, 0))), (.ireturn, .inl (0, 0, []))]
theorem sk_X5_readOne_0 : pp_chk mi_X5_readOne 13 0 (pp_cnt mi_X5_readOne 0) sg_X5_readOne_0 = true := by decide +kernel
def sg_X5_readOne_13 : pp_Seg := [(.aload_n 0, .inl (0, 0, [])), (.getfield 33, .inl (5, 3, [2, 354])), (.getfield 148, .inl (7, 5, [0, 335])), (.iload_n 1, .inl (0, 0, [])), (.if_icmp .lt 14, .inl (35, 0, [])), (.aload_n 0, .inl (0, 0, [])), (.getfield 33, .inl (5, 3, [2, 354])), (.getfield 148, .inl (7, 5, [0, 335])), (.iload_n 2, .inl (0, 0, [])), (.if_icmp .le 5, .inl (37, 0, []))]
theorem sk_X5_readOne_13 : pp_chk mi_X5_readOne 35 13 (pp_cnt mi_X5_readOne 13) sg_X5_readOne_13 = true := by decide +kernel
def sg_X5_readOne_35 : pp_Seg := [(.iconst 3, .inr (.inr (.int 3, 0))), (.ireturn, .inl (0, 0, []))]
theorem sk_X5_readOne_35 : pp_chk mi_X5_readOne 37 35 (pp_cnt mi_X5_readOne 35) sg_X5_readOne_35 = true := by decide +kernel
def sg_X5_readOne_37 : pp_Seg := [(.aload_n 0, .inl (0, 0, [])), (.aload_n 0, .inl (0, 0, [])), (.getfield 33, .inl (5, 3, [2, 354])), (.getfield 148, .inl (7, 5, [0, 335])), (.putfield 142, .inl (5, 5, [0, 356])), (.aload_n 0, .inl (0, 0, [])), (.getfield 33, .inl (5, 3, [2, 354])), (.invokevirtual 69, .inr (.inl (mi_X7_next, 7, 745, [0]))), (.iconst 0, .inr (.inr (.int 0, 0))), (.ireturn, .inl (0, 0, []))]
theorem sk_X5_readOne_37 : pp_chk mi_X5_readOne 57 37 (pp_cnt mi_X5_readOne 37) sg_X5_readOne_37 = true := by decide +kernel
def sg_X5_readTwo_0 : pp_Seg := [(.aload_n 0, .inl (0, 0, [])), (.iload_n 1, .inl (0, 0, [])), (.iload_n 2, .inl (0, 0, [])), (.invokevirtual 134, .inr (.inl (mi_X5_readOne, 5, 771, [0, 0, 0]))), (.istore 5, .inl (0, 0, [])), (.iload 5, .inl (0, 0, [])), (.ifCond .eq 6, .inl (16, 0, [])), (.iload 5, .inl (0, 0, [])), (.ireturn, .inl (0, 0, []))]
theorem sk_X5_readTwo_0 : pp_chk mi_X5_readTwo 16 0 (pp_cnt mi_X5_readTwo 0) sg_X5_readTwo_0 = true := by decide +kernel
def sg_X5_readTwo_16 : pp_Seg := [(.aload_n 0, .inl (0, 0, [])), (.getfield 142, .inl (5, 5, [0, 356])), (.istore 6, .inl (0, 0, [])), (.aload_n 0, .inl (0, 0, [])), (.iload_n 3, .inl (0, 0, [])), (.iload 4, .inl (0, 0, [])), (.invokevirtual 134, .inr (.inl (mi_X5_readOne, 5, 771, [0, 0, 0]))), (.istore 5, .inl (0, 0, [])), (.aload_n 0, .inl (0, 0, [])), (.aload_n 0, .inl (0, 0, [])), (.getfield 142, .inl (5, 5, [0, 356])), (.putfield 145, .inl (5, 6, [0, 357])), (.aload_n 0, .inl (0, 0, [])), (.iload 6, .inl (0, 0, [])), (.putfield 142, .inl (5, 5, [0, 356])), (.iload 5, .inl (0, 0, [])), (.ireturn, .inl (0, 0, []))]
theorem sk_X5_readTwo_16 : pp_chk mi_X5_readTwo 48 16 (pp_cnt mi_X5_readTwo 16) sg_X5_readTwo_16 = true := by decide +kernel
def sg_X5_readNumbers_0 : pp_Seg := [(.iload_n 1, .inl (0, 0, [])), (.tableswitch 162 0 9 #[55, 64, 77, 96, 104, 114, 122, 130, 138, 150], .inl (163, 55, [56, 65, 78, 97, 105, 115, 123, 131, 139, 151]))]
theorem sk_X5_readNumbers_0 : pp_chk mi_X5_readNumbers 56 0 (pp_cnt mi_X5_readNumbers 0) sg_X5_readNumbers_0 = true := by decide +kernel
def sg_X5_readNumbers_56 : pp_Seg := [(.aload_n 0, .inl (0, 0, [])), (.iconst 0, .inr (.inr (.int 0, 0))), (.sipush 9999, .inr (.inr (.int 9999, 0))), (.invokevirtual 134, .inr (.inl (mi_X5_readOne, 5, 771, [0, 0, 0]))), (.ireturn, .inl (0, 0, []))]
theorem sk_X5_readNumbers_56 : pp_chk mi_X5_readNumbers 65 56 (pp_cnt mi_X5_readNumbers 56) sg_X5_readNumbers_56 = true := by decide +kernel
def sg_X5_readNumbers_65 : pp_Seg := [(.aload_n 0, .inl (0, 0, [])), (.iconst 0, .inr (.inr (.int 0, 0))), (.sipush 9999, .inr (.inr (.int 9999, 0))), (.iconst 1, .inr (.inr (.int 1, 0))), (.sipush 9999, .inr (.inr (.int 9999, 0))), (.invokevirtual 138, .inr (.inl (mi_X5_readTwo, 5, 775, [0, 0, 0, 0, 0]))), (.ireturn, .inl (0, 0, []))]
theorem sk_X5_readNumbers_65 : pp_chk mi_X5_readNumbers 78 65 (pp_cnt mi_X5_readNumbers 65) sg_X5_readNumbers_65 = true := by decide +kernel
def sg_X5_readNumbers_78 : pp_Seg := [(.aload_n 0, .inl (0, 0, [])), (.iconst 0, .inr (.inr (.int 0, 0))), (.aload_n 0, .inl (0, 0, [])), (.getfield 21, .inl (5, 1, [2, 351])), (.getfield 122, .inl (4, 2, [0, 241])), (.iconst 1, .inr (.inr (.int 1, 0))), (.isub, .inl (0, 0, [])), (.iconst 1, .inr (.inr (.int 1, 0))), (.sipush 9999, .inr (.inr (.int 9999, 0))), (.invokevirtual 138, .inr (.inl (mi_X5_readTwo, 5, 775, [0, 0, 0, 0, 0]))), (.ireturn, .inl (0, 0, []))]
theorem sk_X5_readNumbers_78 : pp_chk mi_X5_readNumbers 97 78 (pp_cnt mi_X5_readNumbers 78) sg_X5_readNumbers_78 = true := by decide +kernel
def sg_X5_readNumbers_97 : pp_Seg := [(.aload_n 0, .inl (0, 0, [])), (.iconst 0, .inr (.inr (.int 0, 0))), (.bipush 100, .inr (.inr (.int 100, 0))), (.invokevirtual 134, .inr (.inl (mi_X5_readOne, 5, 771, [0, 0, 0]))), (.ireturn, .inl (0, 0, []))]
theorem sk_X5_readNumbers_97 : pp_chk mi_X5_readNumbers 105 97 (pp_cnt mi_X5_readNumbers 97) sg_X5_readNumbers_97 = true := by decide +kernel
def sg_X5_readNumbers_105 : pp_Seg := [(.aload_n 0, .inl (0, 0, [])), (.iconst 1, .inr (.inr (.int 1, 0))), (.iconst 5, .inr (.inr (.int 5, 0))), (.iconst 1, .inr (.inr (.int 1, 0))), (.bipush 100, .inr (.inr (.int 100, 0))), (.invokevirtual 138, .inr (.inl (mi_X5_readTwo, 5, 775, [0, 0, 0, 0, 0]))), (.ireturn, .inl (0, 0, []))]
theorem sk_X5_readNumbers_105 : pp_chk mi_X5_readNumbers 115 105 (pp_cnt mi_X5_readNumbers 105) sg_X5_readNumbers_105 = true := by decide +kernel
def sg_X5_readNumbers_115 : pp_Seg := [(.aload_n 0, .inl (0, 0, [])), (.iconst 1, .inr (.inr (.int 1, 0))), (.bipush 100, .inr (.inr (.int 100, 0))), (.invokevirtual 134, .inr (.inl (mi_X5_readOne, 5, 771, [0, 0, 0]))), (.ireturn, .inl (0, 0, []))]
theorem sk_X5_readNumbers_115 : pp_chk mi_X5_readNumbers 123 115 (pp_cnt mi_X5_readNumbers 115) sg_X5_readNumbers_115 = true := by decide +kernel
def sg_X5_readNumbers_123 : pp_Seg := [(.aload_n 0, .inl (0, 0, [])), (.iconst 0, .inr (.inr (.int 0, 0))), (.bipush 50, .inr (.inr (.int 50, 0))), (.invokevirtual 134, .inr (.inl (mi_X5_readOne, 5, 771, [0, 0, 0]))), (.ireturn, .inl (0, 0, []))]
theorem sk_X5_readNumbers_123 : pp_chk mi_X5_readNumbers 131 123 (pp_cnt mi_X5_readNumbers 123) sg_X5_readNumbers_123 = true := by decide +kernel
def sg_X5_readNumbers_131 : pp_Seg := [(.aload_n 0, .inl (0, 0, [])), (.iconst 0, .inr (.inr (.int 0, 0))), (.bipush 40, .inr (.inr (.int 40, 0))), (.invokevirtual 134, .inr (.inl (mi_X5_readOne, 5, 771, [0, 0, 0]))), (.ireturn, .inl (0, 0, []))]
theorem sk_X5_readNumbers_131 : pp_chk mi_X5_readNumbers 139 131 (pp_cnt mi_X5_readNumbers 131) sg_X5_readNumbers_131 = true := by decide +kernel
def sg_X5_readNumbers_139 : pp_Seg := [(.aload_n 0, .inl (0, 0, [])), (.iconst 0, .inr (.inr (.int 0, 0))), (.sipush 9999, .inr (.inr (.int 9999, 0))), (.iconst 0, .inr (.inr (.int 0, 0))), (.bipush 100, .inr (.inr (.int 100, 0))), (.invokevirtual 138, .inr (.inl (mi_X5_readTwo, 5, 775, [0, 0, 0, 0, 0]))), (.ireturn, .inl (0, 0, []))]
theorem sk_X5_readNumbers_139 : pp_chk mi_X5_readNumbers 151 139 (pp_cnt mi_X5_readNumbers 139) sg_X5_readNumbers_139 = true := by decide +kernel
def sg_X5_readNumbers_151 : pp_Seg := [(.aload_n 0, .inl (0, 0, [])), (.iconst 0, .inr (.inr (.int 0, 0))), (.sipush 9999, .inr (.inr (.int 9999, 0))), (.iconst 0, .inr (.inr (.int 0, 0))), (.bipush 100, .inr (.inr (.int 100, 0))), (.invokevirtual 138, .inr (.inl (mi_X5_readTwo, 5, 775, [0, 0, 0, 0, 0]))), (.ireturn, .inl (0, 0, []))]
theorem sk_X5_readNumbers_151 : pp_chk mi_X5_readNumbers 163 151 (pp_cnt mi_X5_readNumbers 151) sg_X5_readNumbers_151 = true := by decide +kernel
def sg_X5_readNumbers_163 : pp_Seg := [(.aload_n 0, .inl (0, 0, [])), (.iconst 0, .inr (.inr (.int 0, 0))), (.sipush 400, .inr (.inr (.int 400, 0))), (.invokevirtual 134, .inr (.inl (mi_X5_readOne, 5, 771, [0, 0, 0]))), (.ireturn, .inl (0, 0, []))]
theorem sk_X5_readNumbers_163 : pp_chk mi_X5_readNumbers 172 163 (pp_cnt mi_X5_readNumbers 163) sg_X5_readNumbers_163 = true := by decide +kernel
def sg_X4_addMember_0 : pp_Seg := [(.aload_n 0, .inl (0, 0, [])), (.getfield 47, .inl (4, 2, [0, 240])), (.bipush 8, .inr (.inr (.int 8, 0))), (.if_icmp .lt 5, .inl (11, 0, [])), (.iconst (-1), .inr (.inr (.int (-1), 0))), (.ireturn, .inl (0, 0, []))]
theorem sk_X4_addMember_0 : pp_chk mi_X4_addMember 11 0 (pp_cnt mi_X4_addMember 0) sg_X4_addMember_0 = true := by decide +kernel
def sg_X4_addMember_11 : pp_Seg := [(.aload_n 0, .inl (0, 0, [])), (.getfield 9, .inl (4, 3, [2, 243])), (.aload_n 0, .inl (0, 0, [])), (.getfield 47, .inl (4, 2, [0, 240])), (.iload_n 1, .inl (0, 0, [])), (.iastore, .inl (0, 0, [])), (.aload_n 0, .inl (0, 0, [])), (.dup, .inl (0, 0, [])), (.getfield 47, .inl (4, 2, [0, 240])), (.iconst 1, .inr (.inr (.int 1, 0))), (.iadd, .inl (0, 0, [])), (.putfield 47, .inl (4, 2, [0, 240])), (.aload_n 0, .inl (0, 0, [])), (.getfield 47, .inl (4, 2, [0, 240])), (.iconst 1, .inr (.inr (.int 1, 0))), (.isub, .inl (0, 0, [])), (.ireturn, .inl (0, 0, []))]
theorem sk_X4_addMember_11 : pp_chk mi_X4_addMember 38 11 (pp_cnt mi_X4_addMember 11) sg_X4_addMember_11 = true := by decide +kernel
def sg_X6_addVersion_0 : pp_Seg := [(.aload_n 0, .inl (0, 0, [])), (.getfield 31, .inl (6, 0, [0, 151])), (.iconst 4, .inr (.inr (.int 4, 0))), (.if_icmp .ge 33, .inl (38, 0, [])), (.aload_n 0, .inl (0, 0, [])), (.getfield 9, .inl (6, 1, [2, 155])), (.aload_n 0, .inl (0, 0, [])), (.getfield 31, .inl (6, 0, [0, 151])), (.iload_n 1, .inl (0, 0, [])), (.iastore, .inl (0, 0, [])), (.aload_n 0, .inl (0, 0, [])), (.getfield 15, .inl (6, 2, [2, 157])), (.aload_n 0, .inl (0, 0, [])), (.getfield 31, .inl (6, 0, [0, 151])), (.iload_n 2, .inl (0, 0, [])), (.iastore, .inl (0, 0, [])), (.aload_n 0, .inl (0, 0, [])), (.dup, .inl (0, 0, [])), (.getfield 31, .inl (6, 0, [0, 151])), (.iconst 1, .inr (.inr (.int 1, 0))), (.iadd, .inl (0, 0, [])), (.putfield 31, .inl (6, 0, [0, 151]))]
theorem sk_X6_addVersion_0 : pp_chk mi_X6_addVersion 38 0 (pp_cnt mi_X6_addVersion 0) sg_X6_addVersion_0 = true := by decide +kernel
def sg_X6_addVersion_38 : pp_Seg := [(.return_, .inl (0, 0, []))]
theorem sk_X6_addVersion_38 : pp_chk mi_X6_addVersion 39 38 (pp_cnt mi_X6_addVersion 38) sg_X6_addVersion_38 = true := by decide +kernel
def sg_X4_addPatent_0 : pp_Seg := [(.aload_n 0, .inl (0, 0, [])), (.getfield 56, .inl (4, 4, [0, 245])), (.bipush 16, .inr (.inr (.int 16, 0))), (.if_icmp .lt 5, .inl (11, 0, [])), (.iconst (-1), .inr (.inr (.int (-1), 0))), (.ireturn, .inl (0, 0, []))]
theorem sk_X4_addPatent_0 : pp_chk mi_X4_addPatent 11 0 (pp_cnt mi_X4_addPatent 0) sg_X4_addPatent_0 = true := by decide +kernel
def sg_X4_addPatent_11 : pp_Seg := [(.aload_n 0, .inl (0, 0, [])), (.getfield 15, .inl (4, 5, [2, 249])), (.aload_n 0, .inl (0, 0, [])), (.getfield 56, .inl (4, 4, [0, 245])), (.iload_n 1, .inl (0, 0, [])), (.iastore, .inl (0, 0, [])), (.aload_n 0, .inl (0, 0, [])), (.getfield 18, .inl (4, 6, [2, 252])), (.aload_n 0, .inl (0, 0, [])), (.getfield 56, .inl (4, 4, [0, 245])), (.iload_n 2, .inl (0, 0, [])), (.iastore, .inl (0, 0, [])), (.aload_n 0, .inl (0, 0, [])), (.dup, .inl (0, 0, [])), (.getfield 56, .inl (4, 4, [0, 245])), (.iconst 1, .inr (.inr (.int 1, 0))), (.iadd, .inl (0, 0, [])), (.putfield 56, .inl (4, 4, [0, 245])), (.aload_n 0, .inl (0, 0, [])), (.getfield 56, .inl (4, 4, [0, 245])), (.iconst 1, .inr (.inr (.int 1, 0))), (.isub, .inl (0, 0, [])), (.ireturn, .inl (0, 0, []))]
theorem sk_X4_addPatent_11 : pp_chk mi_X4_addPatent 48 11 (pp_cnt mi_X4_addPatent 11) sg_X4_addPatent_11 = true := by decide +kernel
def sg_X6_addLicensee_0 : pp_Seg := [(.aload_n 0, .inl (0, 0, [])), (.getfield 35, .inl (6, 3, [0, 159])), (.bipush 6, .inr (.inr (.int 6, 0))), (.if_icmp .ge 23, .inl (29, 0, [])), (.aload_n 0, .inl (0, 0, [])), (.getfield 18, .inl (6, 4, [2, 162])), (.aload_n 0, .inl (0, 0, [])), (.getfield 35, .inl (6, 3, [0, 159])), (.iload_n 1, .inl (0, 0, [])), (.iastore, .inl (0, 0, [])), (.aload_n 0, .inl (0, 0, [])), (.dup, .inl (0, 0, [])), (.getfield 35, .inl (6, 3, [0, 159])), (.iconst 1, .inr (.inr (.int 1, 0))), (.iadd, .inl (0, 0, [])), (.putfield 35, .inl (6, 3, [0, 159]))]
theorem sk_X6_addLicensee_0 : pp_chk mi_X6_addLicensee 29 0 (pp_cnt mi_X6_addLicensee 0) sg_X6_addLicensee_0 = true := by decide +kernel
def sg_X6_addLicensee_29 : pp_Seg := [(.return_, .inl (0, 0, []))]
theorem sk_X6_addLicensee_29 : pp_chk mi_X6_addLicensee 30 29 (pp_cnt mi_X6_addLicensee 29) sg_X6_addLicensee_29 = true := by decide +kernel
def sg_X5_keepRule_0 : pp_Seg := [(.iload_n 1, .inl (0, 0, [])), (.tableswitch 156 4 9 #[39, 64, 78, 92, 106, 131], .inl (157, 39, [40, 65, 79, 93, 107, 132]))]
theorem sk_X5_keepRule_0 : pp_chk mi_X5_keepRule 40 0 (pp_cnt mi_X5_keepRule 0) sg_X5_keepRule_0 = true := by decide +kernel
def sg_X5_keepRule_40 : pp_Seg := [(.aload_n 0, .inl (0, 0, [])), (.getfield 12, .inl (5, 0, [2, 349])), (.aload_n 0, .inl (0, 0, [])), (.getfield 142, .inl (5, 5, [0, 356])), (.putfield 167, .inl (6, 5, [0, 166])), (.aload_n 0, .inl (0, 0, [])), (.getfield 12, .inl (5, 0, [2, 349])), (.aload_n 0, .inl (0, 0, [])), (.getfield 145, .inl (5, 6, [0, 357])), (.putfield 170, .inl (6, 6, [0, 169])), (.goto 106, .inl (168, 0, []))]
theorem sk_X5_keepRule_40 : pp_chk mi_X5_keepRule 65 40 (pp_cnt mi_X5_keepRule 40) sg_X5_keepRule_40 = true := by decide +kernel
def sg_X5_keepRule_65 : pp_Seg := [(.aload_n 0, .inl (0, 0, [])), (.getfield 12, .inl (5, 0, [2, 349])), (.aload_n 0, .inl (0, 0, [])), (.getfield 142, .inl (5, 5, [0, 356])), (.putfield 173, .inl (6, 7, [0, 171])), (.goto 92, .inl (168, 0, []))]
theorem sk_X5_keepRule_65 : pp_chk mi_X5_keepRule 79 65 (pp_cnt mi_X5_keepRule 65) sg_X5_keepRule_65 = true := by decide +kernel
def sg_X5_keepRule_79 : pp_Seg := [(.aload_n 0, .inl (0, 0, [])), (.getfield 12, .inl (5, 0, [2, 349])), (.aload_n 0, .inl (0, 0, [])), (.getfield 142, .inl (5, 5, [0, 356])), (.putfield 175, .inl (6, 8, [0, 174])), (.goto 78, .inl (168, 0, []))]
theorem sk_X5_keepRule_79 : pp_chk mi_X5_keepRule 93 79 (pp_cnt mi_X5_keepRule 79) sg_X5_keepRule_79 = true := by decide +kernel
def sg_X5_keepRule_93 : pp_Seg := [(.aload_n 0, .inl (0, 0, [])), (.getfield 12, .inl (5, 0, [2, 349])), (.aload_n 0, .inl (0, 0, [])), (.getfield 142, .inl (5, 5, [0, 356])), (.putfield 177, .inl (6, 9, [0, 177])), (.goto 64, .inl (168, 0, []))]
theorem sk_X5_keepRule_93 : pp_chk mi_X5_keepRule 107 93 (pp_cnt mi_X5_keepRule 93) sg_X5_keepRule_93 = true := by decide +kernel
def sg_X5_keepRule_107 : pp_Seg := [(.aload_n 0, .inl (0, 0, [])), (.getfield 12, .inl (5, 0, [2, 349])), (.aload_n 0, .inl (0, 0, [])), (.getfield 142, .inl (5, 5, [0, 356])), (.putfield 179, .inl (6, 10, [0, 181])), (.aload_n 0, .inl (0, 0, [])), (.getfield 12, .inl (5, 0, [2, 349])), (.aload_n 0, .inl (0, 0, [])), (.getfield 145, .inl (5, 6, [0, 357])), (.putfield 182, .inl (6, 11, [0, 184])), (.goto 39, .inl (168, 0, []))]
theorem sk_X5_keepRule_107 : pp_chk mi_X5_keepRule 132 107 (pp_cnt mi_X5_keepRule 107) sg_X5_keepRule_107 = true := by decide +kernel
def sg_X5_keepRule_132 : pp_Seg := [(.aload_n 0, .inl (0, 0, [])), (.getfield 12, .inl (5, 0, [2, 349])), (.aload_n 0, .inl (0, 0, [])), (.getfield 142, .inl (5, 5, [0, 356])), (.putfield 185, .inl (6, 12, [0, 186])), (.aload_n 0, .inl (0, 0, [])), (.getfield 12, .inl (5, 0, [2, 349])), (.aload_n 0, .inl (0, 0, [])), (.getfield 145, .inl (5, 6, [0, 357])), (.putfield 188, .inl (6, 13, [0, 189])), (.goto 14, .inl (168, 0, []))]
theorem sk_X5_keepRule_132 : pp_chk mi_X5_keepRule 157 132 (pp_cnt mi_X5_keepRule 132) sg_X5_keepRule_132 = true := by decide +kernel
def sg_X5_keepRule_157 : pp_Seg := [(.aload_n 0, .inl (0, 0, [])), (.getfield 12, .inl (5, 0, [2, 349])), (.aload_n 0, .inl (0, 0, [])), (.getfield 142, .inl (5, 5, [0, 356])), (.putfield 191, .inl (6, 14, [0, 192]))]
theorem sk_X5_keepRule_157 : pp_chk mi_X5_keepRule 168 157 (pp_cnt mi_X5_keepRule 157) sg_X5_keepRule_157 = true := by decide +kernel
def sg_X5_keepRule_168 : pp_Seg := [(.return_, .inl (0, 0, []))]
theorem sk_X5_keepRule_168 : pp_chk mi_X5_keepRule 169 168 (pp_cnt mi_X5_keepRule 168) sg_X5_keepRule_168 = true := by decide +kernel
def sg_X5_keep_0 : pp_Seg := [(.aload_n 0, .inl (0, 0, [])), (.dup, .inl (0, 0, [])), (.getfield 48, .inl (5, 4, [0, 355])), (.iconst 1, .inr (.inr (.int 1, 0))), (.iload_n 1, .inl (0, 0, [])), (.ishl, .inl (0, 0, [])), (.ior, .inl (0, 0, [])), (.putfield 48, .inl (5, 4, [0, 355])), (.iload_n 1, .inl (0, 0, [])), (.tableswitch 132 0 11 #[63, 78, 96, 115, 132, 132, 132, 132, 132, 132, 132, 129], .inl (145, 63, [76, 91, 109, 128, 145, 145, 145, 145, 145, 145, 145, 142]))]
theorem sk_X5_keep_0 : pp_chk mi_X5_keep 76 0 (pp_cnt mi_X5_keep 0) sg_X5_keep_0 = true := by decide +kernel
def sg_X5_keep_76 : pp_Seg := [(.aload_n 0, .inl (0, 0, [])), (.getfield 21, .inl (5, 1, [2, 351])), (.aload_n 0, .inl (0, 0, [])), (.getfield 142, .inl (5, 5, [0, 356])), (.invokevirtual 151, .inr (.inl (mi_X4_addMember, 4, 783, [0, 0]))), (.pop, .inl (0, 0, [])), (.goto 62, .inl (150, 0, []))]
theorem sk_X5_keep_76 : pp_chk mi_X5_keep 91 76 (pp_cnt mi_X5_keep 76) sg_X5_keep_76 = true := by decide +kernel
def sg_X5_keep_91 : pp_Seg := [(.aload_n 0, .inl (0, 0, [])), (.getfield 12, .inl (5, 0, [2, 349])), (.aload_n 0, .inl (0, 0, [])), (.getfield 142, .inl (5, 5, [0, 356])), (.aload_n 0, .inl (0, 0, [])), (.getfield 145, .inl (5, 6, [0, 357])), (.invokevirtual 154, .inr (.inl (mi_X6_addVersion, 6, 787, [0, 0, 0]))), (.goto 44, .inl (150, 0, []))]
theorem sk_X5_keep_91 : pp_chk mi_X5_keep 109 91 (pp_cnt mi_X5_keep 91) sg_X5_keep_91 = true := by decide +kernel
def sg_X5_keep_109 : pp_Seg := [(.aload_n 0, .inl (0, 0, [])), (.getfield 21, .inl (5, 1, [2, 351])), (.aload_n 0, .inl (0, 0, [])), (.getfield 142, .inl (5, 5, [0, 356])), (.aload_n 0, .inl (0, 0, [])), (.getfield 145, .inl (5, 6, [0, 357])), (.invokevirtual 158, .inr (.inl (mi_X4_addPatent, 4, 791, [0, 0, 0]))), (.pop, .inl (0, 0, [])), (.goto 25, .inl (150, 0, []))]
theorem sk_X5_keep_109 : pp_chk mi_X5_keep 128 109 (pp_cnt mi_X5_keep 109) sg_X5_keep_109 = true := by decide +kernel
def sg_X5_keep_128 : pp_Seg := [(.aload_n 0, .inl (0, 0, [])), (.getfield 12, .inl (5, 0, [2, 349])), (.aload_n 0, .inl (0, 0, [])), (.getfield 142, .inl (5, 5, [0, 356])), (.invokevirtual 161, .inr (.inl (mi_X6_addLicensee, 6, 795, [0, 0]))), (.goto 11, .inl (150, 0, []))]
theorem sk_X5_keep_128 : pp_chk mi_X5_keep 142 128 (pp_cnt mi_X5_keep 128) sg_X5_keep_128 = true := by decide +kernel
def sg_X5_keep_142 : pp_Seg := [(.goto 8, .inl (150, 0, []))]
theorem sk_X5_keep_142 : pp_chk mi_X5_keep 145 142 (pp_cnt mi_X5_keep 142) sg_X5_keep_142 = true := by decide +kernel
def sg_X5_keep_145 : pp_Seg := [(.aload_n 0, .inl (0, 0, [])), (.iload_n 1, .inl (0, 0, [])), (.invokevirtual 164, .inr (.inl (mi_X5_keepRule, 5, 799, [0, 0])))]
theorem sk_X5_keep_145 : pp_chk mi_X5_keep 150 145 (pp_cnt mi_X5_keep 145) sg_X5_keep_145 = true := by decide +kernel
def sg_X5_keep_150 : pp_Seg := [(.return_, .inl (0, 0, []))]
theorem sk_X5_keep_150 : pp_chk mi_X5_keep 151 150 (pp_cnt mi_X5_keep 150) sg_X5_keep_150 = true := by decide +kernel
def sg_X5_readStatement_0 : pp_Seg := [(.aload_n 0, .inl (0, 0, [])), (.invokevirtual 62, .inr (.inl (mi_X5_statementAtToken, 5, 673, [0]))), (.istore_n 1, .inl (0, 0, [])), (.aload_n 0, .inl (0, 0, [])), (.iload_n 1, .inl (0, 0, [])), (.invokevirtual 65, .inr (.inl (mi_X5_admit, 5, 741, [0, 0]))), (.istore_n 2, .inl (0, 0, [])), (.iload_n 2, .inl (0, 0, [])), (.ifCond .eq 5, .inl (17, 0, [])), (.iload_n 2, .inl (0, 0, [])), (.ireturn, .inl (0, 0, []))]
theorem sk_X5_readStatement_0 : pp_chk mi_X5_readStatement 17 0 (pp_cnt mi_X5_readStatement 0) sg_X5_readStatement_0 = true := by decide +kernel
def sg_X5_readStatement_17 : pp_Seg := [(.aload_n 0, .inl (0, 0, [])), (.getfield 33, .inl (5, 3, [2, 354])), (.invokevirtual 69, .inr (.inl (mi_X7_next, 7, 745, [0]))), (.iload_n 1, .inl (0, 0, [])), (.bipush 11, .inr (.inr (.int 11, 0))), (.if_icmp .ne 22, .inl (49, 0, [])), (.aload_n 0, .inl (0, 0, [])), (.getfield 12, .inl (5, 0, [2, 349])), (.getfield 72, .inl (6, 15, [2, 195])), (.invokevirtual 76, .inr (.inl (mi_X2_clear, 2, 746, [0]))), (.aload_n 0, .inl (0, 0, [])), (.iconst 0, .inr (.inr (.int 0, 0))), (.invokevirtual 81, .inr (.inl (mi_X5_readSum, 5, 747, [0, 0]))), (.istore_n 2, .inl (0, 0, [])), (.goto 9, .inl (55, 0, []))]
theorem sk_X5_readStatement_17 : pp_chk mi_X5_readStatement 49 17 (pp_cnt mi_X5_readStatement 17) sg_X5_readStatement_17 = true := by decide +kernel
def sg_X5_readStatement_49 : pp_Seg := [(.aload_n 0, .inl (0, 0, [])), (.iload_n 1, .inl (0, 0, [])), (.invokevirtual 84, .inr (.inl (mi_X5_readNumbers, 5, 767, [0, 0]))), (.istore_n 2, .inl (0, 0, []))]
theorem sk_X5_readStatement_49 : pp_chk mi_X5_readStatement 55 49 (pp_cnt mi_X5_readStatement 49) sg_X5_readStatement_49 = true := by decide +kernel
def sg_X5_readStatement_55 : pp_Seg := [(.iload_n 2, .inl (0, 0, [])), (.ifCond .eq 5, .inl (61, 0, [])), (.iload_n 2, .inl (0, 0, [])), (.ireturn, .inl (0, 0, []))]
theorem sk_X5_readStatement_55 : pp_chk mi_X5_readStatement 61 55 (pp_cnt mi_X5_readStatement 55) sg_X5_readStatement_55 = true := by decide +kernel
def sg_X5_readStatement_61 : pp_Seg := [(.aload_n 0, .inl (0, 0, [])), (.getfield 33, .inl (5, 3, [2, 354])), (.bipush 59, .inr (.inr (.int 59, 0))), (.invokevirtual 87, .inr (.inl (mi_X7_isSign, 7, 759, [0, 0]))), (.ifCond .ne 5, .inl (75, 0, [])), (.iconst 1, .inr (.inr (.int 1, 0))), (.ireturn, .inl (0, 0, []))]
theorem sk_X5_readStatement_61 : pp_chk mi_X5_readStatement 75 61 (pp_cnt mi_X5_readStatement 61) sg_X5_readStatement_61 = true := by decide +kernel
def sg_X5_readStatement_75 : pp_Seg := [(.aload_n 0, .inl (0, 0, [])), (.iload_n 1, .inl (0, 0, [])), (.invokevirtual 91, .inr (.inl (mi_X5_keep, 5, 779, [0, 0]))), (.aload_n 0, .inl (0, 0, [])), (.getfield 33, .inl (5, 3, [2, 354])), (.invokevirtual 69, .inr (.inl (mi_X7_next, 7, 745, [0]))), (.iconst 0, .inr (.inr (.int 0, 0))), (.ireturn, .inl (0, 0, []))]
theorem sk_X5_readStatement_75 : pp_chk mi_X5_readStatement 89 75 (pp_cnt mi_X5_readStatement 75) sg_X5_readStatement_75 = true := by decide +kernel
def sg_X5_readPool_0 : pp_Seg := [(.aload_n 0, .inl (0, 0, [])), (.getfield 12, .inl (5, 0, [2, 349])), (.invokevirtual 41, .inr (.inl (mi_X6_reset, 6, 650, [0]))), (.aload_n 0, .inl (0, 0, [])), (.getfield 21, .inl (5, 1, [2, 351])), (.aload_n 0, .inl (0, 0, [])), (.getfield 25, .inl (5, 2, [2, 353])), (.invokevirtual 44, .inr (.inl (mi_X4_copyFrom, 4, 651, [0, 0]))), (.aload_n 0, .inl (0, 0, [])), (.iconst 0, .inr (.inr (.int 0, 0))), (.putfield 48, .inl (5, 4, [0, 355])), (.aload_n 0, .inl (0, 0, [])), (.getfield 33, .inl (5, 3, [2, 354])), (.iload_n 1, .inl (0, 0, [])), (.invokevirtual 51, .inr (.inl (mi_X7_begin, 7, 652, [0, 0]))), (.iconst 0, .inr (.inr (.int 0, 0))), (.istore_n 2, .inl (0, 0, [])), (.iconst 0, .inr (.inr (.int 0, 0))), (.istore_n 3, .inl (0, 0, []))]
theorem sk_X5_readPool_0 : pp_chk mi_X5_readPool 35 0 (pp_cnt mi_X5_readPool 0) sg_X5_readPool_0 = true := by decide +kernel
def sg_X5_readPool_35 : pp_Seg := [(.iload_n 3, .inl (0, 0, [])), (.sipush 700, .inr (.inr (.int 700, 0))), (.if_icmp .ge 28, .inl (67, 0, [])), (.iload_n 2, .inl (0, 0, [])), (.ifCond .ne 24, .inl (67, 0, [])), (.aload_n 0, .inl (0, 0, [])), (.getfield 33, .inl (5, 3, [2, 354])), (.getfield 55, .inl (7, 3, [0, 330])), (.ifCond .eq 14, .inl (67, 0, [])), (.aload_n 0, .inl (0, 0, [])), (.invokevirtual 58, .inr (.inl (mi_X5_readStatement, 5, 669, [0]))), (.istore_n 2, .inl (0, 0, [])), (.iinc 3 1, .inr (.inr (.int 1, 0))), (.goto (-29), .inl (35, 0, []))]
theorem sk_X5_readPool_35 : pp_chk mi_X5_readPool 67 35 (pp_cnt mi_X5_readPool 35) sg_X5_readPool_35 = true := by decide +kernel
def sg_X5_readPool_67 : pp_Seg := [(.iload_n 2, .inl (0, 0, [])), (.ireturn, .inl (0, 0, []))]
theorem sk_X5_readPool_67 : pp_chk mi_X5_readPool 69 67 (pp_cnt mi_X5_readPool 67) sg_X5_readPool_67 = true := by decide +kernel
def sg_X2_copyFrom_0 : pp_Seg := [(.aload_n 1, .inl (0, 0, [])), (.getfield 9, .inl (2, 0, [2, 127])), (.iconst 0, .inr (.inr (.int 0, 0))), (.aload_n 0, .inl (0, 0, [])), (.getfield 9, .inl (2, 0, [2, 127])), (.iconst 0, .inr (.inr (.int 0, 0))), (.sipush 700, .inr (.inr (.int 700, 0))), (.invokestatic 22, .inl (0, 816, [])), (.aload_n 0, .inl (0, 0, [])), (.aload_n 1, .inl (0, 0, [])), (.getfield 15, .inl (2, 1, [0, 128])), (.putfield 15, .inl (2, 1, [0, 128])), (.return_, .inl (0, 0, []))]
theorem sk_X2_copyFrom_0 : pp_chk mi_X2_copyFrom 25 0 (pp_cnt mi_X2_copyFrom 0) sg_X2_copyFrom_0 = true := by decide +kernel
def sg_X6_copyFrom_0 : pp_Seg := [(.aload_n 0, .inl (0, 0, [])), (.aload_n 1, .inl (0, 0, [])), (.getfield 31, .inl (6, 0, [0, 151])), (.putfield 31, .inl (6, 0, [0, 151])), (.aload_n 1, .inl (0, 0, [])), (.getfield 9, .inl (6, 1, [2, 155])), (.iconst 0, .inr (.inr (.int 0, 0))), (.aload_n 0, .inl (0, 0, [])), (.getfield 9, .inl (6, 1, [2, 155])), (.iconst 0, .inr (.inr (.int 0, 0))), (.iconst 4, .inr (.inr (.int 4, 0))), (.invokestatic 75, .inl (0, 811, [])), (.aload_n 1, .inl (0, 0, [])), (.getfield 15, .inl (6, 2, [2, 157])), (.iconst 0, .inr (.inr (.int 0, 0))), (.aload_n 0, .inl (0, 0, [])), (.getfield 15, .inl (6, 2, [2, 157])), (.iconst 0, .inr (.inr (.int 0, 0))), (.iconst 4, .inr (.inr (.int 4, 0))), (.invokestatic 75, .inl (0, 811, [])), (.aload_n 0, .inl (0, 0, [])), (.aload_n 1, .inl (0, 0, [])), (.getfield 35, .inl (6, 3, [0, 159])), (.putfield 35, .inl (6, 3, [0, 159])), (.aload_n 1, .inl (0, 0, [])), (.getfield 18, .inl (6, 4, [2, 162])), (.iconst 0, .inr (.inr (.int 0, 0))), (.aload_n 0, .inl (0, 0, [])), (.getfield 18, .inl (6, 4, [2, 162])), (.iconst 0, .inr (.inr (.int 0, 0))), (.bipush 6, .inr (.inr (.int 6, 0))), (.invokestatic 75, .inl (0, 811, [])), (.aload_n 0, .inl (0, 0, [])), (.aload_n 1, .inl (0, 0, [])), (.getfield 38, .inl (6, 5, [0, 164])), (.putfield 38, .inl (6, 5, [0, 164])), (.aload_n 0, .inl (0, 0, [])), (.aload_n 1, .inl (0, 0, [])), (.getfield 41, .inl (6, 6, [0, 167])), (.putfield 41, .inl (6, 6, [0, 167])), (.aload_n 0, .inl (0, 0, [])), (.aload_n 1, .inl (0, 0, [])), (.getfield 44, .inl (6, 7, [0, 170])), (.putfield 44, .inl (6, 7, [0, 170])), (.aload_n 0, .inl (0, 0, [])), (.aload_n 1, .inl (0, 0, [])), (.getfield 47, .inl (6, 8, [0, 173])), (.putfield 47, .inl (6, 8, [0, 173])), (.aload_n 0, .inl (0, 0, [])), (.aload_n 1, .inl (0, 0, [])), (.getfield 50, .inl (6, 9, [0, 176])), (.putfield 50, .inl (6, 9, [0, 176])), (.aload_n 0, .inl (0, 0, [])), (.aload_n 1, .inl (0, 0, [])), (.getfield 53, .inl (6, 10, [0, 179])), (.putfield 53, .inl (6, 10, [0, 179])), (.aload_n 0, .inl (0, 0, [])), (.aload_n 1, .inl (0, 0, [])), (.getfield 56, .inl (6, 11, [0, 182])), (.putfield 56, .inl (6, 11, [0, 182])), (.aload_n 0, .inl (0, 0, [])), (.aload_n 1, .inl (0, 0, [])), (.getfield 59, .inl (6, 12, [0, 185])), (.putfield 59, .inl (6, 12, [0, 185])), (.aload_n 0, .inl (0, 0, [])), (.aload_n 1, .inl (0, 0, [])), (.getfield 62, .inl (6, 13, [0, 188])), (.putfield 62, .inl (6, 13, [0, 188])), (.aload_n 0, .inl (0, 0, [])), (.aload_n 1, .inl (0, 0, [])), (.getfield 65, .inl (6, 14, [0, 191])), (.putfield 65, .inl (6, 14, [0, 191])), (.aload_n 0, .inl (0, 0, [])), (.getfield 24, .inl (6, 15, [2, 194])), (.aload_n 1, .inl (0, 0, [])), (.getfield 24, .inl (6, 15, [2, 194])), (.invokevirtual 81, .inr (.inl (mi_X2_copyFrom, 2, 812, [0, 0]))), (.return_, .inl (0, 0, []))]
theorem sk_X6_copyFrom_0 : pp_chk mi_X6_copyFrom 151 0 (pp_cnt mi_X6_copyFrom 0) sg_X6_copyFrom_0 = true := by decide +kernel
def sg_X3_clear_0 : pp_Seg := [(.aload_n 0, .inl (0, 0, [])), (.iconst 0, .inr (.inr (.int 0, 0))), (.putfield 21, .inl (3, 2, [0, 426])), (.return_, .inl (0, 0, []))]
theorem sk_X3_clear_0 : pp_chk mi_X3_clear 6 0 (pp_cnt mi_X3_clear 0) sg_X3_clear_0 = true := by decide +kernel
def sg_X8_startOver_0 : pp_Seg := [(.aload_n 0, .inl (0, 0, [])), (.getfield 32, .inl (8, 4, [2, 438])), (.aload_n 0, .inl (0, 0, [])), (.getfield 25, .inl (8, 3, [2, 437])), (.getfield 92, .inl (5, 0, [2, 350])), (.invokevirtual 93, .inr (.inl (mi_X6_copyFrom, 6, 807, [0, 0]))), (.aload_n 0, .inl (0, 0, [])), (.getfield 39, .inl (8, 5, [2, 439])), (.aload_n 0, .inl (0, 0, [])), (.getfield 25, .inl (8, 3, [2, 437])), (.getfield 97, .inl (5, 1, [2, 352])), (.invokevirtual 98, .inr (.inl (mi_X4_copyFrom, 4, 817, [0, 0]))), (.aload_n 0, .inl (0, 0, [])), (.getfield 62, .inl (8, 8, [2, 442])), (.invokevirtual 101, .inr (.inl (mi_X3_clear, 3, 818, [0]))), (.iconst 0, .inr (.inr (.int 0, 0))), (.istore_n 1, .inl (0, 0, []))]
theorem sk_X8_startOver_0 : pp_chk mi_X8_startOver 37 0 (pp_cnt mi_X8_startOver 0) sg_X8_startOver_0 = true := by decide +kernel
def sg_X8_startOver_37 : pp_Seg := [(.iload_n 1, .inl (0, 0, [])), (.aload_n 0, .inl (0, 0, [])), (.getfield 66, .inl (8, 9, [2, 443])), (.arraylength, .inl (0, 0, [])), (.if_icmp .ge 16, .inl (59, 0, [])), (.aload_n 0, .inl (0, 0, [])), (.getfield 66, .inl (8, 9, [2, 443])), (.iload_n 1, .inl (0, 0, [])), (.aconst_null, .inl (0, 0, [])), (.aastore, .inl (0, 0, [])), (.iinc 1 1, .inr (.inr (.int 1, 0))), (.goto (-19), .inl (37, 0, []))]
theorem sk_X8_startOver_37 : pp_chk mi_X8_startOver 59 37 (pp_cnt mi_X8_startOver 37) sg_X8_startOver_37 = true := by decide +kernel
def sg_X8_startOver_59 : pp_Seg := [(.return_, .inl (0, 0, []))]
theorem sk_X8_startOver_59 : pp_chk mi_X8_startOver 60 59 (pp_cnt mi_X8_startOver 59) sg_X8_startOver_59 = true := by decide +kernel
def sg_X5_position_0 : pp_Seg := [(.aload_n 0, .inl (0, 0, [])), (.getfield 33, .inl (5, 3, [2, 354])), (.getfield 37, .inl (7, 4, [0, 332])), (.ireturn, .inl (0, 0, []))]
theorem sk_X5_position_0 : pp_chk mi_X5_position 8 0 (pp_cnt mi_X5_position 0) sg_X5_position_0 = true := by decide +kernel
def sg_X8_parse_0 : pp_Seg := [(.iload_n 1, .inl (0, 0, [])), (.ifCond .lt 11, .inl (12, 0, [])), (.iload_n 1, .inl (0, 0, [])), (.aload_n 0, .inl (0, 0, [])), (.getfield 13, .inl (8, 1, [0, 435])), (.if_icmp .le 13, .inl (22, 0, []))]
theorem sk_X8_parse_0 : pp_chk mi_X8_parse 12 0 (pp_cnt mi_X8_parse 0) sg_X8_parse_0 = true := by decide +kernel
def sg_X8_parse_12 : pp_Seg := [(.athrow, .inl (0, 76, [0, 0]))]
theorem sk_X8_parse_12 : pp_chk mi_X8_parse 22 12 (pp_cnt mi_X8_parse 12) sg_X8_parse_12 = true := by decide +kernel
def sg_X8_parse_22 : pp_Seg := [(.aload_n 0, .inl (0, 0, [])), (.iconst 0, .inr (.inr (.int 0, 0))), (.putfield 13, .inl (8, 1, [0, 435])), (.aload_n 0, .inl (0, 0, [])), (.getfield 25, .inl (8, 3, [2, 437])), (.iload_n 1, .inl (0, 0, [])), (.invokevirtual 81, .inr (.inl (mi_X5_readPool, 5, 646, [0, 0]))), (.istore_n 2, .inl (0, 0, [])), (.iload_n 2, .inl (0, 0, [])), (.ifCond .ne 15, .inl (52, 0, [])), (.aload_n 0, .inl (0, 0, [])), (.iconst (-1), .inr (.inr (.int (-1), 0))), (.putfield 17, .inl (8, 2, [0, 436])), (.aload_n 0, .inl (0, 0, [])), (.invokevirtual 85, .inr (.inl (mi_X8_startOver, 8, 803, [0]))), (.goto 14, .inl (63, 0, []))]
theorem sk_X8_parse_22 : pp_chk mi_X8_parse 52 22 (pp_cnt mi_X8_parse 22) sg_X8_parse_22 = true := by decide +kernel
def sg_X8_parse_52 : pp_Seg := [(.aload_n 0, .inl (0, 0, [])), (.aload_n 0, .inl (0, 0, [])), (.getfield 25, .inl (8, 3, [2, 437])), (.invokevirtual 88, .inr (.inl (mi_X5_position, 5, 822, [0]))), (.putfield 17, .inl (8, 2, [0, 436]))]
theorem sk_X8_parse_52 : pp_chk mi_X8_parse 63 52 (pp_cnt mi_X8_parse 52) sg_X8_parse_52 = true := by decide +kernel
def sg_X8_parse_63 : pp_Seg := [(.iload_n 2, .inl (0, 0, [])), (.ireturn, .inl (0, 0, []))]
theorem sk_X8_parse_63 : pp_chk mi_X8_parse 65 63 (pp_cnt mi_X8_parse 63) sg_X8_parse_63 = true := by decide +kernel
def sg_X8_errorPosition_0 : pp_Seg := [(.aload_n 0, .inl (0, 0, [])), (.getfield 17, .inl (8, 2, [0, 436])), (.ireturn, .inl (0, 0, []))]
theorem sk_X8_errorPosition_0 : pp_chk mi_X8_errorPosition 5 0 (pp_cnt mi_X8_errorPosition 0) sg_X8_errorPosition_0 = true := by decide +kernel
def sg_X8_size_0 : pp_Seg := [(.iload_n 1, .inl (0, 0, [])), (.tableswitch 63 0 3 #[31, 39, 47, 55], .inl (64, 31, [32, 40, 48, 56]))]
theorem sk_X8_size_0 : pp_chk mi_X8_size 32 0 (pp_cnt mi_X8_size 0) sg_X8_size_0 = true := by decide +kernel
def sg_X8_size_32 : pp_Seg := [(.aload_n 0, .inl (0, 0, [])), (.getfield 39, .inl (8, 5, [2, 439])), (.getfield 104, .inl (4, 2, [0, 242])), (.ireturn, .inl (0, 0, []))]
theorem sk_X8_size_32 : pp_chk mi_X8_size 40 32 (pp_cnt mi_X8_size 32) sg_X8_size_32 = true := by decide +kernel
def sg_X8_size_40 : pp_Seg := [(.aload_n 0, .inl (0, 0, [])), (.getfield 32, .inl (8, 4, [2, 438])), (.getfield 107, .inl (6, 0, [0, 153])), (.ireturn, .inl (0, 0, []))]
theorem sk_X8_size_40 : pp_chk mi_X8_size 48 40 (pp_cnt mi_X8_size 40) sg_X8_size_40 = true := by decide +kernel
def sg_X8_size_48 : pp_Seg := [(.aload_n 0, .inl (0, 0, [])), (.getfield 39, .inl (8, 5, [2, 439])), (.getfield 110, .inl (4, 4, [0, 247])), (.ireturn, .inl (0, 0, []))]
theorem sk_X8_size_48 : pp_chk mi_X8_size 56 48 (pp_cnt mi_X8_size 48) sg_X8_size_48 = true := by decide +kernel
def sg_X8_size_56 : pp_Seg := [(.aload_n 0, .inl (0, 0, [])), (.getfield 32, .inl (8, 4, [2, 438])), (.getfield 113, .inl (6, 3, [0, 161])), (.ireturn, .inl (0, 0, []))]
theorem sk_X8_size_56 : pp_chk mi_X8_size 64 56 (pp_cnt mi_X8_size 56) sg_X8_size_56 = true := by decide +kernel
def sg_X8_size_64 : pp_Seg := [(.athrow, .inl (0, 116, [0, 1]))]
theorem sk_X8_size_64 : pp_chk mi_X8_size 74 64 (pp_cnt mi_X8_size 64) sg_X8_size_64 = true := by decide +kernel
def sg_X8_today_0 : pp_Seg := [(.aload_n 0, .inl (0, 0, [])), (.getfield 39, .inl (8, 5, [2, 439])), (.getfield 118, .inl (4, 0, [0, 237])), (.ireturn, .inl (0, 0, []))]
theorem sk_X8_today_0 : pp_chk mi_X8_today 8 0 (pp_cnt mi_X8_today 0) sg_X8_today_0 = true := by decide +kernel
def sg_X8_period_0 : pp_Seg := [(.aload_n 0, .inl (0, 0, [])), (.getfield 39, .inl (8, 5, [2, 439])), (.getfield 121, .inl (4, 1, [0, 239])), (.ireturn, .inl (0, 0, []))]
theorem sk_X8_period_0 : pp_chk mi_X8_period 8 0 (pp_cnt mi_X8_period 0) sg_X8_period_0 = true := by decide +kernel
def sg_X8_checkPatent_0 : pp_Seg := [(.iload_n 1, .inl (0, 0, [])), (.ifCond .lt 14, .inl (15, 0, [])), (.iload_n 1, .inl (0, 0, [])), (.aload_n 0, .inl (0, 0, [])), (.getfield 39, .inl (8, 5, [2, 439])), (.getfield 110, .inl (4, 4, [0, 247])), (.if_icmp .lt 14, .inl (26, 0, []))]
theorem sk_X8_checkPatent_0 : pp_chk mi_X8_checkPatent 15 0 (pp_cnt mi_X8_checkPatent 0) sg_X8_checkPatent_0 = true := by decide +kernel
def sg_X8_checkPatent_15 : pp_Seg := [(.athrow, .inl (2, 331, [1, 20]))]
theorem sk_X8_checkPatent_15 : pp_chk mi_X8_checkPatent 26 15 (pp_cnt mi_X8_checkPatent 15) sg_X8_checkPatent_15 = true := by decide +kernel
def sg_X8_checkPatent_26 : pp_Seg := [(.return_, .inl (0, 0, []))]
theorem sk_X8_checkPatent_26 : pp_chk mi_X8_checkPatent 27 26 (pp_cnt mi_X8_checkPatent 26) sg_X8_checkPatent_26 = true := by decide +kernel
def sg_X8_checkVersion_0 : pp_Seg := [(.iload_n 1, .inl (0, 0, [])), (.ifCond .lt 14, .inl (15, 0, [])), (.iload_n 1, .inl (0, 0, [])), (.aload_n 0, .inl (0, 0, [])), (.getfield 32, .inl (8, 4, [2, 438])), (.getfield 107, .inl (6, 0, [0, 153])), (.if_icmp .lt 14, .inl (26, 0, []))]
theorem sk_X8_checkVersion_0 : pp_chk mi_X8_checkVersion 15 0 (pp_cnt mi_X8_checkVersion 0) sg_X8_checkVersion_0 = true := by decide +kernel
def sg_X8_checkVersion_15 : pp_Seg := [(.athrow, .inl (2, 329, [1, 19]))]
theorem sk_X8_checkVersion_15 : pp_chk mi_X8_checkVersion 26 15 (pp_cnt mi_X8_checkVersion 15) sg_X8_checkVersion_15 = true := by decide +kernel
def sg_X8_checkVersion_26 : pp_Seg := [(.return_, .inl (0, 0, []))]
theorem sk_X8_checkVersion_26 : pp_chk mi_X8_checkVersion 27 26 (pp_cnt mi_X8_checkVersion 26) sg_X8_checkVersion_26 = true := by decide +kernel
def sg_X8_pairOf_0 : pp_Seg := [(.iload_n 0, .inl (0, 0, [])), (.iconst 4, .inr (.inr (.int 4, 0))), (.imul, .inl (0, 0, [])), (.iload_n 1, .inl (0, 0, [])), (.iadd, .inl (0, 0, [])), (.ireturn, .inl (0, 0, []))]
theorem sk_X8_pairOf_0 : pp_chk mi_X8_pairOf 6 0 (pp_cnt mi_X8_pairOf 0) sg_X8_pairOf_0 = true := by decide +kernel
def sg_X0_outcome_0 : pp_Seg := [(.iload_n 1, .inl (0, 0, [])), (.aload_n 0, .inl (0, 0, [])), (.getfield 9, .inl (0, 0, [2, 383])), (.getfield 41, .inl (6, 5, [0, 165])), (.if_icmp .ge 5, .inl (13, 0, [])), (.iconst 0, .inr (.inr (.int 0, 0))), (.ireturn, .inl (0, 0, []))]
theorem sk_X0_outcome_0 : pp_chk mi_X0_outcome 13 0 (pp_cnt mi_X0_outcome 0) sg_X0_outcome_0 = true := by decide +kernel
def sg_X0_outcome_13 : pp_Seg := [(.iload_n 2, .inl (0, 0, [])), (.bipush 100, .inr (.inr (.int 100, 0))), (.imul, .inl (0, 0, [])), (.aload_n 0, .inl (0, 0, [])), (.getfield 9, .inl (0, 0, [2, 383])), (.getfield 47, .inl (6, 6, [0, 168])), (.iload_n 1, .inl (0, 0, [])), (.imul, .inl (0, 0, [])), (.if_icmp .lt 7, .inl (33, 0, [])), (.iconst 1, .inr (.inr (.int 1, 0))), (.goto 4, .inl (34, 0, []))]
theorem sk_X0_outcome_13 : pp_chk mi_X0_outcome 33 13 (pp_cnt mi_X0_outcome 13) sg_X0_outcome_13 = true := by decide +kernel
def sg_X0_outcome_33 : pp_Seg := [(.iconst 2, .inr (.inr (.int 2, 0)))]
theorem sk_X0_outcome_33 : pp_chk mi_X0_outcome 34 33 (pp_cnt mi_X0_outcome 33) sg_X0_outcome_33 = true := by decide +kernel
def sg_X0_outcome_34 : pp_Seg := [(.ireturn, .inl (0, 0, []))]
theorem sk_X0_outcome_34 : pp_chk mi_X0_outcome 35 34 (pp_cnt mi_X0_outcome 34) sg_X0_outcome_34 = true := by decide +kernel
def sg_X0_decide_0 : pp_Seg := [(.iload_n 1, .inl (0, 0, [])), (.iload_n 2, .inl (0, 0, [])), (.invokestatic 19, .inr (.inl (mi_X8_pairOf, 9999, 0, [0, 0]))), (.istore_n 3, .inl (0, 0, [])), (.aload_n 0, .inl (0, 0, [])), (.getfield 15, .inl (0, 1, [2, 384])), (.getfield 23, .inl (4, 7, [2, 256])), (.iload_n 3, .inl (0, 0, [])), (.iaload, .inl (0, 0, [])), (.istore 4, .inl (0, 0, [])), (.aload_n 0, .inl (0, 0, [])), (.iload 4, .inl (0, 0, [])), (.aload_n 0, .inl (0, 0, [])), (.getfield 15, .inl (0, 1, [2, 384])), (.getfield 29, .inl (4, 8, [2, 259])), (.iload_n 3, .inl (0, 0, [])), (.iaload, .inl (0, 0, [])), (.ior, .inl (0, 0, [])), (.invokestatic 32, .inr (.inl (mi_J6_bitCount_0f7a4, 0, 520, [0]))), (.iload 4, .inl (0, 0, [])), (.invokestatic 32, .inr (.inl (mi_J6_bitCount_0f7a4, 0, 520, [0]))), (.invokevirtual 38, .inr (.inl (mi_X0_outcome, 0, 526, [0, 0, 0]))), (.ireturn, .inl (0, 0, []))]
theorem sk_X0_decide_0 : pp_chk mi_X0_decide 42 0 (pp_cnt mi_X0_decide 0) sg_X0_decide_0 = true := by decide +kernel
def sg_X8_decision_0 : pp_Seg := [(.aload_n 0, .inl (0, 0, [])), (.iload_n 1, .inl (0, 0, [])), (.invokevirtual 124, .inr (.inl (mi_X8_checkPatent, 8, 842, [0, 0]))), (.aload_n 0, .inl (0, 0, [])), (.iload_n 2, .inl (0, 0, [])), (.invokevirtual 127, .inr (.inl (mi_X8_checkVersion, 8, 862, [0, 0]))), (.aload_n 0, .inl (0, 0, [])), (.getfield 48, .inl (8, 6, [2, 440])), (.iload_n 1, .inl (0, 0, [])), (.iload_n 2, .inl (0, 0, [])), (.invokevirtual 130, .inr (.inl (mi_X0_decide, 0, 867, [0, 0, 0]))), (.ireturn, .inl (0, 0, []))]
theorem sk_X8_decision_0 : pp_chk mi_X8_decision 20 0 (pp_cnt mi_X8_decision 0) sg_X8_decision_0 = true := by decide +kernel
def sg_X8_voters_0 : pp_Seg := [(.aload_n 0, .inl (0, 0, [])), (.iload_n 1, .inl (0, 0, [])), (.invokevirtual 124, .inr (.inl (mi_X8_checkPatent, 8, 842, [0, 0]))), (.aload_n 0, .inl (0, 0, [])), (.iload_n 2, .inl (0, 0, [])), (.invokevirtual 127, .inr (.inl (mi_X8_checkVersion, 8, 862, [0, 0]))), (.iload_n 1, .inl (0, 0, [])), (.iload_n 2, .inl (0, 0, [])), (.invokestatic 134, .inr (.inl (mi_X8_pairOf, 0, 875, [0, 0]))), (.istore 4, .inl (0, 0, [])), (.iload_n 3, .inl (0, 0, [])), (.ifCond .eq 16, .inl (34, 0, [])), (.aload_n 0, .inl (0, 0, [])), (.getfield 39, .inl (8, 5, [2, 439])), (.getfield 137, .inl (4, 7, [2, 257])), (.iload 4, .inl (0, 0, [])), (.iaload, .inl (0, 0, [])), (.goto 13, .inl (44, 0, []))]
theorem sk_X8_voters_0 : pp_chk mi_X8_voters 34 0 (pp_cnt mi_X8_voters 0) sg_X8_voters_0 = true := by decide +kernel
def sg_X8_voters_34 : pp_Seg := [(.aload_n 0, .inl (0, 0, [])), (.getfield 39, .inl (8, 5, [2, 439])), (.getfield 141, .inl (4, 8, [2, 260])), (.iload 4, .inl (0, 0, [])), (.iaload, .inl (0, 0, []))]
theorem sk_X8_voters_34 : pp_chk mi_X8_voters 44 34 (pp_cnt mi_X8_voters 34) sg_X8_voters_34 = true := by decide +kernel
def sg_X8_voters_44 : pp_Seg := [(.ireturn, .inl (0, 0, []))]
theorem sk_X8_voters_44 : pp_chk mi_X8_voters 45 44 (pp_cnt mi_X8_voters 44) sg_X8_voters_44 = true := by decide +kernel
def sg_X0_missingVotes_0 : pp_Seg := [(.iload_n 1, .inl (0, 0, [])), (.iload_n 2, .inl (0, 0, [])), (.invokestatic 19, .inr (.inl (mi_X8_pairOf, 9999, 0, [0, 0]))), (.istore_n 3, .inl (0, 0, [])), (.aload_n 0, .inl (0, 0, [])), (.getfield 15, .inl (0, 1, [2, 384])), (.getfield 23, .inl (4, 7, [2, 256])), (.iload_n 3, .inl (0, 0, [])), (.iaload, .inl (0, 0, [])), (.invokestatic 32, .inr (.inl (mi_J6_bitCount_0f7a4, 0, 520, [0]))), (.istore 4, .inl (0, 0, [])), (.iload 4, .inl (0, 0, [])), (.aload_n 0, .inl (0, 0, [])), (.getfield 15, .inl (0, 1, [2, 384])), (.getfield 29, .inl (4, 8, [2, 259])), (.iload_n 3, .inl (0, 0, [])), (.iaload, .inl (0, 0, [])), (.invokestatic 32, .inr (.inl (mi_J6_bitCount_0f7a4, 0, 520, [0]))), (.iadd, .inl (0, 0, [])), (.istore 5, .inl (0, 0, [])), (.iconst 0, .inr (.inr (.int 0, 0))), (.istore 6, .inl (0, 0, []))]
theorem sk_X0_missingVotes_0 : pp_chk mi_X0_missingVotes 40 0 (pp_cnt mi_X0_missingVotes 0) sg_X0_missingVotes_0 = true := by decide +kernel
def sg_X0_missingVotes_40 : pp_Seg := [(.iload 5, .inl (0, 0, [])), (.iload 6, .inl (0, 0, [])), (.iadd, .inl (0, 0, [])), (.iconst 5, .inr (.inr (.int 5, 0))), (.if_icmp .gt 30, .inl (76, 0, [])), (.aload_n 0, .inl (0, 0, [])), (.iload 5, .inl (0, 0, [])), (.iload 6, .inl (0, 0, [])), (.iadd, .inl (0, 0, [])), (.iload 4, .inl (0, 0, [])), (.iload 6, .inl (0, 0, [])), (.iadd, .inl (0, 0, [])), (.invokevirtual 38, .inr (.inl (mi_X0_outcome, 0, 526, [0, 0, 0]))), (.iconst 1, .inr (.inr (.int 1, 0))), (.if_icmp .ne 6, .inl (70, 0, [])), (.iload 6, .inl (0, 0, [])), (.ireturn, .inl (0, 0, []))]
theorem sk_X0_missingVotes_40 : pp_chk mi_X0_missingVotes 70 40 (pp_cnt mi_X0_missingVotes 40) sg_X0_missingVotes_40 = true := by decide +kernel
def sg_X0_missingVotes_70 : pp_Seg := [(.iinc 6 1, .inr (.inr (.int 1, 0))), (.goto (-33), .inl (40, 0, []))]
theorem sk_X0_missingVotes_70 : pp_chk mi_X0_missingVotes 76 70 (pp_cnt mi_X0_missingVotes 70) sg_X0_missingVotes_70 = true := by decide +kernel
def sg_X0_missingVotes_76 : pp_Seg := [(.iconst (-1), .inr (.inr (.int (-1), 0))), (.ireturn, .inl (0, 0, []))]
theorem sk_X0_missingVotes_76 : pp_chk mi_X0_missingVotes 78 76 (pp_cnt mi_X0_missingVotes 76) sg_X0_missingVotes_76 = true := by decide +kernel
def sg_X8_votesNeeded_0 : pp_Seg := [(.aload_n 0, .inl (0, 0, [])), (.iload_n 1, .inl (0, 0, [])), (.invokevirtual 124, .inr (.inl (mi_X8_checkPatent, 8, 842, [0, 0]))), (.aload_n 0, .inl (0, 0, [])), (.iload_n 2, .inl (0, 0, [])), (.invokevirtual 127, .inr (.inl (mi_X8_checkVersion, 8, 862, [0, 0]))), (.aload_n 0, .inl (0, 0, [])), (.getfield 48, .inl (8, 6, [2, 440])), (.iload_n 1, .inl (0, 0, [])), (.iload_n 2, .inl (0, 0, [])), (.invokevirtual 144, .inr (.inl (mi_X0_missingVotes, 0, 883, [0, 0, 0]))), (.ireturn, .inl (0, 0, []))]
theorem sk_X8_votesNeeded_0 : pp_chk mi_X8_votesNeeded 20 0 (pp_cnt mi_X8_votesNeeded 0) sg_X8_votesNeeded_0 = true := by decide +kernel
def sg_X0_releasedOn_0 : pp_Seg := [(.iload_n 2, .inl (0, 0, [])), (.aload_n 0, .inl (0, 0, [])), (.getfield 9, .inl (0, 0, [2, 383])), (.getfield 50, .inl (6, 1, [2, 156])), (.iload_n 1, .inl (0, 0, [])), (.iaload, .inl (0, 0, [])), (.if_icmp .lt 7, .inl (17, 0, [])), (.iconst 1, .inr (.inr (.int 1, 0))), (.goto 4, .inl (18, 0, []))]
theorem sk_X0_releasedOn_0 : pp_chk mi_X0_releasedOn 17 0 (pp_cnt mi_X0_releasedOn 0) sg_X0_releasedOn_0 = true := by decide +kernel
def sg_X0_releasedOn_17 : pp_Seg := [(.iconst 0, .inr (.inr (.int 0, 0)))]
theorem sk_X0_releasedOn_17 : pp_chk mi_X0_releasedOn 18 17 (pp_cnt mi_X0_releasedOn 17) sg_X0_releasedOn_17 = true := by decide +kernel
def sg_X0_releasedOn_18 : pp_Seg := [(.ireturn, .inl (0, 0, []))]
theorem sk_X0_releasedOn_18 : pp_chk mi_X0_releasedOn 19 18 (pp_cnt mi_X0_releasedOn 18) sg_X0_releasedOn_18 = true := by decide +kernel
def sg_X0_inForceOn_0 : pp_Seg := [(.iload_n 2, .inl (0, 0, [])), (.aload_n 0, .inl (0, 0, [])), (.getfield 15, .inl (0, 1, [2, 384])), (.getfield 53, .inl (4, 6, [2, 253])), (.iload_n 1, .inl (0, 0, [])), (.iaload, .inl (0, 0, [])), (.if_icmp .ge 7, .inl (17, 0, [])), (.iconst 1, .inr (.inr (.int 1, 0))), (.goto 4, .inl (18, 0, []))]
theorem sk_X0_inForceOn_0 : pp_chk mi_X0_inForceOn 17 0 (pp_cnt mi_X0_inForceOn 0) sg_X0_inForceOn_0 = true := by decide +kernel
def sg_X0_inForceOn_17 : pp_Seg := [(.iconst 0, .inr (.inr (.int 0, 0)))]
theorem sk_X0_inForceOn_17 : pp_chk mi_X0_inForceOn 18 17 (pp_cnt mi_X0_inForceOn 17) sg_X0_inForceOn_17 = true := by decide +kernel
def sg_X0_inForceOn_18 : pp_Seg := [(.ireturn, .inl (0, 0, []))]
theorem sk_X0_inForceOn_18 : pp_chk mi_X0_inForceOn 19 18 (pp_cnt mi_X0_inForceOn 18) sg_X0_inForceOn_18 = true := by decide +kernel
def sg_X0_countsOn_0 : pp_Seg := [(.aload_n 0, .inl (0, 0, [])), (.iload_n 2, .inl (0, 0, [])), (.iload_n 3, .inl (0, 0, [])), (.invokevirtual 56, .inr (.inl (mi_X0_releasedOn, 0, 505, [0, 0, 0]))), (.ifCond .eq 47, .inl (53, 0, [])), (.aload_n 0, .inl (0, 0, [])), (.iload_n 1, .inl (0, 0, [])), (.iload_n 3, .inl (0, 0, [])), (.invokevirtual 60, .inr (.inl (mi_X0_inForceOn, 0, 509, [0, 0, 0]))), (.ifCond .eq 38, .inl (53, 0, [])), (.iload_n 3, .inl (0, 0, [])), (.aload_n 0, .inl (0, 0, [])), (.getfield 15, .inl (0, 1, [2, 384])), (.getfield 63, .inl (4, 3, [2, 244])), (.aload_n 0, .inl (0, 0, [])), (.getfield 15, .inl (0, 1, [2, 384])), (.getfield 66, .inl (4, 5, [2, 250])), (.iload_n 1, .inl (0, 0, [])), (.iaload, .inl (0, 0, [])), (.iaload, .inl (0, 0, [])), (.if_icmp .lt 17, .inl (53, 0, [])), (.aload_n 0, .inl (0, 0, [])), (.iload_n 1, .inl (0, 0, [])), (.iload_n 2, .inl (0, 0, [])), (.invokevirtual 69, .inr (.inl (mi_X0_decide, 0, 513, [0, 0, 0]))), (.iconst 1, .inr (.inr (.int 1, 0))), (.if_icmp .ne 7, .inl (53, 0, [])), (.iconst 1, .inr (.inr (.int 1, 0))), (.goto 4, .inl (54, 0, []))]
theorem sk_X0_countsOn_0 : pp_chk mi_X0_countsOn 53 0 (pp_cnt mi_X0_countsOn 0) sg_X0_countsOn_0 = true := by decide +kernel
def sg_X0_countsOn_53 : pp_Seg := [(.iconst 0, .inr (.inr (.int 0, 0)))]
theorem sk_X0_countsOn_53 : pp_chk mi_X0_countsOn 54 53 (pp_cnt mi_X0_countsOn 53) sg_X0_countsOn_53 = true := by decide +kernel
def sg_X0_countsOn_54 : pp_Seg := [(.ireturn, .inl (0, 0, []))]
theorem sk_X0_countsOn_54 : pp_chk mi_X0_countsOn 55 54 (pp_cnt mi_X0_countsOn 54) sg_X0_countsOn_54 = true := by decide +kernel
def sg_X8_counts_0 : pp_Seg := [(.aload_n 0, .inl (0, 0, [])), (.iload_n 1, .inl (0, 0, [])), (.invokevirtual 124, .inr (.inl (mi_X8_checkPatent, 8, 842, [0, 0]))), (.aload_n 0, .inl (0, 0, [])), (.iload_n 2, .inl (0, 0, [])), (.invokevirtual 127, .inr (.inl (mi_X8_checkVersion, 8, 862, [0, 0]))), (.aload_n 0, .inl (0, 0, [])), (.getfield 48, .inl (8, 6, [2, 440])), (.iload_n 1, .inl (0, 0, [])), (.iload_n 2, .inl (0, 0, [])), (.aload_n 0, .inl (0, 0, [])), (.getfield 39, .inl (8, 5, [2, 439])), (.getfield 118, .inl (4, 0, [0, 237])), (.invokevirtual 147, .inr (.inl (mi_X0_countsOn, 0, 894, [0, 0, 0, 0]))), (.ireturn, .inl (0, 0, []))]
theorem sk_X8_counts_0 : pp_chk mi_X8_counts 27 0 (pp_cnt mi_X8_counts 0) sg_X8_counts_0 = true := by decide +kernel
def sg_X8_checkMember_0 : pp_Seg := [(.iload_n 1, .inl (0, 0, [])), (.ifCond .lt 14, .inl (15, 0, [])), (.iload_n 1, .inl (0, 0, [])), (.aload_n 0, .inl (0, 0, [])), (.getfield 39, .inl (8, 5, [2, 439])), (.getfield 104, .inl (4, 2, [0, 242])), (.if_icmp .lt 14, .inl (26, 0, []))]
theorem sk_X8_checkMember_0 : pp_chk mi_X8_checkMember 15 0 (pp_cnt mi_X8_checkMember 0) sg_X8_checkMember_0 = true := by decide +kernel
def sg_X8_checkMember_15 : pp_Seg := [(.athrow, .inl (2, 327, [1, 18]))]
theorem sk_X8_checkMember_15 : pp_chk mi_X8_checkMember 26 15 (pp_cnt mi_X8_checkMember 15) sg_X8_checkMember_15 = true := by decide +kernel
def sg_X8_checkMember_26 : pp_Seg := [(.return_, .inl (0, 0, []))]
theorem sk_X8_checkMember_26 : pp_chk mi_X8_checkMember 27 26 (pp_cnt mi_X8_checkMember 26) sg_X8_checkMember_26 = true := by decide +kernel
def sg_X8_firstToExpire_0 : pp_Seg := [(.aload_n 0, .inl (0, 0, [])), (.iload_n 1, .inl (0, 0, [])), (.invokevirtual 151, .inr (.inl (mi_X8_checkMember, 8, 902, [0, 0]))), (.iconst (-1), .inr (.inr (.int (-1), 0))), (.istore_n 2, .inl (0, 0, [])), (.iconst 0, .inr (.inr (.int 0, 0))), (.istore_n 3, .inl (0, 0, []))]
theorem sk_X8_firstToExpire_0 : pp_chk mi_X8_firstToExpire 9 0 (pp_cnt mi_X8_firstToExpire 0) sg_X8_firstToExpire_0 = true := by decide +kernel
def sg_X8_firstToExpire_9 : pp_Seg := [(.iload_n 3, .inl (0, 0, [])), (.aload_n 0, .inl (0, 0, [])), (.getfield 39, .inl (8, 5, [2, 439])), (.getfield 110, .inl (4, 4, [0, 247])), (.if_icmp .ge 68, .inl (85, 0, [])), (.aload_n 0, .inl (0, 0, [])), (.getfield 39, .inl (8, 5, [2, 439])), (.getfield 154, .inl (4, 5, [2, 251])), (.iload_n 3, .inl (0, 0, [])), (.iaload, .inl (0, 0, [])), (.iload_n 1, .inl (0, 0, [])), (.if_icmp .ne 49, .inl (79, 0, [])), (.aload_n 0, .inl (0, 0, [])), (.getfield 48, .inl (8, 6, [2, 440])), (.iload_n 3, .inl (0, 0, [])), (.aload_n 0, .inl (0, 0, [])), (.getfield 39, .inl (8, 5, [2, 439])), (.getfield 118, .inl (4, 0, [0, 237])), (.invokevirtual 157, .inr (.inl (mi_X0_inForceOn, 0, 907, [0, 0, 0]))), (.ifCond .eq 31, .inl (79, 0, [])), (.iload_n 2, .inl (0, 0, [])), (.iconst (-1), .inr (.inr (.int (-1), 0))), (.if_icmp .eq 24, .inl (77, 0, [])), (.aload_n 0, .inl (0, 0, [])), (.getfield 39, .inl (8, 5, [2, 439])), (.getfield 161, .inl (4, 6, [2, 254])), (.iload_n 3, .inl (0, 0, [])), (.iaload, .inl (0, 0, [])), (.aload_n 0, .inl (0, 0, [])), (.getfield 39, .inl (8, 5, [2, 439])), (.getfield 161, .inl (4, 6, [2, 254])), (.iload_n 2, .inl (0, 0, [])), (.iaload, .inl (0, 0, [])), (.if_icmp .ge 5, .inl (79, 0, []))]
theorem sk_X8_firstToExpire_9 : pp_chk mi_X8_firstToExpire 77 9 (pp_cnt mi_X8_firstToExpire 9) sg_X8_firstToExpire_9 = true := by decide +kernel
def sg_X8_firstToExpire_77 : pp_Seg := [(.iload_n 3, .inl (0, 0, [])), (.istore_n 2, .inl (0, 0, []))]
theorem sk_X8_firstToExpire_77 : pp_chk mi_X8_firstToExpire 79 77 (pp_cnt mi_X8_firstToExpire 77) sg_X8_firstToExpire_77 = true := by decide +kernel
def sg_X8_firstToExpire_79 : pp_Seg := [(.iinc 3 1, .inr (.inr (.int 1, 0))), (.goto (-73), .inl (9, 0, []))]
theorem sk_X8_firstToExpire_79 : pp_chk mi_X8_firstToExpire 85 79 (pp_cnt mi_X8_firstToExpire 79) sg_X8_firstToExpire_79 = true := by decide +kernel
def sg_X8_firstToExpire_85 : pp_Seg := [(.iload_n 2, .inl (0, 0, [])), (.ireturn, .inl (0, 0, []))]
theorem sk_X8_firstToExpire_85 : pp_chk mi_X8_firstToExpire 87 85 (pp_cnt mi_X8_firstToExpire 85) sg_X8_firstToExpire_85 = true := by decide +kernel
def sg_X0_versionsOn_0 : pp_Seg := [(.iconst 0, .inr (.inr (.int 0, 0))), (.istore_n 3, .inl (0, 0, [])), (.iconst 0, .inr (.inr (.int 0, 0))), (.istore 4, .inl (0, 0, []))]
theorem sk_X0_versionsOn_0 : pp_chk mi_X0_versionsOn 5 0 (pp_cnt mi_X0_versionsOn 0) sg_X0_versionsOn_0 = true := by decide +kernel
def sg_X0_versionsOn_5 : pp_Seg := [(.iload 4, .inl (0, 0, [])), (.aload_n 0, .inl (0, 0, [])), (.getfield 9, .inl (0, 0, [2, 383])), (.getfield 103, .inl (6, 0, [0, 154])), (.if_icmp .ge 28, .inl (42, 0, [])), (.iload_n 3, .inl (0, 0, [])), (.aload_n 0, .inl (0, 0, [])), (.iload_n 1, .inl (0, 0, [])), (.iload 4, .inl (0, 0, [])), (.iload_n 2, .inl (0, 0, [])), (.invokevirtual 106, .inr (.inl (mi_X0_countsOn, 0, 501, [0, 0, 0, 0]))), (.ifCond .eq 7, .inl (33, 0, [])), (.iconst 1, .inr (.inr (.int 1, 0))), (.goto 4, .inl (34, 0, []))]
theorem sk_X0_versionsOn_5 : pp_chk mi_X0_versionsOn 33 5 (pp_cnt mi_X0_versionsOn 5) sg_X0_versionsOn_5 = true := by decide +kernel
def sg_X0_versionsOn_33 : pp_Seg := [(.iconst 0, .inr (.inr (.int 0, 0)))]
theorem sk_X0_versionsOn_33 : pp_chk mi_X0_versionsOn 34 33 (pp_cnt mi_X0_versionsOn 33) sg_X0_versionsOn_33 = true := by decide +kernel
def sg_X0_versionsOn_34 : pp_Seg := [(.iadd, .inl (0, 0, [])), (.istore_n 3, .inl (0, 0, [])), (.iinc 4 1, .inr (.inr (.int 1, 0))), (.goto (-34), .inl (5, 0, []))]
theorem sk_X0_versionsOn_34 : pp_chk mi_X0_versionsOn 42 34 (pp_cnt mi_X0_versionsOn 34) sg_X0_versionsOn_34 = true := by decide +kernel
def sg_X0_versionsOn_42 : pp_Seg := [(.iload_n 3, .inl (0, 0, [])), (.ireturn, .inl (0, 0, []))]
theorem sk_X0_versionsOn_42 : pp_chk mi_X0_versionsOn 44 42 (pp_cnt mi_X0_versionsOn 42) sg_X0_versionsOn_42 = true := by decide +kernel
def sg_X2_combined_0 : pp_Seg := [(.iload_n 0, .inl (0, 0, [])), (.tableswitch 39 (-6) (-4) #[35, 31, 27], .inl (40, 27, [36, 32, 28]))]
theorem sk_X2_combined_0 : pp_chk mi_X2_combined 28 0 (pp_cnt mi_X2_combined 0) sg_X2_combined_0 = true := by decide +kernel
def sg_X2_combined_28 : pp_Seg := [(.iload_n 1, .inl (0, 0, [])), (.iload_n 2, .inl (0, 0, [])), (.iadd, .inl (0, 0, [])), (.ireturn, .inl (0, 0, []))]
theorem sk_X2_combined_28 : pp_chk mi_X2_combined 32 28 (pp_cnt mi_X2_combined 28) sg_X2_combined_28 = true := by decide +kernel
def sg_X2_combined_32 : pp_Seg := [(.iload_n 1, .inl (0, 0, [])), (.iload_n 2, .inl (0, 0, [])), (.isub, .inl (0, 0, [])), (.ireturn, .inl (0, 0, []))]
theorem sk_X2_combined_32 : pp_chk mi_X2_combined 36 32 (pp_cnt mi_X2_combined 32) sg_X2_combined_32 = true := by decide +kernel
def sg_X2_combined_36 : pp_Seg := [(.iload_n 1, .inl (0, 0, [])), (.iload_n 2, .inl (0, 0, [])), (.imul, .inl (0, 0, [])), (.ireturn, .inl (0, 0, []))]
theorem sk_X2_combined_36 : pp_chk mi_X2_combined 40 36 (pp_cnt mi_X2_combined 36) sg_X2_combined_36 = true := by decide +kernel
def sg_X2_combined_40 : pp_Seg := [(.iload_n 2, .inl (0, 0, [])), (.ifCond .ne 7, .inl (48, 0, [])), (.iconst 0, .inr (.inr (.int 0, 0))), (.goto 6, .inl (51, 0, []))]
theorem sk_X2_combined_40 : pp_chk mi_X2_combined 48 40 (pp_cnt mi_X2_combined 40) sg_X2_combined_40 = true := by decide +kernel
def sg_X2_combined_48 : pp_Seg := [(.iload_n 1, .inl (0, 0, [])), (.iload_n 2, .inl (0, 0, [])), (.idiv, .inl (0, 0, []))]
theorem sk_X2_combined_48 : pp_chk mi_X2_combined 51 48 (pp_cnt mi_X2_combined 48) sg_X2_combined_48 = true := by decide +kernel
def sg_X2_combined_51 : pp_Seg := [(.ireturn, .inl (0, 0, []))]
theorem sk_X2_combined_51 : pp_chk mi_X2_combined 52 51 (pp_cnt mi_X2_combined 51) sg_X2_combined_51 = true := by decide +kernel
def sg_X2_operand_0 : pp_Seg := [(.iload_n 0, .inl (0, 0, [])), (.tableswitch 33 (-3) (-1) #[31, 29, 27], .inl (34, 27, [32, 30, 28]))]
theorem sk_X2_operand_0 : pp_chk mi_X2_operand 28 0 (pp_cnt mi_X2_operand 0) sg_X2_operand_0 = true := by decide +kernel
def sg_X2_operand_28 : pp_Seg := [(.iload_n 1, .inl (0, 0, [])), (.ireturn, .inl (0, 0, []))]
theorem sk_X2_operand_28 : pp_chk mi_X2_operand 30 28 (pp_cnt mi_X2_operand 28) sg_X2_operand_28 = true := by decide +kernel
def sg_X2_operand_30 : pp_Seg := [(.iload_n 2, .inl (0, 0, [])), (.ireturn, .inl (0, 0, []))]
theorem sk_X2_operand_30 : pp_chk mi_X2_operand 32 30 (pp_cnt mi_X2_operand 30) sg_X2_operand_30 = true := by decide +kernel
def sg_X2_operand_32 : pp_Seg := [(.iload_n 3, .inl (0, 0, [])), (.ireturn, .inl (0, 0, []))]
theorem sk_X2_operand_32 : pp_chk mi_X2_operand 34 32 (pp_cnt mi_X2_operand 32) sg_X2_operand_32 = true := by decide +kernel
def sg_X2_operand_34 : pp_Seg := [(.iload_n 0, .inl (0, 0, [])), (.ireturn, .inl (0, 0, []))]
theorem sk_X2_operand_34 : pp_chk mi_X2_operand 36 34 (pp_cnt mi_X2_operand 34) sg_X2_operand_34 = true := by decide +kernel
def sg_X2_evaluate_0 : pp_Seg := [(.iconst 0, .inr (.inr (.int 0, 0))), (.istore 4, .inl (0, 0, [])), (.iconst 0, .inr (.inr (.int 0, 0))), (.istore 5, .inl (0, 0, []))]
theorem sk_X2_evaluate_0 : pp_chk mi_X2_evaluate 6 0 (pp_cnt mi_X2_evaluate 0) sg_X2_evaluate_0 = true := by decide +kernel
def sg_X2_evaluate_6 : pp_Seg := [(.iload 5, .inl (0, 0, [])), (.aload_n 0, .inl (0, 0, [])), (.getfield 15, .inl (2, 1, [0, 128])), (.if_icmp .ge 112, .inl (124, 0, [])), (.iload 5, .inl (0, 0, [])), (.aload_n 0, .inl (0, 0, [])), (.getfield 9, .inl (2, 0, [2, 127])), (.arraylength, .inl (0, 0, [])), (.if_icmp .ge 102, .inl (124, 0, [])), (.aload_n 0, .inl (0, 0, [])), (.getfield 9, .inl (2, 0, [2, 127])), (.iload 5, .inl (0, 0, [])), (.iaload, .inl (0, 0, [])), (.istore 6, .inl (0, 0, [])), (.iload 6, .inl (0, 0, [])), (.bipush (-4), .inr (.inr (.int (-4), 0))), (.if_icmp .gt 45, .inl (83, 0, [])), (.iload 4, .inl (0, 0, [])), (.iconst 2, .inr (.inr (.int 2, 0))), (.if_icmp .lt 39, .inl (83, 0, [])), (.iinc 4 (-1), .inr (.inr (.int (-1), 0))), (.aload_n 0, .inl (0, 0, [])), (.getfield 19, .inl (2, 2, [2, 129])), (.iload 4, .inl (0, 0, [])), (.iconst 1, .inr (.inr (.int 1, 0))), (.isub, .inl (0, 0, [])), (.iload 6, .inl (0, 0, [])), (.aload_n 0, .inl (0, 0, [])), (.getfield 19, .inl (2, 2, [2, 129])), (.iload 4, .inl (0, 0, [])), (.iconst 1, .inr (.inr (.int 1, 0))), (.isub, .inl (0, 0, [])), (.iaload, .inl (0, 0, [])), (.aload_n 0, .inl (0, 0, [])), (.getfield 19, .inl (2, 2, [2, 129])), (.iload 4, .inl (0, 0, [])), (.iaload, .inl (0, 0, [])), (.invokestatic 28, .inr (.inl (mi_X2_combined, 0, 534, [0, 0, 0]))), (.iastore, .inl (0, 0, [])), (.goto 38, .inl (118, 0, []))]
theorem sk_X2_evaluate_6 : pp_chk mi_X2_evaluate 83 6 (pp_cnt mi_X2_evaluate 6) sg_X2_evaluate_6 = true := by decide +kernel
def sg_X2_evaluate_83 : pp_Seg := [(.iload 6, .inl (0, 0, [])), (.bipush (-4), .inr (.inr (.int (-4), 0))), (.if_icmp .le 31, .inl (118, 0, [])), (.iload 4, .inl (0, 0, [])), (.aload_n 0, .inl (0, 0, [])), (.getfield 19, .inl (2, 2, [2, 129])), (.arraylength, .inl (0, 0, [])), (.if_icmp .ge 21, .inl (118, 0, [])), (.aload_n 0, .inl (0, 0, [])), (.getfield 19, .inl (2, 2, [2, 129])), (.iload 4, .inl (0, 0, [])), (.iload 6, .inl (0, 0, [])), (.iload_n 1, .inl (0, 0, [])), (.iload_n 2, .inl (0, 0, [])), (.iload_n 3, .inl (0, 0, [])), (.invokestatic 32, .inr (.inl (mi_X2_operand, 0, 537, [0, 0, 0, 0]))), (.iastore, .inl (0, 0, [])), (.iinc 4 1, .inr (.inr (.int 1, 0)))]
theorem sk_X2_evaluate_83 : pp_chk mi_X2_evaluate 118 83 (pp_cnt mi_X2_evaluate 83) sg_X2_evaluate_83 = true := by decide +kernel
def sg_X2_evaluate_118 : pp_Seg := [(.iinc 5 1, .inr (.inr (.int 1, 0))), (.goto (-115), .inl (6, 0, []))]
theorem sk_X2_evaluate_118 : pp_chk mi_X2_evaluate 124 118 (pp_cnt mi_X2_evaluate 118) sg_X2_evaluate_118 = true := by decide +kernel
def sg_X2_evaluate_124 : pp_Seg := [(.aload_n 0, .inl (0, 0, [])), (.getfield 19, .inl (2, 2, [2, 129])), (.iconst 0, .inr (.inr (.int 0, 0))), (.iaload, .inl (0, 0, [])), (.ireturn, .inl (0, 0, []))]
theorem sk_X2_evaluate_124 : pp_chk mi_X2_evaluate 131 124 (pp_cnt mi_X2_evaluate 124) sg_X2_evaluate_124 = true := by decide +kernel
def sg_X0_weightOn_0 : pp_Seg := [(.iload_n 2, .inl (0, 0, [])), (.aload_n 0, .inl (0, 0, [])), (.getfield 15, .inl (0, 1, [2, 384])), (.getfield 63, .inl (4, 3, [2, 244])), (.iload_n 1, .inl (0, 0, [])), (.iaload, .inl (0, 0, [])), (.isub, .inl (0, 0, [])), (.istore_n 3, .inl (0, 0, [])), (.iload_n 3, .inl (0, 0, [])), (.ifCond .ge 5, .inl (18, 0, [])), (.iconst 0, .inr (.inr (.int 0, 0))), (.ireturn, .inl (0, 0, []))]
theorem sk_X0_weightOn_0 : pp_chk mi_X0_weightOn 18 0 (pp_cnt mi_X0_weightOn 0) sg_X0_weightOn_0 = true := by decide +kernel
def sg_X0_weightOn_18 : pp_Seg := [(.iconst 0, .inr (.inr (.int 0, 0))), (.istore 4, .inl (0, 0, [])), (.iconst 0, .inr (.inr (.int 0, 0))), (.istore 5, .inl (0, 0, [])), (.iconst 0, .inr (.inr (.int 0, 0))), (.istore 6, .inl (0, 0, []))]
theorem sk_X0_weightOn_18 : pp_chk mi_X0_weightOn 27 18 (pp_cnt mi_X0_weightOn 18) sg_X0_weightOn_18 = true := by decide +kernel
def sg_X0_weightOn_27 : pp_Seg := [(.iload 6, .inl (0, 0, [])), (.aload_n 0, .inl (0, 0, [])), (.getfield 15, .inl (0, 1, [2, 384])), (.getfield 72, .inl (4, 4, [0, 248])), (.if_icmp .ge 58, .inl (94, 0, [])), (.aload_n 0, .inl (0, 0, [])), (.getfield 15, .inl (0, 1, [2, 384])), (.getfield 66, .inl (4, 5, [2, 250])), (.iload 6, .inl (0, 0, [])), (.iaload, .inl (0, 0, [])), (.iload_n 1, .inl (0, 0, [])), (.if_icmp .ne 13, .inl (63, 0, [])), (.aload_n 0, .inl (0, 0, [])), (.iload 6, .inl (0, 0, [])), (.iload_n 2, .inl (0, 0, [])), (.invokevirtual 75, .inr (.inl (mi_X0_versionsOn, 0, 497, [0, 0, 0]))), (.goto 4, .inl (64, 0, []))]
theorem sk_X0_weightOn_27 : pp_chk mi_X0_weightOn 63 27 (pp_cnt mi_X0_weightOn 27) sg_X0_weightOn_27 = true := by decide +kernel
def sg_X0_weightOn_63 : pp_Seg := [(.iconst 0, .inr (.inr (.int 0, 0)))]
theorem sk_X0_weightOn_63 : pp_chk mi_X0_weightOn 64 63 (pp_cnt mi_X0_weightOn 63) sg_X0_weightOn_63 = true := by decide +kernel
def sg_X0_weightOn_64 : pp_Seg := [(.istore 7, .inl (0, 0, [])), (.iload 5, .inl (0, 0, [])), (.iload 7, .inl (0, 0, [])), (.iadd, .inl (0, 0, [])), (.istore 5, .inl (0, 0, [])), (.iload 4, .inl (0, 0, [])), (.iload 7, .inl (0, 0, [])), (.ifCond .le 7, .inl (84, 0, [])), (.iconst 1, .inr (.inr (.int 1, 0))), (.goto 4, .inl (85, 0, []))]
theorem sk_X0_weightOn_64 : pp_chk mi_X0_weightOn 84 64 (pp_cnt mi_X0_weightOn 64) sg_X0_weightOn_64 = true := by decide +kernel
def sg_X0_weightOn_84 : pp_Seg := [(.iconst 0, .inr (.inr (.int 0, 0)))]
theorem sk_X0_weightOn_84 : pp_chk mi_X0_weightOn 85 84 (pp_cnt mi_X0_weightOn 84) sg_X0_weightOn_84 = true := by decide +kernel
def sg_X0_weightOn_85 : pp_Seg := [(.iadd, .inl (0, 0, [])), (.istore 4, .inl (0, 0, [])), (.iinc 6 1, .inr (.inr (.int 1, 0))), (.goto (-64), .inl (27, 0, []))]
theorem sk_X0_weightOn_85 : pp_chk mi_X0_weightOn 94 85 (pp_cnt mi_X0_weightOn 85) sg_X0_weightOn_85 = true := by decide +kernel
def sg_X0_weightOn_94 : pp_Seg := [(.aload_n 0, .inl (0, 0, [])), (.getfield 9, .inl (0, 0, [2, 383])), (.getfield 78, .inl (6, 15, [2, 196])), (.iload 4, .inl (0, 0, [])), (.iload 5, .inl (0, 0, [])), (.iload_n 3, .inl (0, 0, [])), (.invokevirtual 82, .inr (.inl (mi_X2_evaluate, 2, 530, [0, 0, 0, 0]))), (.istore 6, .inl (0, 0, [])), (.iconst 0, .inr (.inr (.int 0, 0))), (.iload 6, .inl (0, 0, [])), (.ldc 88, .inr (.inr (.int 1000000, 540))), (.invokestatic 89, .inl (2, 541, [])), (.invokestatic 94, .inl (3, 544, [])), (.istore 6, .inl (0, 0, [])), (.iload_n 3, .inl (0, 0, [])), (.aload_n 0, .inl (0, 0, [])), (.getfield 9, .inl (0, 0, [2, 383])), (.getfield 97, .inl (6, 10, [0, 180])), (.if_icmp .ge 19, .inl (151, 0, [])), (.iload 6, .inl (0, 0, [])), (.aload_n 0, .inl (0, 0, [])), (.getfield 9, .inl (0, 0, [2, 383])), (.getfield 100, .inl (6, 11, [0, 183])), (.imul, .inl (0, 0, [])), (.bipush 100, .inr (.inr (.int 100, 0))), (.idiv, .inl (0, 0, [])), (.goto 5, .inl (153, 0, []))]
theorem sk_X0_weightOn_94 : pp_chk mi_X0_weightOn 151 94 (pp_cnt mi_X0_weightOn 94) sg_X0_weightOn_94 = true := by decide +kernel
def sg_X0_weightOn_151 : pp_Seg := [(.iload 6, .inl (0, 0, []))]
theorem sk_X0_weightOn_151 : pp_chk mi_X0_weightOn 153 151 (pp_cnt mi_X0_weightOn 151) sg_X0_weightOn_151 = true := by decide +kernel
def sg_X0_weightOn_153 : pp_Seg := [(.ireturn, .inl (0, 0, []))]
theorem sk_X0_weightOn_153 : pp_chk mi_X0_weightOn 154 153 (pp_cnt mi_X0_weightOn 153) sg_X0_weightOn_153 = true := by decide +kernel
def sg_X8_weight_0 : pp_Seg := [(.aload_n 0, .inl (0, 0, [])), (.iload_n 1, .inl (0, 0, [])), (.invokevirtual 151, .inr (.inl (mi_X8_checkMember, 8, 902, [0, 0]))), (.aload_n 0, .inl (0, 0, [])), (.getfield 48, .inl (8, 6, [2, 440])), (.iload_n 1, .inl (0, 0, [])), (.aload_n 0, .inl (0, 0, [])), (.getfield 39, .inl (8, 5, [2, 439])), (.getfield 118, .inl (4, 0, [0, 237])), (.invokevirtual 164, .inr (.inl (mi_X0_weightOn, 0, 493, [0, 0, 0]))), (.ireturn, .inl (0, 0, []))]
theorem sk_X8_weight_0 : pp_chk mi_X8_weight 21 0 (pp_cnt mi_X8_weight 0) sg_X8_weight_0 = true := by decide +kernel
def sg_X8_weightAfter_0 : pp_Seg := [(.aload_n 0, .inl (0, 0, [])), (.iload_n 1, .inl (0, 0, [])), (.invokevirtual 151, .inr (.inl (mi_X8_checkMember, 8, 902, [0, 0]))), (.iload_n 2, .inl (0, 0, [])), (.ifCond .lt 10, .inl (16, 0, [])), (.iload_n 2, .inl (0, 0, [])), (.sipush 9999, .inr (.inr (.int 9999, 0))), (.if_icmp .le 13, .inl (26, 0, []))]
theorem sk_X8_weightAfter_0 : pp_chk mi_X8_weightAfter 16 0 (pp_cnt mi_X8_weightAfter 0) sg_X8_weightAfter_0 = true := by decide +kernel
def sg_X8_weightAfter_16 : pp_Seg := [(.athrow, .inl (0, 167, [0, 2]))]
theorem sk_X8_weightAfter_16 : pp_chk mi_X8_weightAfter 26 16 (pp_cnt mi_X8_weightAfter 16) sg_X8_weightAfter_16 = true := by decide +kernel
def sg_X8_weightAfter_26 : pp_Seg := [(.aload_n 0, .inl (0, 0, [])), (.getfield 48, .inl (8, 6, [2, 440])), (.iload_n 1, .inl (0, 0, [])), (.aload_n 0, .inl (0, 0, [])), (.getfield 39, .inl (8, 5, [2, 439])), (.getfield 118, .inl (4, 0, [0, 237])), (.iload_n 2, .inl (0, 0, [])), (.iadd, .inl (0, 0, [])), (.invokevirtual 164, .inr (.inl (mi_X0_weightOn, 0, 493, [0, 0, 0]))), (.ireturn, .inl (0, 0, []))]
theorem sk_X8_weightAfter_26 : pp_chk mi_X8_weightAfter 44 26 (pp_cnt mi_X8_weightAfter 26) sg_X8_weightAfter_26 = true := by decide +kernel
def sg_X8_weighMembers_0 : pp_Seg := [(.iconst 0, .inr (.inr (.int 0, 0))), (.istore_n 1, .inl (0, 0, []))]
theorem sk_X8_weighMembers_0 : pp_chk mi_X8_weighMembers 2 0 (pp_cnt mi_X8_weighMembers 0) sg_X8_weighMembers_0 = true := by decide +kernel
def sg_X8_weighMembers_2 : pp_Seg := [(.iload_n 1, .inl (0, 0, [])), (.bipush 8, .inr (.inr (.int 8, 0))), (.if_icmp .ge 48, .inl (53, 0, [])), (.aload_n 0, .inl (0, 0, [])), (.getfield 55, .inl (8, 7, [2, 441])), (.getfield 195, .inl (1, 0, [2, 397])), (.iload_n 1, .inl (0, 0, [])), (.iload_n 1, .inl (0, 0, [])), (.aload_n 0, .inl (0, 0, [])), (.getfield 39, .inl (8, 5, [2, 439])), (.getfield 104, .inl (4, 2, [0, 242])), (.if_icmp .ge 21, .inl (45, 0, [])), (.aload_n 0, .inl (0, 0, [])), (.getfield 48, .inl (8, 6, [2, 440])), (.iload_n 1, .inl (0, 0, [])), (.aload_n 0, .inl (0, 0, [])), (.getfield 39, .inl (8, 5, [2, 439])), (.getfield 118, .inl (4, 0, [0, 237])), (.invokevirtual 164, .inr (.inl (mi_X0_weightOn, 0, 493, [0, 0, 0]))), (.goto 4, .inl (46, 0, []))]
theorem sk_X8_weighMembers_2 : pp_chk mi_X8_weighMembers 45 2 (pp_cnt mi_X8_weighMembers 2) sg_X8_weighMembers_2 = true := by decide +kernel
def sg_X8_weighMembers_45 : pp_Seg := [(.iconst 0, .inr (.inr (.int 0, 0)))]
theorem sk_X8_weighMembers_45 : pp_chk mi_X8_weighMembers 46 45 (pp_cnt mi_X8_weighMembers 45) sg_X8_weighMembers_45 = true := by decide +kernel
def sg_X8_weighMembers_46 : pp_Seg := [(.iastore, .inl (0, 0, [])), (.iinc 1 1, .inr (.inr (.int 1, 0))), (.goto (-48), .inl (2, 0, []))]
theorem sk_X8_weighMembers_46 : pp_chk mi_X8_weighMembers 53 46 (pp_cnt mi_X8_weighMembers 46) sg_X8_weighMembers_46 = true := by decide +kernel
def sg_X8_weighMembers_53 : pp_Seg := [(.return_, .inl (0, 0, []))]
theorem sk_X8_weighMembers_53 : pp_chk mi_X8_weighMembers 54 53 (pp_cnt mi_X8_weighMembers 53) sg_X8_weighMembers_53 = true := by decide +kernel
def sg_X1_openWeight_0 : pp_Seg := [(.lconst 0, .inr (.inr (.long 0, 0))), (.lstore_n 1, .inl (0, 0, [])), (.iconst 0, .inr (.inr (.int 0, 0))), (.istore_n 3, .inl (0, 0, []))]
theorem sk_X1_openWeight_0 : pp_chk mi_X1_openWeight 4 0 (pp_cnt mi_X1_openWeight 0) sg_X1_openWeight_0 = true := by decide +kernel
def sg_X1_openWeight_4 : pp_Seg := [(.iload_n 3, .inl (0, 0, [])), (.bipush 8, .inr (.inr (.int 8, 0))), (.if_icmp .ge 32, .inl (39, 0, [])), (.lload_n 1, .inl (0, 0, [])), (.aload_n 0, .inl (0, 0, [])), (.getfield 19, .inl (1, 3, [2, 402])), (.iload_n 3, .inl (0, 0, [])), (.baload, .inl (1, 0, [])), (.ifCond .eq 13, .inl (30, 0, [])), (.aload_n 0, .inl (0, 0, [])), (.getfield 9, .inl (1, 0, [2, 396])), (.iload_n 3, .inl (0, 0, [])), (.iaload, .inl (0, 0, [])), (.i2l, .inl (0, 0, [])), (.goto 4, .inl (31, 0, []))]
theorem sk_X1_openWeight_4 : pp_chk mi_X1_openWeight 30 4 (pp_cnt mi_X1_openWeight 4) sg_X1_openWeight_4 = true := by decide +kernel
def sg_X1_openWeight_30 : pp_Seg := [(.lconst 0, .inr (.inr (.long 0, 0)))]
theorem sk_X1_openWeight_30 : pp_chk mi_X1_openWeight 31 30 (pp_cnt mi_X1_openWeight 30) sg_X1_openWeight_30 = true := by decide +kernel
def sg_X1_openWeight_31 : pp_Seg := [(.ladd, .inl (0, 0, [])), (.lstore_n 1, .inl (0, 0, [])), (.iinc 3 1, .inr (.inr (.int 1, 0))), (.goto (-32), .inl (4, 0, []))]
theorem sk_X1_openWeight_31 : pp_chk mi_X1_openWeight 39 31 (pp_cnt mi_X1_openWeight 31) sg_X1_openWeight_31 = true := by decide +kernel
def sg_X1_openWeight_39 : pp_Seg := [(.lload_n 1, .inl (0, 0, [])), (.lreturn, .inl (0, 0, []))]
theorem sk_X1_openWeight_39 : pp_chk mi_X1_openWeight 41 39 (pp_cnt mi_X1_openWeight 39) sg_X1_openWeight_39 = true := by decide +kernel
def sg_X1_closeAbove_0 : pp_Seg := [(.aload_n 0, .inl (0, 0, [])), (.invokevirtual 43, .inr (.inl (mi_X1_openWeight, 1, 941, [0]))), (.lstore_n 3, .inl (0, 0, [])), (.lload_n 3, .inl (0, 0, [])), (.lconst 0, .inr (.inr (.long 0, 0))), (.lcmp, .inl (0, 0, [])), (.ifCond .gt 5, .inl (13, 0, [])), (.iconst 0, .inr (.inr (.int 0, 0))), (.ireturn, .inl (0, 0, []))]
theorem sk_X1_closeAbove_0 : pp_chk mi_X1_closeAbove 13 0 (pp_cnt mi_X1_closeAbove 0) sg_X1_closeAbove_0 = true := by decide +kernel
def sg_X1_closeAbove_13 : pp_Seg := [(.aload_n 0, .inl (0, 0, [])), (.getfield 28, .inl (1, 2, [1, 400])), (.lstore 5, .inl (0, 0, [])), (.iconst 0, .inr (.inr (.int 0, 0))), (.istore 7, .inl (0, 0, [])), (.iconst 0, .inr (.inr (.int 0, 0))), (.istore 8, .inl (0, 0, []))]
theorem sk_X1_closeAbove_13 : pp_chk mi_X1_closeAbove 25 13 (pp_cnt mi_X1_closeAbove 13) sg_X1_closeAbove_13 = true := by decide +kernel
def sg_X1_closeAbove_25 : pp_Seg := [(.iload 8, .inl (0, 0, [])), (.bipush 8, .inr (.inr (.int 8, 0))), (.if_icmp .ge 66, .inl (95, 0, [])), (.aload_n 0, .inl (0, 0, [])), (.getfield 19, .inl (1, 3, [2, 402])), (.iload 8, .inl (0, 0, [])), (.baload, .inl (1, 0, [])), (.ifCond .eq 50, .inl (89, 0, [])), (.lload 5, .inl (0, 0, [])), (.aload_n 0, .inl (0, 0, [])), (.getfield 9, .inl (1, 0, [2, 396])), (.iload 8, .inl (0, 0, [])), (.iaload, .inl (0, 0, [])), (.i2l, .inl (0, 0, [])), (.lmul, .inl (0, 0, [])), (.lload_n 3, .inl (0, 0, [])), (.ldiv, .inl (0, 0, [])), (.lload_n 1, .inl (0, 0, [])), (.lcmp, .inl (0, 0, [])), (.ifCond .le 32, .inl (89, 0, [])), (.aload_n 0, .inl (0, 0, [])), (.getfield 15, .inl (1, 1, [2, 398])), (.iload 8, .inl (0, 0, [])), (.lload_n 1, .inl (0, 0, [])), (.lastore, .inl (0, 0, [])), (.aload_n 0, .inl (0, 0, [])), (.getfield 19, .inl (1, 3, [2, 402])), (.iload 8, .inl (0, 0, [])), (.iconst 0, .inr (.inr (.int 0, 0))), (.bastore, .inl (1, 0, [])), (.aload_n 0, .inl (0, 0, [])), (.dup, .inl (0, 0, [])), (.getfield 28, .inl (1, 2, [1, 400])), (.lload_n 1, .inl (0, 0, [])), (.lsub, .inl (0, 0, [])), (.putfield 28, .inl (1, 2, [1, 400])), (.iconst 1, .inr (.inr (.int 1, 0))), (.istore 7, .inl (0, 0, []))]
theorem sk_X1_closeAbove_25 : pp_chk mi_X1_closeAbove 89 25 (pp_cnt mi_X1_closeAbove 25) sg_X1_closeAbove_25 = true := by decide +kernel
def sg_X1_closeAbove_89 : pp_Seg := [(.iinc 8 1, .inr (.inr (.int 1, 0))), (.goto (-67), .inl (25, 0, []))]
theorem sk_X1_closeAbove_89 : pp_chk mi_X1_closeAbove 95 89 (pp_cnt mi_X1_closeAbove 89) sg_X1_closeAbove_89 = true := by decide +kernel
def sg_X1_closeAbove_95 : pp_Seg := [(.iload 7, .inl (0, 0, [])), (.ireturn, .inl (0, 0, []))]
theorem sk_X1_closeAbove_95 : pp_chk mi_X1_closeAbove 98 95 (pp_cnt mi_X1_closeAbove 95) sg_X1_closeAbove_95 = true := by decide +kernel
def sg_X1_giveQuotas_0 : pp_Seg := [(.aload_n 0, .inl (0, 0, [])), (.invokevirtual 43, .inr (.inl (mi_X1_openWeight, 1, 941, [0]))), (.lstore_n 1, .inl (0, 0, [])), (.lload_n 1, .inl (0, 0, [])), (.lconst 0, .inr (.inr (.long 0, 0))), (.lcmp, .inl (0, 0, [])), (.ifCond .gt 4, .inl (12, 0, [])), (.return_, .inl (0, 0, []))]
theorem sk_X1_giveQuotas_0 : pp_chk mi_X1_giveQuotas 12 0 (pp_cnt mi_X1_giveQuotas 0) sg_X1_giveQuotas_0 = true := by decide +kernel
def sg_X1_giveQuotas_12 : pp_Seg := [(.aload_n 0, .inl (0, 0, [])), (.getfield 28, .inl (1, 2, [1, 400])), (.lstore_n 3, .inl (0, 0, [])), (.iconst 0, .inr (.inr (.int 0, 0))), (.istore 5, .inl (0, 0, []))]
theorem sk_X1_giveQuotas_12 : pp_chk mi_X1_giveQuotas 20 12 (pp_cnt mi_X1_giveQuotas 12) sg_X1_giveQuotas_12 = true := by decide +kernel
def sg_X1_giveQuotas_20 : pp_Seg := [(.iload 5, .inl (0, 0, [])), (.bipush 8, .inr (.inr (.int 8, 0))), (.if_icmp .ge 69, .inl (93, 0, [])), (.aload_n 0, .inl (0, 0, [])), (.getfield 19, .inl (1, 3, [2, 402])), (.iload 5, .inl (0, 0, [])), (.baload, .inl (1, 0, [])), (.ifCond .eq 53, .inl (87, 0, [])), (.lload_n 3, .inl (0, 0, [])), (.aload_n 0, .inl (0, 0, [])), (.getfield 9, .inl (1, 0, [2, 396])), (.iload 5, .inl (0, 0, [])), (.iaload, .inl (0, 0, [])), (.i2l, .inl (0, 0, [])), (.lmul, .inl (0, 0, [])), (.lstore 6, .inl (0, 0, [])), (.aload_n 0, .inl (0, 0, [])), (.getfield 15, .inl (1, 1, [2, 398])), (.iload 5, .inl (0, 0, [])), (.lload 6, .inl (0, 0, [])), (.lload_n 1, .inl (0, 0, [])), (.ldiv, .inl (0, 0, [])), (.lastore, .inl (0, 0, [])), (.aload_n 0, .inl (0, 0, [])), (.getfield 23, .inl (1, 4, [2, 403])), (.iload 5, .inl (0, 0, [])), (.lload 6, .inl (0, 0, [])), (.lload_n 1, .inl (0, 0, [])), (.lrem, .inl (0, 0, [])), (.lastore, .inl (0, 0, [])), (.aload_n 0, .inl (0, 0, [])), (.dup, .inl (0, 0, [])), (.getfield 28, .inl (1, 2, [1, 400])), (.aload_n 0, .inl (0, 0, [])), (.getfield 15, .inl (1, 1, [2, 398])), (.iload 5, .inl (0, 0, [])), (.laload, .inl (0, 0, [])), (.lsub, .inl (0, 0, [])), (.putfield 28, .inl (1, 2, [1, 400]))]
theorem sk_X1_giveQuotas_20 : pp_chk mi_X1_giveQuotas 87 20 (pp_cnt mi_X1_giveQuotas 20) sg_X1_giveQuotas_20 = true := by decide +kernel
def sg_X1_giveQuotas_87 : pp_Seg := [(.iinc 5 1, .inr (.inr (.int 1, 0))), (.goto (-70), .inl (20, 0, []))]
theorem sk_X1_giveQuotas_87 : pp_chk mi_X1_giveQuotas 93 87 (pp_cnt mi_X1_giveQuotas 87) sg_X1_giveQuotas_87 = true := by decide +kernel
def sg_X1_giveQuotas_93 : pp_Seg := [(.return_, .inl (0, 0, []))]
theorem sk_X1_giveQuotas_93 : pp_chk mi_X1_giveQuotas 94 93 (pp_cnt mi_X1_giveQuotas 93) sg_X1_giveQuotas_93 = true := by decide +kernel
def sg_X1_openWithLargestRemainder_0 : pp_Seg := [(.iconst (-1), .inr (.inr (.int (-1), 0))), (.istore_n 1, .inl (0, 0, [])), (.iconst 0, .inr (.inr (.int 0, 0))), (.istore_n 2, .inl (0, 0, []))]
theorem sk_X1_openWithLargestRemainder_0 : pp_chk mi_X1_openWithLargestRemainder 4 0 (pp_cnt mi_X1_openWithLargestRemainder 0) sg_X1_openWithLargestRemainder_0 = true := by decide +kernel
def sg_X1_openWithLargestRemainder_4 : pp_Seg := [(.iload_n 2, .inl (0, 0, [])), (.bipush 8, .inr (.inr (.int 8, 0))), (.if_icmp .ge 41, .inl (48, 0, [])), (.aload_n 0, .inl (0, 0, [])), (.getfield 19, .inl (1, 3, [2, 402])), (.iload_n 2, .inl (0, 0, [])), (.baload, .inl (1, 0, [])), (.ifCond .eq 26, .inl (42, 0, [])), (.iload_n 1, .inl (0, 0, [])), (.iconst (-1), .inr (.inr (.int (-1), 0))), (.if_icmp .eq 19, .inl (40, 0, [])), (.aload_n 0, .inl (0, 0, [])), (.getfield 23, .inl (1, 4, [2, 403])), (.iload_n 2, .inl (0, 0, [])), (.laload, .inl (0, 0, [])), (.aload_n 0, .inl (0, 0, [])), (.getfield 23, .inl (1, 4, [2, 403])), (.iload_n 1, .inl (0, 0, [])), (.laload, .inl (0, 0, [])), (.lcmp, .inl (0, 0, [])), (.ifCond .le 5, .inl (42, 0, []))]
theorem sk_X1_openWithLargestRemainder_4 : pp_chk mi_X1_openWithLargestRemainder 40 4 (pp_cnt mi_X1_openWithLargestRemainder 4) sg_X1_openWithLargestRemainder_4 = true := by decide +kernel
def sg_X1_openWithLargestRemainder_40 : pp_Seg := [(.iload_n 2, .inl (0, 0, [])), (.istore_n 1, .inl (0, 0, []))]
theorem sk_X1_openWithLargestRemainder_40 : pp_chk mi_X1_openWithLargestRemainder 42 40 (pp_cnt mi_X1_openWithLargestRemainder 40) sg_X1_openWithLargestRemainder_40 = true := by decide +kernel
def sg_X1_openWithLargestRemainder_42 : pp_Seg := [(.iinc 2 1, .inr (.inr (.int 1, 0))), (.goto (-41), .inl (4, 0, []))]
theorem sk_X1_openWithLargestRemainder_42 : pp_chk mi_X1_openWithLargestRemainder 48 42 (pp_cnt mi_X1_openWithLargestRemainder 42) sg_X1_openWithLargestRemainder_42 = true := by decide +kernel
def sg_X1_openWithLargestRemainder_48 : pp_Seg := [(.iload_n 1, .inl (0, 0, [])), (.ireturn, .inl (0, 0, []))]
theorem sk_X1_openWithLargestRemainder_48 : pp_chk mi_X1_openWithLargestRemainder 50 48 (pp_cnt mi_X1_openWithLargestRemainder 48) sg_X1_openWithLargestRemainder_48 = true := by decide +kernel
def sg_X1_giveRemainders_0 : pp_Seg := [(.iconst 0, .inr (.inr (.int 0, 0))), (.istore_n 3, .inl (0, 0, []))]
theorem sk_X1_giveRemainders_0 : pp_chk mi_X1_giveRemainders 2 0 (pp_cnt mi_X1_giveRemainders 0) sg_X1_giveRemainders_0 = true := by decide +kernel
def sg_X1_giveRemainders_2 : pp_Seg := [(.iload_n 3, .inl (0, 0, [])), (.bipush 8, .inr (.inr (.int 8, 0))), (.if_icmp .ge 72, .inl (77, 0, [])), (.aload_n 0, .inl (0, 0, [])), (.getfield 28, .inl (1, 2, [1, 400])), (.lconst 0, .inr (.inr (.long 0, 0))), (.lcmp, .inl (0, 0, [])), (.ifCond .le 63, .inl (77, 0, [])), (.aload_n 0, .inl (0, 0, [])), (.invokevirtual 47, .inr (.inl (mi_X1_openWithLargestRemainder, 1, 953, [0]))), (.istore 4, .inl (0, 0, [])), (.iload 4, .inl (0, 0, [])), (.iconst (-1), .inr (.inr (.int (-1), 0))), (.if_icmp .ne 4, .inl (30, 0, [])), (.return_, .inl (0, 0, []))]
theorem sk_X1_giveRemainders_2 : pp_chk mi_X1_giveRemainders 30 2 (pp_cnt mi_X1_giveRemainders 2) sg_X1_giveRemainders_2 = true := by decide +kernel
def sg_X1_giveRemainders_30 : pp_Seg := [(.aload_n 0, .inl (0, 0, [])), (.getfield 19, .inl (1, 3, [2, 402])), (.iload 4, .inl (0, 0, [])), (.iconst 0, .inr (.inr (.int 0, 0))), (.bastore, .inl (1, 0, [])), (.aload_n 0, .inl (0, 0, [])), (.getfield 15, .inl (1, 1, [2, 398])), (.iload 4, .inl (0, 0, [])), (.laload, .inl (0, 0, [])), (.lload_n 1, .inl (0, 0, [])), (.lcmp, .inl (0, 0, [])), (.ifCond .ge 24, .inl (71, 0, [])), (.aload_n 0, .inl (0, 0, [])), (.getfield 15, .inl (1, 1, [2, 398])), (.iload 4, .inl (0, 0, [])), (.dup2, .inl (0, 0, [])), (.laload, .inl (0, 0, [])), (.lconst 1, .inr (.inr (.long 1, 0))), (.ladd, .inl (0, 0, [])), (.lastore, .inl (0, 0, [])), (.aload_n 0, .inl (0, 0, [])), (.dup, .inl (0, 0, [])), (.getfield 28, .inl (1, 2, [1, 400])), (.lconst 1, .inr (.inr (.long 1, 0))), (.lsub, .inl (0, 0, [])), (.putfield 28, .inl (1, 2, [1, 400]))]
theorem sk_X1_giveRemainders_30 : pp_chk mi_X1_giveRemainders 71 30 (pp_cnt mi_X1_giveRemainders 30) sg_X1_giveRemainders_30 = true := by decide +kernel
def sg_X1_giveRemainders_71 : pp_Seg := [(.iinc 3 1, .inr (.inr (.int 1, 0))), (.goto (-72), .inl (2, 0, []))]
theorem sk_X1_giveRemainders_71 : pp_chk mi_X1_giveRemainders 77 71 (pp_cnt mi_X1_giveRemainders 71) sg_X1_giveRemainders_71 = true := by decide +kernel
def sg_X1_giveRemainders_77 : pp_Seg := [(.return_, .inl (0, 0, []))]
theorem sk_X1_giveRemainders_77 : pp_chk mi_X1_giveRemainders 78 77 (pp_cnt mi_X1_giveRemainders 77) sg_X1_giveRemainders_77 = true := by decide +kernel
def sg_X1_divide_0 : pp_Seg := [(.lload_n 1, .inl (0, 0, [])), (.iload_n 3, .inl (0, 0, [])), (.i2l, .inl (0, 0, [])), (.lmul, .inl (0, 0, [])), (.ldc2_w 26, .inr (.inr (.long 100, 936))), (.ldiv, .inl (0, 0, [])), (.lstore 4, .inl (0, 0, [])), (.aload_n 0, .inl (0, 0, [])), (.lload_n 1, .inl (0, 0, [])), (.putfield 28, .inl (1, 2, [1, 400])), (.iconst 0, .inr (.inr (.int 0, 0))), (.istore 6, .inl (0, 0, []))]
theorem sk_X1_divide_0 : pp_chk mi_X1_divide 18 0 (pp_cnt mi_X1_divide 0) sg_X1_divide_0 = true := by decide +kernel
def sg_X1_divide_18 : pp_Seg := [(.iload 6, .inl (0, 0, [])), (.bipush 8, .inr (.inr (.int 8, 0))), (.if_icmp .ge 39, .inl (61, 0, [])), (.aload_n 0, .inl (0, 0, [])), (.getfield 15, .inl (1, 1, [2, 398])), (.iload 6, .inl (0, 0, [])), (.lconst 0, .inr (.inr (.long 0, 0))), (.lastore, .inl (0, 0, [])), (.aload_n 0, .inl (0, 0, [])), (.getfield 19, .inl (1, 3, [2, 402])), (.iload 6, .inl (0, 0, [])), (.aload_n 0, .inl (0, 0, [])), (.getfield 9, .inl (1, 0, [2, 396])), (.iload 6, .inl (0, 0, [])), (.iaload, .inl (0, 0, [])), (.ifCond .le 7, .inl (53, 0, [])), (.iconst 1, .inr (.inr (.int 1, 0))), (.goto 4, .inl (54, 0, []))]
theorem sk_X1_divide_18 : pp_chk mi_X1_divide 53 18 (pp_cnt mi_X1_divide 18) sg_X1_divide_18 = true := by decide +kernel
def sg_X1_divide_53 : pp_Seg := [(.iconst 0, .inr (.inr (.int 0, 0)))]
theorem sk_X1_divide_53 : pp_chk mi_X1_divide 54 53 (pp_cnt mi_X1_divide 53) sg_X1_divide_53 = true := by decide +kernel
def sg_X1_divide_54 : pp_Seg := [(.bastore, .inl (1, 0, [])), (.iinc 6 1, .inr (.inr (.int 1, 0))), (.goto (-40), .inl (18, 0, []))]
theorem sk_X1_divide_54 : pp_chk mi_X1_divide 61 54 (pp_cnt mi_X1_divide 54) sg_X1_divide_54 = true := by decide +kernel
def sg_X1_divide_61 : pp_Seg := [(.iconst 1, .inr (.inr (.int 1, 0))), (.istore 6, .inl (0, 0, [])), (.iconst 0, .inr (.inr (.int 0, 0))), (.istore 7, .inl (0, 0, []))]
theorem sk_X1_divide_61 : pp_chk mi_X1_divide 67 61 (pp_cnt mi_X1_divide 61) sg_X1_divide_61 = true := by decide +kernel
def sg_X1_divide_67 : pp_Seg := [(.iload 7, .inl (0, 0, [])), (.bipush 8, .inr (.inr (.int 8, 0))), (.if_icmp .ge 22, .inl (93, 0, [])), (.iload 6, .inl (0, 0, [])), (.ifCond .eq 17, .inl (93, 0, [])), (.aload_n 0, .inl (0, 0, [])), (.lload 4, .inl (0, 0, [])), (.invokevirtual 32, .inr (.inl (mi_X1_closeAbove, 1, 937, [0, 0]))), (.istore 6, .inl (0, 0, [])), (.iinc 7 1, .inr (.inr (.int 1, 0))), (.goto (-23), .inl (67, 0, []))]
theorem sk_X1_divide_67 : pp_chk mi_X1_divide 93 67 (pp_cnt mi_X1_divide 67) sg_X1_divide_67 = true := by decide +kernel
def sg_X1_divide_93 : pp_Seg := [(.aload_n 0, .inl (0, 0, [])), (.invokevirtual 36, .inr (.inl (mi_X1_giveQuotas, 1, 945, [0]))), (.aload_n 0, .inl (0, 0, [])), (.lload 4, .inl (0, 0, [])), (.invokevirtual 39, .inr (.inl (mi_X1_giveRemainders, 1, 949, [0, 0]))), (.return_, .inl (0, 0, []))]
theorem sk_X1_divide_93 : pp_chk mi_X1_divide 104 93 (pp_cnt mi_X1_divide 93) sg_X1_divide_93 = true := by decide +kernel
def sg_X8_shareOf_0 : pp_Seg := [(.aload_n 0, .inl (0, 0, [])), (.iload_n 1, .inl (0, 0, [])), (.invokevirtual 151, .inr (.inl (mi_X8_checkMember, 8, 902, [0, 0]))), (.iload_n 2, .inl (0, 0, [])), (.ifCond .lt 9, .inl (15, 0, [])), (.iload_n 2, .inl (0, 0, [])), (.ldc 169, .inr (.inr (.int 1000000000, 930))), (.if_icmp .le 13, .inl (25, 0, []))]
theorem sk_X8_shareOf_0 : pp_chk mi_X8_shareOf 15 0 (pp_cnt mi_X8_shareOf 0) sg_X8_shareOf_0 = true := by decide +kernel
def sg_X8_shareOf_15 : pp_Seg := [(.athrow, .inl (0, 170, [0, 3]))]
theorem sk_X8_shareOf_15 : pp_chk mi_X8_shareOf 25 15 (pp_cnt mi_X8_shareOf 15) sg_X8_shareOf_15 = true := by decide +kernel
def sg_X8_shareOf_25 : pp_Seg := [(.aload_n 0, .inl (0, 0, [])), (.invokevirtual 172, .inr (.inl (mi_X8_weighMembers, 8, 489, [0]))), (.aload_n 0, .inl (0, 0, [])), (.getfield 55, .inl (8, 7, [2, 441])), (.iload_n 2, .inl (0, 0, [])), (.i2l, .inl (0, 0, [])), (.aload_n 0, .inl (0, 0, [])), (.getfield 32, .inl (8, 4, [2, 438])), (.getfield 175, .inl (6, 7, [0, 172])), (.invokevirtual 178, .inr (.inl (mi_X1_divide, 1, 932, [0, 0, 0]))), (.aload_n 0, .inl (0, 0, [])), (.getfield 55, .inl (8, 7, [2, 441])), (.getfield 182, .inl (1, 1, [2, 399])), (.iload_n 1, .inl (0, 0, [])), (.laload, .inl (0, 0, [])), (.l2i, .inl (0, 0, [])), (.ireturn, .inl (0, 0, []))]
theorem sk_X8_shareOf_25 : pp_chk mi_X8_shareOf 56 25 (pp_cnt mi_X8_shareOf 25) sg_X8_shareOf_25 = true := by decide +kernel
def sg_X1_isMajority_0 : pp_Seg := [(.iconst 0, .inr (.inr (.int 0, 0))), (.istore_n 2, .inl (0, 0, [])), (.iconst 0, .inr (.inr (.int 0, 0))), (.istore_n 3, .inl (0, 0, [])), (.iconst 0, .inr (.inr (.int 0, 0))), (.istore 4, .inl (0, 0, []))]
theorem sk_X1_isMajority_0 : pp_chk mi_X1_isMajority 7 0 (pp_cnt mi_X1_isMajority 0) sg_X1_isMajority_0 = true := by decide +kernel
def sg_X1_isMajority_7 : pp_Seg := [(.iload 4, .inl (0, 0, [])), (.bipush 8, .inr (.inr (.int 8, 0))), (.if_icmp .ge 41, .inl (52, 0, [])), (.iload_n 1, .inl (0, 0, [])), (.iload 4, .inl (0, 0, [])), (.ishr, .inl (0, 0, [])), (.iconst 1, .inr (.inr (.int 1, 0))), (.iand, .inl (0, 0, [])), (.ifCond .eq 16, .inl (36, 0, [])), (.iload_n 2, .inl (0, 0, [])), (.aload_n 0, .inl (0, 0, [])), (.getfield 9, .inl (1, 0, [2, 396])), (.iload 4, .inl (0, 0, [])), (.iaload, .inl (0, 0, [])), (.iadd, .inl (0, 0, [])), (.istore_n 2, .inl (0, 0, [])), (.goto 13, .inl (46, 0, []))]
theorem sk_X1_isMajority_7 : pp_chk mi_X1_isMajority 36 7 (pp_cnt mi_X1_isMajority 7) sg_X1_isMajority_7 = true := by decide +kernel
def sg_X1_isMajority_36 : pp_Seg := [(.iload_n 3, .inl (0, 0, [])), (.aload_n 0, .inl (0, 0, [])), (.getfield 9, .inl (1, 0, [2, 396])), (.iload 4, .inl (0, 0, [])), (.iaload, .inl (0, 0, [])), (.iadd, .inl (0, 0, [])), (.istore_n 3, .inl (0, 0, []))]
theorem sk_X1_isMajority_36 : pp_chk mi_X1_isMajority 46 36 (pp_cnt mi_X1_isMajority 36) sg_X1_isMajority_36 = true := by decide +kernel
def sg_X1_isMajority_46 : pp_Seg := [(.iinc 4 1, .inr (.inr (.int 1, 0))), (.goto (-42), .inl (7, 0, []))]
theorem sk_X1_isMajority_46 : pp_chk mi_X1_isMajority 52 46 (pp_cnt mi_X1_isMajority 46) sg_X1_isMajority_46 = true := by decide +kernel
def sg_X1_isMajority_52 : pp_Seg := [(.iload_n 2, .inl (0, 0, [])), (.iload_n 3, .inl (0, 0, [])), (.if_icmp .le 7, .inl (61, 0, [])), (.iconst 1, .inr (.inr (.int 1, 0))), (.goto 4, .inl (62, 0, []))]
theorem sk_X1_isMajority_52 : pp_chk mi_X1_isMajority 61 52 (pp_cnt mi_X1_isMajority 52) sg_X1_isMajority_52 = true := by decide +kernel
def sg_X1_isMajority_61 : pp_Seg := [(.iconst 0, .inr (.inr (.int 0, 0)))]
theorem sk_X1_isMajority_61 : pp_chk mi_X1_isMajority 62 61 (pp_cnt mi_X1_isMajority 61) sg_X1_isMajority_61 = true := by decide +kernel
def sg_X1_isMajority_62 : pp_Seg := [(.ireturn, .inl (0, 0, []))]
theorem sk_X1_isMajority_62 : pp_chk mi_X1_isMajority 63 62 (pp_cnt mi_X1_isMajority 62) sg_X1_isMajority_62 = true := by decide +kernel
def sg_X8_smallestMajority_0 : pp_Seg := [(.aload_n 0, .inl (0, 0, [])), (.invokevirtual 172, .inr (.inl (mi_X8_weighMembers, 8, 489, [0]))), (.iconst 1, .inr (.inr (.int 1, 0))), (.aload_n 0, .inl (0, 0, [])), (.getfield 39, .inl (8, 5, [2, 439])), (.getfield 104, .inl (4, 2, [0, 242])), (.ishl, .inl (0, 0, [])), (.istore_n 1, .inl (0, 0, [])), (.iconst (-1), .inr (.inr (.int (-1), 0))), (.istore_n 2, .inl (0, 0, [])), (.iconst 1, .inr (.inr (.int 1, 0))), (.istore_n 3, .inl (0, 0, []))]
theorem sk_X8_smallestMajority_0 : pp_chk mi_X8_smallestMajority 18 0 (pp_cnt mi_X8_smallestMajority 0) sg_X8_smallestMajority_0 = true := by decide +kernel
def sg_X8_smallestMajority_18 : pp_Seg := [(.iload_n 3, .inl (0, 0, [])), (.iload_n 1, .inl (0, 0, [])), (.if_icmp .ge 38, .inl (58, 0, [])), (.aload_n 0, .inl (0, 0, [])), (.getfield 55, .inl (8, 7, [2, 441])), (.iload_n 3, .inl (0, 0, [])), (.invokevirtual 186, .inr (.inl (mi_X1_isMajority, 1, 547, [0, 0]))), (.ifCond .eq 21, .inl (52, 0, [])), (.iload_n 2, .inl (0, 0, [])), (.iconst (-1), .inr (.inr (.int (-1), 0))), (.if_icmp .eq 14, .inl (50, 0, [])), (.iload_n 3, .inl (0, 0, [])), (.invokestatic 190, .inr (.inl (mi_J6_bitCount_0f7a4, 0, 551, [0]))), (.iload_n 2, .inl (0, 0, [])), (.invokestatic 190, .inr (.inl (mi_J6_bitCount_0f7a4, 0, 551, [0]))), (.if_icmp .ge 5, .inl (52, 0, []))]
theorem sk_X8_smallestMajority_18 : pp_chk mi_X8_smallestMajority 50 18 (pp_cnt mi_X8_smallestMajority 18) sg_X8_smallestMajority_18 = true := by decide +kernel
def sg_X8_smallestMajority_50 : pp_Seg := [(.iload_n 3, .inl (0, 0, [])), (.istore_n 2, .inl (0, 0, []))]
theorem sk_X8_smallestMajority_50 : pp_chk mi_X8_smallestMajority 52 50 (pp_cnt mi_X8_smallestMajority 50) sg_X8_smallestMajority_50 = true := by decide +kernel
def sg_X8_smallestMajority_52 : pp_Seg := [(.iinc 3 1, .inr (.inr (.int 1, 0))), (.goto (-37), .inl (18, 0, []))]
theorem sk_X8_smallestMajority_52 : pp_chk mi_X8_smallestMajority 58 52 (pp_cnt mi_X8_smallestMajority 52) sg_X8_smallestMajority_52 = true := by decide +kernel
def sg_X8_smallestMajority_58 : pp_Seg := [(.iload_n 2, .inl (0, 0, [])), (.ireturn, .inl (0, 0, []))]
theorem sk_X8_smallestMajority_58 : pp_chk mi_X8_smallestMajority 60 58 (pp_cnt mi_X8_smallestMajority 58) sg_X8_smallestMajority_58 = true := by decide +kernel
def sg_X8_power_0 : pp_Seg := [(.aload_n 0, .inl (0, 0, [])), (.iload_n 1, .inl (0, 0, [])), (.invokevirtual 151, .inr (.inl (mi_X8_checkMember, 8, 902, [0, 0]))), (.aload_n 0, .inl (0, 0, [])), (.invokevirtual 172, .inr (.inl (mi_X8_weighMembers, 8, 489, [0]))), (.iconst 1, .inr (.inr (.int 1, 0))), (.aload_n 0, .inl (0, 0, [])), (.getfield 39, .inl (8, 5, [2, 439])), (.getfield 104, .inl (4, 2, [0, 242])), (.ishl, .inl (0, 0, [])), (.istore_n 2, .inl (0, 0, [])), (.iconst 1, .inr (.inr (.int 1, 0))), (.iload_n 1, .inl (0, 0, [])), (.ishl, .inl (0, 0, [])), (.istore_n 3, .inl (0, 0, [])), (.iconst 0, .inr (.inr (.int 0, 0))), (.istore 4, .inl (0, 0, [])), (.iconst 0, .inr (.inr (.int 0, 0))), (.istore 5, .inl (0, 0, []))]
theorem sk_X8_power_0 : pp_chk mi_X8_power 29 0 (pp_cnt mi_X8_power 0) sg_X8_power_0 = true := by decide +kernel
def sg_X8_power_29 : pp_Seg := [(.iload 5, .inl (0, 0, [])), (.iload_n 2, .inl (0, 0, [])), (.if_icmp .ge 45, .inl (77, 0, [])), (.iload 5, .inl (0, 0, [])), (.iload_n 3, .inl (0, 0, [])), (.iand, .inl (0, 0, [])), (.ifCond .ne 32, .inl (71, 0, [])), (.aload_n 0, .inl (0, 0, [])), (.getfield 55, .inl (8, 7, [2, 441])), (.iload 5, .inl (0, 0, [])), (.invokevirtual 186, .inr (.inl (mi_X1_isMajority, 1, 547, [0, 0]))), (.ifCond .ne 20, .inl (71, 0, [])), (.aload_n 0, .inl (0, 0, [])), (.getfield 55, .inl (8, 7, [2, 441])), (.iload 5, .inl (0, 0, [])), (.iload_n 3, .inl (0, 0, [])), (.ior, .inl (0, 0, [])), (.invokevirtual 186, .inr (.inl (mi_X1_isMajority, 1, 547, [0, 0]))), (.ifCond .eq 6, .inl (71, 0, [])), (.iinc 4 1, .inr (.inr (.int 1, 0)))]
theorem sk_X8_power_29 : pp_chk mi_X8_power 71 29 (pp_cnt mi_X8_power 29) sg_X8_power_29 = true := by decide +kernel
def sg_X8_power_71 : pp_Seg := [(.iinc 5 1, .inr (.inr (.int 1, 0))), (.goto (-45), .inl (29, 0, []))]
theorem sk_X8_power_71 : pp_chk mi_X8_power 77 71 (pp_cnt mi_X8_power 71) sg_X8_power_71 = true := by decide +kernel
def sg_X8_power_77 : pp_Seg := [(.iload 4, .inl (0, 0, [])), (.ireturn, .inl (0, 0, []))]
theorem sk_X8_power_77 : pp_chk mi_X8_power 80 77 (pp_cnt mi_X8_power 77) sg_X8_power_77 = true := by decide +kernel
def sg_X8_checkLicensee_0 : pp_Seg := [(.iload_n 1, .inl (0, 0, [])), (.ifCond .lt 14, .inl (15, 0, [])), (.iload_n 1, .inl (0, 0, [])), (.aload_n 0, .inl (0, 0, [])), (.getfield 32, .inl (8, 4, [2, 438])), (.getfield 113, .inl (6, 3, [0, 161])), (.if_icmp .lt 14, .inl (26, 0, []))]
theorem sk_X8_checkLicensee_0 : pp_chk mi_X8_checkLicensee 15 0 (pp_cnt mi_X8_checkLicensee 0) sg_X8_checkLicensee_0 = true := by decide +kernel
def sg_X8_checkLicensee_15 : pp_Seg := [(.athrow, .inl (2, 333, [1, 21]))]
theorem sk_X8_checkLicensee_15 : pp_chk mi_X8_checkLicensee 26 15 (pp_cnt mi_X8_checkLicensee 15) sg_X8_checkLicensee_15 = true := by decide +kernel
def sg_X8_checkLicensee_26 : pp_Seg := [(.return_, .inl (0, 0, []))]
theorem sk_X8_checkLicensee_26 : pp_chk mi_X8_checkLicensee 27 26 (pp_cnt mi_X8_checkLicensee 26) sg_X8_checkLicensee_26 = true := by decide +kernel
def sg_X8_owed_0 : pp_Seg := [(.aload_n 0, .inl (0, 0, [])), (.iload_n 1, .inl (0, 0, [])), (.invokevirtual 198, .inr (.inl (mi_X8_checkLicensee, 8, 971, [0, 0]))), (.aload_n 0, .inl (0, 0, [])), (.getfield 39, .inl (8, 5, [2, 439])), (.getfield 201, .inl (4, 10, [2, 264])), (.iload_n 1, .inl (0, 0, [])), (.laload, .inl (0, 0, [])), (.lreturn, .inl (0, 0, []))]
theorem sk_X8_owed_0 : pp_chk mi_X8_owed 15 0 (pp_cnt mi_X8_owed 0) sg_X8_owed_0 = true := by decide +kernel
def sg_X8_reported_0 : pp_Seg := [(.aload_n 0, .inl (0, 0, [])), (.iload_n 1, .inl (0, 0, [])), (.invokevirtual 198, .inr (.inl (mi_X8_checkLicensee, 8, 971, [0, 0]))), (.aload_n 0, .inl (0, 0, [])), (.iload_n 2, .inl (0, 0, [])), (.invokevirtual 127, .inr (.inl (mi_X8_checkVersion, 8, 862, [0, 0]))), (.aload_n 0, .inl (0, 0, [])), (.getfield 39, .inl (8, 5, [2, 439])), (.getfield 204, .inl (4, 9, [2, 262])), (.iload_n 1, .inl (0, 0, [])), (.iload_n 2, .inl (0, 0, [])), (.invokestatic 134, .inr (.inl (mi_X8_pairOf, 0, 875, [0, 0]))), (.iaload, .inl (0, 0, [])), (.ireturn, .inl (0, 0, []))]
theorem sk_X8_reported_0 : pp_chk mi_X8_reported 24 0 (pp_cnt mi_X8_reported 0) sg_X8_reported_0 = true := by decide +kernel
def sg_X8_account_0 : pp_Seg := [(.aload_n 0, .inl (0, 0, [])), (.iload_n 1, .inl (0, 0, [])), (.invokevirtual 151, .inr (.inl (mi_X8_checkMember, 8, 902, [0, 0]))), (.aload_n 0, .inl (0, 0, [])), (.getfield 39, .inl (8, 5, [2, 439])), (.getfield 207, .inl (4, 12, [2, 268])), (.iload_n 1, .inl (0, 0, [])), (.laload, .inl (0, 0, [])), (.lreturn, .inl (0, 0, []))]
theorem sk_X8_account_0 : pp_chk mi_X8_account 15 0 (pp_cnt mi_X8_account 0) sg_X8_account_0 = true := by decide +kernel
def sg_X8_latestShare_0 : pp_Seg := [(.aload_n 0, .inl (0, 0, [])), (.iload_n 1, .inl (0, 0, [])), (.invokevirtual 151, .inr (.inl (mi_X8_checkMember, 8, 902, [0, 0]))), (.aload_n 0, .inl (0, 0, [])), (.getfield 39, .inl (8, 5, [2, 439])), (.getfield 210, .inl (4, 13, [2, 270])), (.iload_n 1, .inl (0, 0, [])), (.laload, .inl (0, 0, [])), (.lreturn, .inl (0, 0, []))]
theorem sk_X8_latestShare_0 : pp_chk mi_X8_latestShare 15 0 (pp_cnt mi_X8_latestShare 0) sg_X8_latestShare_0 = true := by decide +kernel
def sg_X8_total_0 : pp_Seg := [(.iload_n 1, .inl (0, 0, [])), (.tableswitch 75 0 4 #[35, 43, 51, 59, 67], .inl (76, 35, [36, 44, 52, 60, 68]))]
theorem sk_X8_total_0 : pp_chk mi_X8_total 36 0 (pp_cnt mi_X8_total 0) sg_X8_total_0 = true := by decide +kernel
def sg_X8_total_36 : pp_Seg := [(.aload_n 0, .inl (0, 0, [])), (.getfield 39, .inl (8, 5, [2, 439])), (.getfield 213, .inl (4, 14, [1, 272])), (.lreturn, .inl (0, 0, []))]
theorem sk_X8_total_36 : pp_chk mi_X8_total 44 36 (pp_cnt mi_X8_total 36) sg_X8_total_36 = true := by decide +kernel
def sg_X8_total_44 : pp_Seg := [(.aload_n 0, .inl (0, 0, [])), (.getfield 39, .inl (8, 5, [2, 439])), (.getfield 217, .inl (4, 15, [1, 274])), (.lreturn, .inl (0, 0, []))]
theorem sk_X8_total_44 : pp_chk mi_X8_total 52 44 (pp_cnt mi_X8_total 44) sg_X8_total_44 = true := by decide +kernel
def sg_X8_total_52 : pp_Seg := [(.aload_n 0, .inl (0, 0, [])), (.getfield 39, .inl (8, 5, [2, 439])), (.getfield 220, .inl (4, 16, [1, 276])), (.lreturn, .inl (0, 0, []))]
theorem sk_X8_total_52 : pp_chk mi_X8_total 60 52 (pp_cnt mi_X8_total 52) sg_X8_total_52 = true := by decide +kernel
def sg_X8_total_60 : pp_Seg := [(.aload_n 0, .inl (0, 0, [])), (.getfield 39, .inl (8, 5, [2, 439])), (.getfield 223, .inl (4, 17, [1, 278])), (.lreturn, .inl (0, 0, []))]
theorem sk_X8_total_60 : pp_chk mi_X8_total 68 60 (pp_cnt mi_X8_total 60) sg_X8_total_60 = true := by decide +kernel
def sg_X8_total_68 : pp_Seg := [(.aload_n 0, .inl (0, 0, [])), (.getfield 39, .inl (8, 5, [2, 439])), (.getfield 226, .inl (4, 18, [1, 280])), (.lreturn, .inl (0, 0, []))]
theorem sk_X8_total_68 : pp_chk mi_X8_total 76 68 (pp_cnt mi_X8_total 68) sg_X8_total_68 = true := by decide +kernel
def sg_X8_total_76 : pp_Seg := [(.athrow, .inl (0, 116, [0, 1]))]
theorem sk_X8_total_76 : pp_chk mi_X8_total 86 76 (pp_cnt mi_X8_total 76) sg_X8_total_76 = true := by decide +kernel
def sg_X8_largestDebtor_0 : pp_Seg := [(.iconst (-1), .inr (.inr (.int (-1), 0))), (.istore_n 1, .inl (0, 0, [])), (.lconst 0, .inr (.inr (.long 0, 0))), (.lstore_n 2, .inl (0, 0, [])), (.iconst 0, .inr (.inr (.int 0, 0))), (.istore 4, .inl (0, 0, []))]
theorem sk_X8_largestDebtor_0 : pp_chk mi_X8_largestDebtor 7 0 (pp_cnt mi_X8_largestDebtor 0) sg_X8_largestDebtor_0 = true := by decide +kernel
def sg_X8_largestDebtor_7 : pp_Seg := [(.iload 4, .inl (0, 0, [])), (.aload_n 0, .inl (0, 0, [])), (.getfield 32, .inl (8, 4, [2, 438])), (.getfield 113, .inl (6, 3, [0, 161])), (.if_icmp .ge 38, .inl (54, 0, [])), (.aload_n 0, .inl (0, 0, [])), (.getfield 39, .inl (8, 5, [2, 439])), (.getfield 201, .inl (4, 10, [2, 264])), (.iload 4, .inl (0, 0, [])), (.laload, .inl (0, 0, [])), (.lload_n 2, .inl (0, 0, [])), (.lcmp, .inl (0, 0, [])), (.ifCond .le 17, .inl (48, 0, [])), (.iload 4, .inl (0, 0, [])), (.istore_n 1, .inl (0, 0, [])), (.aload_n 0, .inl (0, 0, [])), (.getfield 39, .inl (8, 5, [2, 439])), (.getfield 201, .inl (4, 10, [2, 264])), (.iload 4, .inl (0, 0, [])), (.laload, .inl (0, 0, [])), (.lstore_n 2, .inl (0, 0, []))]
theorem sk_X8_largestDebtor_7 : pp_chk mi_X8_largestDebtor 48 7 (pp_cnt mi_X8_largestDebtor 7) sg_X8_largestDebtor_7 = true := by decide +kernel
def sg_X8_largestDebtor_48 : pp_Seg := [(.iinc 4 1, .inr (.inr (.int 1, 0))), (.goto (-44), .inl (7, 0, []))]
theorem sk_X8_largestDebtor_48 : pp_chk mi_X8_largestDebtor 54 48 (pp_cnt mi_X8_largestDebtor 48) sg_X8_largestDebtor_48 = true := by decide +kernel
def sg_X8_largestDebtor_54 : pp_Seg := [(.iload_n 1, .inl (0, 0, [])), (.ireturn, .inl (0, 0, []))]
theorem sk_X8_largestDebtor_54 : pp_chk mi_X8_largestDebtor 56 54 (pp_cnt mi_X8_largestDebtor 54) sg_X8_largestDebtor_54 = true := by decide +kernel
def sg_X3_remember_0 : pp_Seg := [(.aload_n 0, .inl (0, 0, [])), (.aload_n 0, .inl (0, 0, [])), (.getfield 17, .inl (3, 1, [0, 425])), (.iconst 1, .inr (.inr (.int 1, 0))), (.iadd, .inl (0, 0, [])), (.aload_n 0, .inl (0, 0, [])), (.getfield 11, .inl (3, 0, [2, 424])), (.arraylength, .inl (0, 0, [])), (.if_icmp .ge 12, .inl (24, 0, [])), (.aload_n 0, .inl (0, 0, [])), (.getfield 17, .inl (3, 1, [0, 425])), (.iconst 1, .inr (.inr (.int 1, 0))), (.iadd, .inl (0, 0, [])), (.goto 4, .inl (25, 0, []))]
theorem sk_X3_remember_0 : pp_chk mi_X3_remember 24 0 (pp_cnt mi_X3_remember 0) sg_X3_remember_0 = true := by decide +kernel
def sg_X3_remember_24 : pp_Seg := [(.iconst 0, .inr (.inr (.int 0, 0)))]
theorem sk_X3_remember_24 : pp_chk mi_X3_remember 25 24 (pp_cnt mi_X3_remember 24) sg_X3_remember_24 = true := by decide +kernel
def sg_X3_remember_25 : pp_Seg := [(.putfield 17, .inl (3, 1, [0, 425])), (.aload_n 0, .inl (0, 0, [])), (.getfield 11, .inl (3, 0, [2, 424])), (.aload_n 0, .inl (0, 0, [])), (.getfield 17, .inl (3, 1, [0, 425])), (.aaload, .inl (0, 0, [])), (.astore_n 2, .inl (0, 0, [])), (.aload_n 2, .inl (0, 0, [])), (.ifnonnull 21, .inl (60, 0, [])), (.new 9, .inl (4, 19, [422])), (.dup, .inl (0, 0, [])), (.invokespecial 24, .inr (.inl (mi_X4_init, 4, 1032, [0]))), (.astore_n 2, .inl (0, 0, [])), (.aload_n 0, .inl (0, 0, [])), (.getfield 11, .inl (3, 0, [2, 424])), (.aload_n 0, .inl (0, 0, [])), (.getfield 17, .inl (3, 1, [0, 425])), (.aload_n 2, .inl (0, 0, [])), (.aastore, .inl (0, 0, []))]
theorem sk_X3_remember_25 : pp_chk mi_X3_remember 60 25 (pp_cnt mi_X3_remember 25) sg_X3_remember_25 = true := by decide +kernel
def sg_X3_remember_60 : pp_Seg := [(.aload_n 2, .inl (0, 0, [])), (.aload_n 1, .inl (0, 0, [])), (.invokevirtual 25, .inr (.inl (mi_X4_copyFrom, 4, 564, [0, 0]))), (.aload_n 0, .inl (0, 0, [])), (.aload_n 0, .inl (0, 0, [])), (.getfield 21, .inl (3, 2, [0, 426])), (.iconst 1, .inr (.inr (.int 1, 0))), (.iadd, .inl (0, 0, [])), (.bipush 10, .inr (.inr (.int 10, 0))), (.invokestatic 29, .inl (2, 1033, [])), (.putfield 21, .inl (3, 2, [0, 426])), (.return_, .inl (0, 0, []))]
theorem sk_X3_remember_60 : pp_chk mi_X3_remember 81 60 (pp_cnt mi_X3_remember 60) sg_X3_remember_60 = true := by decide +kernel
def sg_X8_advance_0 : pp_Seg := [(.iload_n 1, .inl (0, 0, [])), (.iconst 1, .inr (.inr (.int 1, 0))), (.if_icmp .lt 10, .inl (12, 0, [])), (.iload_n 1, .inl (0, 0, [])), (.sipush 9999, .inr (.inr (.int 9999, 0))), (.if_icmp .le 13, .inl (22, 0, []))]
theorem sk_X8_advance_0 : pp_chk mi_X8_advance 12 0 (pp_cnt mi_X8_advance 0) sg_X8_advance_0 = true := by decide +kernel
def sg_X8_advance_12 : pp_Seg := [(.athrow, .inl (0, 167, [0, 2]))]
theorem sk_X8_advance_12 : pp_chk mi_X8_advance 22 12 (pp_cnt mi_X8_advance 12) sg_X8_advance_12 = true := by decide +kernel
def sg_X8_advance_22 : pp_Seg := [(.aload_n 0, .inl (0, 0, [])), (.getfield 39, .inl (8, 5, [2, 439])), (.getfield 118, .inl (4, 0, [0, 237])), (.iload_n 1, .inl (0, 0, [])), (.iadd, .inl (0, 0, [])), (.sipush 9999, .inr (.inr (.int 9999, 0))), (.if_icmp .le 13, .inl (47, 0, [])), (.athrow, .inl (1, 231, [0, 4]))]
theorem sk_X8_advance_22 : pp_chk mi_X8_advance 47 22 (pp_cnt mi_X8_advance 22) sg_X8_advance_22 = true := by decide +kernel
def sg_X8_advance_47 : pp_Seg := [(.aload_n 0, .inl (0, 0, [])), (.getfield 62, .inl (8, 8, [2, 442])), (.aload_n 0, .inl (0, 0, [])), (.getfield 39, .inl (8, 5, [2, 439])), (.invokevirtual 234, .inr (.inl (mi_X3_remember, 3, 1028, [0, 0]))), (.aload_n 0, .inl (0, 0, [])), (.getfield 39, .inl (8, 5, [2, 439])), (.dup, .inl (0, 0, [])), (.getfield 118, .inl (4, 0, [0, 237])), (.iload_n 1, .inl (0, 0, [])), (.iadd, .inl (0, 0, [])), (.putfield 118, .inl (4, 0, [0, 237])), (.aload_n 0, .inl (0, 0, [])), (.getfield 39, .inl (8, 5, [2, 439])), (.getfield 118, .inl (4, 0, [0, 237])), (.ireturn, .inl (0, 0, []))]
theorem sk_X8_advance_47 : pp_chk mi_X8_advance 79 47 (pp_cnt mi_X8_advance 47) sg_X8_advance_47 = true := by decide +kernel
def sg_X8_join_0 : pp_Seg := [(.aload_n 0, .inl (0, 0, [])), (.getfield 39, .inl (8, 5, [2, 439])), (.getfield 104, .inl (4, 2, [0, 242])), (.bipush 8, .inr (.inr (.int 8, 0))), (.if_icmp .lt 13, .inl (22, 0, [])), (.athrow, .inl (1, 237, [0, 5]))]
theorem sk_X8_join_0 : pp_chk mi_X8_join 22 0 (pp_cnt mi_X8_join 0) sg_X8_join_0 = true := by decide +kernel
def sg_X8_join_22 : pp_Seg := [(.aload_n 0, .inl (0, 0, [])), (.getfield 62, .inl (8, 8, [2, 442])), (.aload_n 0, .inl (0, 0, [])), (.getfield 39, .inl (8, 5, [2, 439])), (.invokevirtual 234, .inr (.inl (mi_X3_remember, 3, 1028, [0, 0]))), (.aload_n 0, .inl (0, 0, [])), (.getfield 39, .inl (8, 5, [2, 439])), (.aload_n 0, .inl (0, 0, [])), (.getfield 39, .inl (8, 5, [2, 439])), (.getfield 118, .inl (4, 0, [0, 237])), (.invokevirtual 239, .inr (.inl (mi_X4_addMember, 4, 1042, [0, 0]))), (.ireturn, .inl (0, 0, []))]
theorem sk_X8_join_22 : pp_chk mi_X8_join 48 22 (pp_cnt mi_X8_join 22) sg_X8_join_22 = true := by decide +kernel
def sg_X8_declare_0 : pp_Seg := [(.aload_n 0, .inl (0, 0, [])), (.iload_n 1, .inl (0, 0, [])), (.invokevirtual 151, .inr (.inl (mi_X8_checkMember, 8, 902, [0, 0]))), (.iload_n 2, .inl (0, 0, [])), (.aload_n 0, .inl (0, 0, [])), (.getfield 39, .inl (8, 5, [2, 439])), (.getfield 118, .inl (4, 0, [0, 237])), (.if_icmp .le 10, .inl (23, 0, [])), (.iload_n 2, .inl (0, 0, [])), (.sipush 9999, .inr (.inr (.int 9999, 0))), (.if_icmp .le 13, .inl (33, 0, []))]
theorem sk_X8_declare_0 : pp_chk mi_X8_declare 23 0 (pp_cnt mi_X8_declare 0) sg_X8_declare_0 = true := by decide +kernel
def sg_X8_declare_23 : pp_Seg := [(.athrow, .inl (0, 242, [0, 6]))]
theorem sk_X8_declare_23 : pp_chk mi_X8_declare 33 23 (pp_cnt mi_X8_declare 23) sg_X8_declare_23 = true := by decide +kernel
def sg_X8_declare_33 : pp_Seg := [(.aload_n 0, .inl (0, 0, [])), (.getfield 39, .inl (8, 5, [2, 439])), (.getfield 110, .inl (4, 4, [0, 247])), (.bipush 16, .inr (.inr (.int 16, 0))), (.if_icmp .lt 13, .inl (55, 0, [])), (.athrow, .inl (1, 244, [0, 7]))]
theorem sk_X8_declare_33 : pp_chk mi_X8_declare 55 33 (pp_cnt mi_X8_declare 33) sg_X8_declare_33 = true := by decide +kernel
def sg_X8_declare_55 : pp_Seg := [(.aload_n 0, .inl (0, 0, [])), (.getfield 62, .inl (8, 8, [2, 442])), (.aload_n 0, .inl (0, 0, [])), (.getfield 39, .inl (8, 5, [2, 439])), (.invokevirtual 234, .inr (.inl (mi_X3_remember, 3, 1028, [0, 0]))), (.aload_n 0, .inl (0, 0, [])), (.getfield 39, .inl (8, 5, [2, 439])), (.iload_n 1, .inl (0, 0, [])), (.iload_n 2, .inl (0, 0, [])), (.invokevirtual 246, .inr (.inl (mi_X4_addPatent, 4, 1052, [0, 0, 0]))), (.ireturn, .inl (0, 0, []))]
theorem sk_X8_declare_55 : pp_chk mi_X8_declare 76 55 (pp_cnt mi_X8_declare 55) sg_X8_declare_55 = true := by decide +kernel
def sg_X8_vote_0 : pp_Seg := [(.iload_n 1, .inl (0, 0, [])), (.ifCond .lt 8, .inl (9, 0, [])), (.iload_n 1, .inl (0, 0, [])), (.iconst 5, .inr (.inr (.int 5, 0))), (.if_icmp .lt 13, .inl (19, 0, []))]
theorem sk_X8_vote_0 : pp_chk mi_X8_vote 9 0 (pp_cnt mi_X8_vote 0) sg_X8_vote_0 = true := by decide +kernel
def sg_X8_vote_9 : pp_Seg := [(.athrow, .inl (2, 251, [0, 8]))]
theorem sk_X8_vote_9 : pp_chk mi_X8_vote 19 9 (pp_cnt mi_X8_vote 9) sg_X8_vote_9 = true := by decide +kernel
def sg_X8_vote_19 : pp_Seg := [(.aload_n 0, .inl (0, 0, [])), (.iload_n 2, .inl (0, 0, [])), (.invokevirtual 124, .inr (.inl (mi_X8_checkPatent, 8, 842, [0, 0]))), (.aload_n 0, .inl (0, 0, [])), (.iload_n 3, .inl (0, 0, [])), (.invokevirtual 127, .inr (.inl (mi_X8_checkVersion, 8, 862, [0, 0]))), (.aload_n 0, .inl (0, 0, [])), (.getfield 48, .inl (8, 6, [2, 440])), (.iload_n 3, .inl (0, 0, [])), (.aload_n 0, .inl (0, 0, [])), (.getfield 39, .inl (8, 5, [2, 439])), (.getfield 118, .inl (4, 0, [0, 237])), (.invokevirtual 254, .inr (.inl (mi_X0_releasedOn, 0, 1061, [0, 0, 0]))), (.ifCond .eq 21, .inl (65, 0, [])), (.aload_n 0, .inl (0, 0, [])), (.getfield 48, .inl (8, 6, [2, 440])), (.iload_n 2, .inl (0, 0, [])), (.aload_n 0, .inl (0, 0, [])), (.getfield 39, .inl (8, 5, [2, 439])), (.getfield 118, .inl (4, 0, [0, 237])), (.invokevirtual 157, .inr (.inl (mi_X0_inForceOn, 0, 907, [0, 0, 0]))), (.ifCond .ne 14, .inl (76, 0, []))]
theorem sk_X8_vote_19 : pp_chk mi_X8_vote 65 19 (pp_cnt mi_X8_vote 19) sg_X8_vote_19 = true := by decide +kernel
def sg_X8_vote_65 : pp_Seg := [(.athrow, .inl (1, 257, [1, 9]))]
theorem sk_X8_vote_65 : pp_chk mi_X8_vote 76 65 (pp_cnt mi_X8_vote 65) sg_X8_vote_65 = true := by decide +kernel
def sg_X8_vote_76 : pp_Seg := [(.aload_n 0, .inl (0, 0, [])), (.getfield 62, .inl (8, 8, [2, 442])), (.aload_n 0, .inl (0, 0, [])), (.getfield 39, .inl (8, 5, [2, 439])), (.invokevirtual 234, .inr (.inl (mi_X3_remember, 3, 1028, [0, 0]))), (.iload_n 2, .inl (0, 0, [])), (.iload_n 3, .inl (0, 0, [])), (.invokestatic 134, .inr (.inl (mi_X8_pairOf, 0, 875, [0, 0]))), (.istore 5, .inl (0, 0, [])), (.iconst 1, .inr (.inr (.int 1, 0))), (.iload_n 1, .inl (0, 0, [])), (.ishl, .inl (0, 0, [])), (.istore 6, .inl (0, 0, [])), (.aload_n 0, .inl (0, 0, [])), (.getfield 39, .inl (8, 5, [2, 439])), (.getfield 137, .inl (4, 7, [2, 257])), (.iload 5, .inl (0, 0, [])), (.iload 4, .inl (0, 0, [])), (.ifCond .eq 19, .inl (129, 0, [])), (.aload_n 0, .inl (0, 0, [])), (.getfield 39, .inl (8, 5, [2, 439])), (.getfield 137, .inl (4, 7, [2, 257])), (.iload 5, .inl (0, 0, [])), (.iaload, .inl (0, 0, [])), (.iload 6, .inl (0, 0, [])), (.ior, .inl (0, 0, [])), (.goto 18, .inl (144, 0, []))]
theorem sk_X8_vote_76 : pp_chk mi_X8_vote 129 76 (pp_cnt mi_X8_vote 76) sg_X8_vote_76 = true := by decide +kernel
def sg_X8_vote_129 : pp_Seg := [(.aload_n 0, .inl (0, 0, [])), (.getfield 39, .inl (8, 5, [2, 439])), (.getfield 137, .inl (4, 7, [2, 257])), (.iload 5, .inl (0, 0, [])), (.iaload, .inl (0, 0, [])), (.iload 6, .inl (0, 0, [])), (.iconst (-1), .inr (.inr (.int (-1), 0))), (.ixor, .inl (0, 0, [])), (.iand, .inl (0, 0, []))]
theorem sk_X8_vote_129 : pp_chk mi_X8_vote 144 129 (pp_cnt mi_X8_vote 129) sg_X8_vote_129 = true := by decide +kernel
def sg_X8_vote_144 : pp_Seg := [(.iastore, .inl (0, 0, [])), (.aload_n 0, .inl (0, 0, [])), (.getfield 39, .inl (8, 5, [2, 439])), (.getfield 141, .inl (4, 8, [2, 260])), (.iload 5, .inl (0, 0, [])), (.iload 4, .inl (0, 0, [])), (.ifCond .eq 21, .inl (177, 0, [])), (.aload_n 0, .inl (0, 0, [])), (.getfield 39, .inl (8, 5, [2, 439])), (.getfield 141, .inl (4, 8, [2, 260])), (.iload 5, .inl (0, 0, [])), (.iaload, .inl (0, 0, [])), (.iload 6, .inl (0, 0, [])), (.iconst (-1), .inr (.inr (.int (-1), 0))), (.ixor, .inl (0, 0, [])), (.iand, .inl (0, 0, [])), (.goto 16, .inl (190, 0, []))]
theorem sk_X8_vote_144 : pp_chk mi_X8_vote 177 144 (pp_cnt mi_X8_vote 144) sg_X8_vote_144 = true := by decide +kernel
def sg_X8_vote_177 : pp_Seg := [(.aload_n 0, .inl (0, 0, [])), (.getfield 39, .inl (8, 5, [2, 439])), (.getfield 141, .inl (4, 8, [2, 260])), (.iload 5, .inl (0, 0, [])), (.iaload, .inl (0, 0, [])), (.iload 6, .inl (0, 0, [])), (.ior, .inl (0, 0, []))]
theorem sk_X8_vote_177 : pp_chk mi_X8_vote 190 177 (pp_cnt mi_X8_vote 177) sg_X8_vote_177 = true := by decide +kernel
def sg_X8_vote_190 : pp_Seg := [(.iastore, .inl (0, 0, [])), (.aload_n 0, .inl (0, 0, [])), (.getfield 48, .inl (8, 6, [2, 440])), (.iload_n 2, .inl (0, 0, [])), (.iload_n 3, .inl (0, 0, [])), (.invokevirtual 130, .inr (.inl (mi_X0_decide, 0, 867, [0, 0, 0]))), (.ireturn, .inl (0, 0, []))]
theorem sk_X8_vote_190 : pp_chk mi_X8_vote 201 190 (pp_cnt mi_X8_vote 190) sg_X8_vote_190 = true := by decide +kernel
def sg_X8_reopen_0 : pp_Seg := [(.aload_n 0, .inl (0, 0, [])), (.iload_n 1, .inl (0, 0, [])), (.invokevirtual 124, .inr (.inl (mi_X8_checkPatent, 8, 842, [0, 0]))), (.aload_n 0, .inl (0, 0, [])), (.iload_n 2, .inl (0, 0, [])), (.invokevirtual 127, .inr (.inl (mi_X8_checkVersion, 8, 862, [0, 0]))), (.iload_n 1, .inl (0, 0, [])), (.iload_n 2, .inl (0, 0, [])), (.invokestatic 134, .inr (.inl (mi_X8_pairOf, 0, 875, [0, 0]))), (.istore_n 3, .inl (0, 0, [])), (.aload_n 0, .inl (0, 0, [])), (.getfield 39, .inl (8, 5, [2, 439])), (.getfield 137, .inl (4, 7, [2, 257])), (.iload_n 3, .inl (0, 0, [])), (.iaload, .inl (0, 0, [])), (.aload_n 0, .inl (0, 0, [])), (.getfield 39, .inl (8, 5, [2, 439])), (.getfield 141, .inl (4, 8, [2, 260])), (.iload_n 3, .inl (0, 0, [])), (.iaload, .inl (0, 0, [])), (.ior, .inl (0, 0, [])), (.invokestatic 190, .inr (.inl (mi_J6_bitCount_0f7a4, 0, 551, [0]))), (.istore 4, .inl (0, 0, [])), (.iload 4, .inl (0, 0, [])), (.ifCond .ne 14, .inl (56, 0, [])), (.athrow, .inl (1, 259, [1, 10]))]
theorem sk_X8_reopen_0 : pp_chk mi_X8_reopen 56 0 (pp_cnt mi_X8_reopen 0) sg_X8_reopen_0 = true := by decide +kernel
def sg_X8_reopen_56 : pp_Seg := [(.aload_n 0, .inl (0, 0, [])), (.getfield 62, .inl (8, 8, [2, 442])), (.aload_n 0, .inl (0, 0, [])), (.getfield 39, .inl (8, 5, [2, 439])), (.invokevirtual 234, .inr (.inl (mi_X3_remember, 3, 1028, [0, 0]))), (.aload_n 0, .inl (0, 0, [])), (.getfield 39, .inl (8, 5, [2, 439])), (.getfield 137, .inl (4, 7, [2, 257])), (.iload_n 3, .inl (0, 0, [])), (.iconst 0, .inr (.inr (.int 0, 0))), (.iastore, .inl (0, 0, [])), (.aload_n 0, .inl (0, 0, [])), (.getfield 39, .inl (8, 5, [2, 439])), (.getfield 141, .inl (4, 8, [2, 260])), (.iload_n 3, .inl (0, 0, [])), (.iconst 0, .inr (.inr (.int 0, 0))), (.iastore, .inl (0, 0, [])), (.iload 4, .inl (0, 0, [])), (.ireturn, .inl (0, 0, []))]
theorem sk_X8_reopen_56 : pp_chk mi_X8_reopen 90 56 (pp_cnt mi_X8_reopen 56) sg_X8_reopen_56 = true := by decide +kernel
def sg_X8_royaltyOf_0 : pp_Seg := [(.iload_n 3, .inl (0, 0, [])), (.i2l, .inl (0, 0, [])), (.aload_n 0, .inl (0, 0, [])), (.getfield 32, .inl (8, 4, [2, 438])), (.getfield 294, .inl (6, 2, [2, 158])), (.iload_n 2, .inl (0, 0, [])), (.iaload, .inl (0, 0, [])), (.i2l, .inl (0, 0, [])), (.lmul, .inl (0, 0, [])), (.bipush 100, .inr (.inr (.int 100, 0))), (.aload_n 0, .inl (0, 0, [])), (.getfield 32, .inl (8, 4, [2, 438])), (.getfield 297, .inl (6, 4, [2, 163])), (.iload_n 1, .inl (0, 0, [])), (.iaload, .inl (0, 0, [])), (.isub, .inl (0, 0, [])), (.i2l, .inl (0, 0, [])), (.lmul, .inl (0, 0, [])), (.ldc2_w 277, .inr (.inr (.long 100, 1084))), (.ldiv, .inl (0, 0, [])), (.lreturn, .inl (0, 0, []))]
theorem sk_X8_royaltyOf_0 : pp_chk mi_X8_royaltyOf 32 0 (pp_cnt mi_X8_royaltyOf 0) sg_X8_royaltyOf_0 = true := by decide +kernel
def sg_X8_report_0 : pp_Seg := [(.aload_n 0, .inl (0, 0, [])), (.iload_n 1, .inl (0, 0, [])), (.invokevirtual 198, .inr (.inl (mi_X8_checkLicensee, 8, 971, [0, 0]))), (.aload_n 0, .inl (0, 0, [])), (.iload_n 2, .inl (0, 0, [])), (.invokevirtual 127, .inr (.inl (mi_X8_checkVersion, 8, 862, [0, 0]))), (.iload_n 3, .inl (0, 0, [])), (.iconst 1, .inr (.inr (.int 1, 0))), (.if_icmp .lt 10, .inl (22, 0, [])), (.iload_n 3, .inl (0, 0, [])), (.sipush 9999, .inr (.inr (.int 9999, 0))), (.if_icmp .le 14, .inl (33, 0, []))]
theorem sk_X8_report_0 : pp_chk mi_X8_report 22 0 (pp_cnt mi_X8_report 0) sg_X8_report_0 = true := by decide +kernel
def sg_X8_report_22 : pp_Seg := [(.athrow, .inl (0, 261, [1, 11]))]
theorem sk_X8_report_22 : pp_chk mi_X8_report 33 22 (pp_cnt mi_X8_report 22) sg_X8_report_22 = true := by decide +kernel
def sg_X8_report_33 : pp_Seg := [(.aload_n 0, .inl (0, 0, [])), (.getfield 48, .inl (8, 6, [2, 440])), (.iload_n 2, .inl (0, 0, [])), (.aload_n 0, .inl (0, 0, [])), (.getfield 39, .inl (8, 5, [2, 439])), (.getfield 118, .inl (4, 0, [0, 237])), (.invokevirtual 254, .inr (.inl (mi_X0_releasedOn, 0, 1061, [0, 0, 0]))), (.ifCond .ne 14, .inl (62, 0, [])), (.athrow, .inl (1, 263, [1, 12]))]
theorem sk_X8_report_33 : pp_chk mi_X8_report 62 33 (pp_cnt mi_X8_report 33) sg_X8_report_33 = true := by decide +kernel
def sg_X8_report_62 : pp_Seg := [(.aload_n 0, .inl (0, 0, [])), (.getfield 62, .inl (8, 8, [2, 442])), (.aload_n 0, .inl (0, 0, [])), (.getfield 39, .inl (8, 5, [2, 439])), (.invokevirtual 234, .inr (.inl (mi_X3_remember, 3, 1028, [0, 0]))), (.aload_n 0, .inl (0, 0, [])), (.iload_n 1, .inl (0, 0, [])), (.iload_n 2, .inl (0, 0, [])), (.iload_n 3, .inl (0, 0, [])), (.invokevirtual 265, .inr (.inl (mi_X8_royaltyOf, 8, 1080, [0, 0, 0, 0]))), (.lstore 4, .inl (0, 0, [])), (.aload_n 0, .inl (0, 0, [])), (.getfield 39, .inl (8, 5, [2, 439])), (.getfield 201, .inl (4, 10, [2, 264])), (.iload_n 1, .inl (0, 0, [])), (.dup2, .inl (0, 0, [])), (.laload, .inl (0, 0, [])), (.lload 4, .inl (0, 0, [])), (.ladd, .inl (0, 0, [])), (.lastore, .inl (0, 0, [])), (.aload_n 0, .inl (0, 0, [])), (.getfield 39, .inl (8, 5, [2, 439])), (.getfield 204, .inl (4, 9, [2, 262])), (.iload_n 1, .inl (0, 0, [])), (.iload_n 2, .inl (0, 0, [])), (.invokestatic 134, .inr (.inl (mi_X8_pairOf, 0, 875, [0, 0]))), (.dup2, .inl (0, 0, [])), (.iaload, .inl (0, 0, [])), (.iload_n 3, .inl (0, 0, [])), (.iadd, .inl (0, 0, [])), (.iastore, .inl (0, 0, [])), (.lload 4, .inl (0, 0, [])), (.l2i, .inl (0, 0, [])), (.ireturn, .inl (0, 0, []))]
theorem sk_X8_report_62 : pp_chk mi_X8_report 117 62 (pp_cnt mi_X8_report 62) sg_X8_report_62 = true := by decide +kernel
def sg_X8_grantBack_0 : pp_Seg := [(.aload_n 0, .inl (0, 0, [])), (.iload_n 1, .inl (0, 0, [])), (.invokevirtual 198, .inr (.inl (mi_X8_checkLicensee, 8, 971, [0, 0]))), (.iconst 1, .inr (.inr (.int 1, 0))), (.iload_n 1, .inl (0, 0, [])), (.ishl, .inl (0, 0, [])), (.istore_n 2, .inl (0, 0, [])), (.aload_n 0, .inl (0, 0, [])), (.getfield 39, .inl (8, 5, [2, 439])), (.getfield 269, .inl (4, 11, [0, 266])), (.iload_n 2, .inl (0, 0, [])), (.iand, .inl (0, 0, [])), (.ifCond .eq 14, .inl (32, 0, [])), (.athrow, .inl (1, 272, [1, 13]))]
theorem sk_X8_grantBack_0 : pp_chk mi_X8_grantBack 32 0 (pp_cnt mi_X8_grantBack 0) sg_X8_grantBack_0 = true := by decide +kernel
def sg_X8_grantBack_32 : pp_Seg := [(.aload_n 0, .inl (0, 0, [])), (.getfield 39, .inl (8, 5, [2, 439])), (.getfield 201, .inl (4, 10, [2, 264])), (.iload_n 1, .inl (0, 0, [])), (.laload, .inl (0, 0, [])), (.aload_n 0, .inl (0, 0, [])), (.getfield 32, .inl (8, 4, [2, 438])), (.getfield 274, .inl (6, 13, [0, 190])), (.i2l, .inl (0, 0, [])), (.lmul, .inl (0, 0, [])), (.ldc2_w 277, .inr (.inr (.long 100, 1084))), (.ldiv, .inl (0, 0, [])), (.lstore_n 3, .inl (0, 0, [])), (.lload_n 3, .inl (0, 0, [])), (.aload_n 0, .inl (0, 0, [])), (.getfield 32, .inl (8, 4, [2, 438])), (.getfield 279, .inl (6, 12, [0, 187])), (.i2l, .inl (0, 0, [])), (.invokestatic 282, .inl (4, 1093, [])), (.l2i, .inl (0, 0, [])), (.istore 5, .inl (0, 0, [])), (.iload 5, .inl (0, 0, [])), (.ifCond .ne 14, .inl (86, 0, [])), (.athrow, .inl (1, 288, [1, 14]))]
theorem sk_X8_grantBack_32 : pp_chk mi_X8_grantBack 86 32 (pp_cnt mi_X8_grantBack 32) sg_X8_grantBack_32 = true := by decide +kernel
def sg_X8_grantBack_86 : pp_Seg := [(.aload_n 0, .inl (0, 0, [])), (.getfield 62, .inl (8, 8, [2, 442])), (.aload_n 0, .inl (0, 0, [])), (.getfield 39, .inl (8, 5, [2, 439])), (.invokevirtual 234, .inr (.inl (mi_X3_remember, 3, 1028, [0, 0]))), (.aload_n 0, .inl (0, 0, [])), (.getfield 39, .inl (8, 5, [2, 439])), (.getfield 201, .inl (4, 10, [2, 264])), (.iload_n 1, .inl (0, 0, [])), (.dup2, .inl (0, 0, [])), (.laload, .inl (0, 0, [])), (.iload 5, .inl (0, 0, [])), (.i2l, .inl (0, 0, [])), (.lsub, .inl (0, 0, [])), (.lastore, .inl (0, 0, [])), (.aload_n 0, .inl (0, 0, [])), (.getfield 39, .inl (8, 5, [2, 439])), (.dup, .inl (0, 0, [])), (.getfield 269, .inl (4, 11, [0, 266])), (.iload_n 2, .inl (0, 0, [])), (.ior, .inl (0, 0, [])), (.putfield 269, .inl (4, 11, [0, 266])), (.iload 5, .inl (0, 0, [])), (.ireturn, .inl (0, 0, []))]
theorem sk_X8_grantBack_86 : pp_chk mi_X8_grantBack 128 86 (pp_cnt mi_X8_grantBack 86) sg_X8_grantBack_86 = true := by decide +kernel
def sg_X8_pay_0 : pp_Seg := [(.aload_n 0, .inl (0, 0, [])), (.iload_n 1, .inl (0, 0, [])), (.invokevirtual 198, .inr (.inl (mi_X8_checkLicensee, 8, 971, [0, 0]))), (.iload_n 2, .inl (0, 0, [])), (.iconst 1, .inr (.inr (.int 1, 0))), (.if_icmp .lt 18, .inl (25, 0, [])), (.iload_n 2, .inl (0, 0, [])), (.i2l, .inl (0, 0, [])), (.aload_n 0, .inl (0, 0, [])), (.getfield 39, .inl (8, 5, [2, 439])), (.getfield 201, .inl (4, 10, [2, 264])), (.iload_n 1, .inl (0, 0, [])), (.laload, .inl (0, 0, [])), (.lcmp, .inl (0, 0, [])), (.ifCond .le 13, .inl (35, 0, []))]
theorem sk_X8_pay_0 : pp_chk mi_X8_pay 25 0 (pp_cnt mi_X8_pay 0) sg_X8_pay_0 = true := by decide +kernel
def sg_X8_pay_25 : pp_Seg := [(.athrow, .inl (0, 170, [0, 3]))]
theorem sk_X8_pay_25 : pp_chk mi_X8_pay 35 25 (pp_cnt mi_X8_pay 25) sg_X8_pay_25 = true := by decide +kernel
def sg_X8_pay_35 : pp_Seg := [(.aload_n 0, .inl (0, 0, [])), (.getfield 62, .inl (8, 8, [2, 442])), (.aload_n 0, .inl (0, 0, [])), (.getfield 39, .inl (8, 5, [2, 439])), (.invokevirtual 234, .inr (.inl (mi_X3_remember, 3, 1028, [0, 0]))), (.aload_n 0, .inl (0, 0, [])), (.getfield 39, .inl (8, 5, [2, 439])), (.getfield 201, .inl (4, 10, [2, 264])), (.iload_n 1, .inl (0, 0, [])), (.dup2, .inl (0, 0, [])), (.laload, .inl (0, 0, [])), (.iload_n 2, .inl (0, 0, [])), (.i2l, .inl (0, 0, [])), (.lsub, .inl (0, 0, [])), (.lastore, .inl (0, 0, [])), (.aload_n 0, .inl (0, 0, [])), (.getfield 39, .inl (8, 5, [2, 439])), (.dup, .inl (0, 0, [])), (.getfield 213, .inl (4, 14, [1, 272])), (.iload_n 2, .inl (0, 0, [])), (.i2l, .inl (0, 0, [])), (.ladd, .inl (0, 0, [])), (.putfield 213, .inl (4, 14, [1, 272])), (.aload_n 0, .inl (0, 0, [])), (.getfield 39, .inl (8, 5, [2, 439])), (.dup, .inl (0, 0, [])), (.getfield 223, .inl (4, 17, [1, 278])), (.iload_n 2, .inl (0, 0, [])), (.i2l, .inl (0, 0, [])), (.ladd, .inl (0, 0, [])), (.putfield 223, .inl (4, 17, [1, 278])), (.aload_n 0, .inl (0, 0, [])), (.getfield 39, .inl (8, 5, [2, 439])), (.getfield 201, .inl (4, 10, [2, 264])), (.iload_n 1, .inl (0, 0, [])), (.laload, .inl (0, 0, [])), (.lreturn, .inl (0, 0, []))]
theorem sk_X8_pay_35 : pp_chk mi_X8_pay 98 35 (pp_cnt mi_X8_pay 35) sg_X8_pay_35 = true := by decide +kernel
def sg_X8_audit_0 : pp_Seg := [(.aload_n 0, .inl (0, 0, [])), (.iload_n 1, .inl (0, 0, [])), (.invokevirtual 198, .inr (.inl (mi_X8_checkLicensee, 8, 971, [0, 0]))), (.aload_n 0, .inl (0, 0, [])), (.iload_n 2, .inl (0, 0, [])), (.invokevirtual 127, .inr (.inl (mi_X8_checkVersion, 8, 862, [0, 0]))), (.iload_n 3, .inl (0, 0, [])), (.ifCond .lt 10, .inl (21, 0, [])), (.iload_n 3, .inl (0, 0, [])), (.ldc_w 290, .inr (.inr (.int 99999, 1111))), (.if_icmp .le 14, .inl (32, 0, []))]
theorem sk_X8_audit_0 : pp_chk mi_X8_audit 21 0 (pp_cnt mi_X8_audit 0) sg_X8_audit_0 = true := by decide +kernel
def sg_X8_audit_21 : pp_Seg := [(.athrow, .inl (0, 261, [1, 11]))]
theorem sk_X8_audit_21 : pp_chk mi_X8_audit 32 21 (pp_cnt mi_X8_audit 21) sg_X8_audit_21 = true := by decide +kernel
def sg_X8_audit_32 : pp_Seg := [(.aload_n 0, .inl (0, 0, [])), (.getfield 62, .inl (8, 8, [2, 442])), (.aload_n 0, .inl (0, 0, [])), (.getfield 39, .inl (8, 5, [2, 439])), (.invokevirtual 234, .inr (.inl (mi_X3_remember, 3, 1028, [0, 0]))), (.iload_n 1, .inl (0, 0, [])), (.iload_n 2, .inl (0, 0, [])), (.invokestatic 134, .inr (.inl (mi_X8_pairOf, 0, 875, [0, 0]))), (.istore 4, .inl (0, 0, [])), (.iload_n 3, .inl (0, 0, [])), (.aload_n 0, .inl (0, 0, [])), (.getfield 39, .inl (8, 5, [2, 439])), (.getfield 204, .inl (4, 9, [2, 262])), (.iload 4, .inl (0, 0, [])), (.iaload, .inl (0, 0, [])), (.isub, .inl (0, 0, [])), (.istore 5, .inl (0, 0, [])), (.iload 5, .inl (0, 0, [])), (.ifCond .gt 5, .inl (71, 0, [])), (.lconst 0, .inr (.inr (.long 0, 0))), (.lreturn, .inl (0, 0, []))]
theorem sk_X8_audit_32 : pp_chk mi_X8_audit 71 32 (pp_cnt mi_X8_audit 32) sg_X8_audit_32 = true := by decide +kernel
def sg_X8_audit_71 : pp_Seg := [(.aload_n 0, .inl (0, 0, [])), (.iload_n 1, .inl (0, 0, [])), (.iload_n 2, .inl (0, 0, [])), (.iload 5, .inl (0, 0, [])), (.invokevirtual 265, .inr (.inl (mi_X8_royaltyOf, 8, 1080, [0, 0, 0, 0]))), (.lstore 6, .inl (0, 0, [])), (.lload 6, .inl (0, 0, [])), (.lload 6, .inl (0, 0, [])), (.aload_n 0, .inl (0, 0, [])), (.getfield 32, .inl (8, 4, [2, 438])), (.getfield 291, .inl (6, 14, [0, 193])), (.i2l, .inl (0, 0, [])), (.lmul, .inl (0, 0, [])), (.ldc2_w 277, .inr (.inr (.long 100, 1084))), (.ldiv, .inl (0, 0, [])), (.ladd, .inl (0, 0, [])), (.lstore 8, .inl (0, 0, [])), (.aload_n 0, .inl (0, 0, [])), (.getfield 39, .inl (8, 5, [2, 439])), (.getfield 201, .inl (4, 10, [2, 264])), (.iload_n 1, .inl (0, 0, [])), (.dup2, .inl (0, 0, [])), (.laload, .inl (0, 0, [])), (.lload 8, .inl (0, 0, [])), (.ladd, .inl (0, 0, [])), (.lastore, .inl (0, 0, [])), (.aload_n 0, .inl (0, 0, [])), (.getfield 39, .inl (8, 5, [2, 439])), (.getfield 204, .inl (4, 9, [2, 262])), (.iload 4, .inl (0, 0, [])), (.iload_n 3, .inl (0, 0, [])), (.iastore, .inl (0, 0, [])), (.lload 8, .inl (0, 0, [])), (.lreturn, .inl (0, 0, []))]
theorem sk_X8_audit_71 : pp_chk mi_X8_audit 129 71 (pp_cnt mi_X8_audit 71) sg_X8_audit_71 = true := by decide +kernel
def sg_X4_bookShares_0 : pp_Seg := [(.iconst 0, .inr (.inr (.int 0, 0))), (.istore_n 2, .inl (0, 0, []))]
theorem sk_X4_bookShares_0 : pp_chk mi_X4_bookShares 2 0 (pp_cnt mi_X4_bookShares 0) sg_X4_bookShares_0 = true := by decide +kernel
def sg_X4_bookShares_2 : pp_Seg := [(.iload_n 2, .inl (0, 0, [])), (.bipush 8, .inr (.inr (.int 8, 0))), (.if_icmp .ge 36, .inl (41, 0, [])), (.iload_n 2, .inl (0, 0, [])), (.aload_n 1, .inl (0, 0, [])), (.arraylength, .inl (0, 0, [])), (.if_icmp .ge 30, .inl (41, 0, [])), (.aload_n 0, .inl (0, 0, [])), (.getfield 34, .inl (4, 12, [2, 267])), (.iload_n 2, .inl (0, 0, [])), (.dup2, .inl (0, 0, [])), (.laload, .inl (0, 0, [])), (.aload_n 1, .inl (0, 0, [])), (.iload_n 2, .inl (0, 0, [])), (.laload, .inl (0, 0, [])), (.ladd, .inl (0, 0, [])), (.lastore, .inl (0, 0, [])), (.aload_n 0, .inl (0, 0, [])), (.getfield 37, .inl (4, 13, [2, 269])), (.iload_n 2, .inl (0, 0, [])), (.aload_n 1, .inl (0, 0, [])), (.iload_n 2, .inl (0, 0, [])), (.laload, .inl (0, 0, [])), (.lastore, .inl (0, 0, [])), (.iinc 2 1, .inr (.inr (.int 1, 0))), (.goto (-36), .inl (2, 0, []))]
theorem sk_X4_bookShares_2 : pp_chk mi_X4_bookShares 41 2 (pp_cnt mi_X4_bookShares 2) sg_X4_bookShares_2 = true := by decide +kernel
def sg_X4_bookShares_41 : pp_Seg := [(.return_, .inl (0, 0, []))]
theorem sk_X4_bookShares_41 : pp_chk mi_X4_bookShares 42 41 (pp_cnt mi_X4_bookShares 41) sg_X4_bookShares_41 = true := by decide +kernel
def sg_X4_beginPeriod_0 : pp_Seg := [(.aload_n 0, .inl (0, 0, [])), (.dup, .inl (0, 0, [])), (.getfield 44, .inl (4, 1, [0, 238])), (.iconst 1, .inr (.inr (.int 1, 0))), (.iadd, .inl (0, 0, [])), (.putfield 44, .inl (4, 1, [0, 238])), (.aload_n 0, .inl (0, 0, [])), (.lconst 0, .inr (.inr (.long 0, 0))), (.putfield 62, .inl (4, 14, [1, 271])), (.aload_n 0, .inl (0, 0, [])), (.iconst 0, .inr (.inr (.int 0, 0))), (.putfield 59, .inl (4, 11, [0, 265])), (.aload_n 0, .inl (0, 0, [])), (.getfield 27, .inl (4, 9, [2, 261])), (.iconst 0, .inr (.inr (.int 0, 0))), (.invokestatic 78, .inr (.inl (mi_J7_fill_53178, 0, 1128, [0, 0]))), (.return_, .inl (0, 0, []))]
theorem sk_X4_beginPeriod_0 : pp_chk mi_X4_beginPeriod 29 0 (pp_cnt mi_X4_beginPeriod 0) sg_X4_beginPeriod_0 = true := by decide +kernel
def sg_X8_close_0 : pp_Seg := [(.aload_n 0, .inl (0, 0, [])), (.getfield 39, .inl (8, 5, [2, 439])), (.getfield 213, .inl (4, 14, [1, 272])), (.lconst 0, .inr (.inr (.long 0, 0))), (.lcmp, .inl (0, 0, [])), (.ifCond .ne 14, .inl (23, 0, [])), (.athrow, .inl (1, 300, [1, 15]))]
theorem sk_X8_close_0 : pp_chk mi_X8_close 23 0 (pp_cnt mi_X8_close 0) sg_X8_close_0 = true := by decide +kernel
def sg_X8_close_23 : pp_Seg := [(.aload_n 0, .inl (0, 0, [])), (.getfield 62, .inl (8, 8, [2, 442])), (.aload_n 0, .inl (0, 0, [])), (.getfield 39, .inl (8, 5, [2, 439])), (.invokevirtual 234, .inr (.inl (mi_X3_remember, 3, 1028, [0, 0]))), (.aload_n 0, .inl (0, 0, [])), (.getfield 39, .inl (8, 5, [2, 439])), (.getfield 213, .inl (4, 14, [1, 272])), (.aload_n 0, .inl (0, 0, [])), (.getfield 32, .inl (8, 4, [2, 438])), (.getfield 302, .inl (6, 8, [0, 175])), (.i2l, .inl (0, 0, [])), (.lmul, .inl (0, 0, [])), (.ldc2_w 277, .inr (.inr (.long 100, 1084))), (.ldiv, .inl (0, 0, [])), (.lstore_n 1, .inl (0, 0, [])), (.aload_n 0, .inl (0, 0, [])), (.getfield 39, .inl (8, 5, [2, 439])), (.getfield 213, .inl (4, 14, [1, 272])), (.aload_n 0, .inl (0, 0, [])), (.getfield 32, .inl (8, 4, [2, 438])), (.getfield 304, .inl (6, 9, [0, 178])), (.i2l, .inl (0, 0, [])), (.lmul, .inl (0, 0, [])), (.ldc2_w 277, .inr (.inr (.long 100, 1084))), (.ldiv, .inl (0, 0, [])), (.lstore_n 3, .inl (0, 0, [])), (.aload_n 0, .inl (0, 0, [])), (.getfield 39, .inl (8, 5, [2, 439])), (.getfield 213, .inl (4, 14, [1, 272])), (.lload_n 1, .inl (0, 0, [])), (.lsub, .inl (0, 0, [])), (.lload_n 3, .inl (0, 0, [])), (.lsub, .inl (0, 0, [])), (.lstore 5, .inl (0, 0, [])), (.aload_n 0, .inl (0, 0, [])), (.invokevirtual 172, .inr (.inl (mi_X8_weighMembers, 8, 489, [0]))), (.aload_n 0, .inl (0, 0, [])), (.getfield 55, .inl (8, 7, [2, 441])), (.lload 5, .inl (0, 0, [])), (.aload_n 0, .inl (0, 0, [])), (.getfield 32, .inl (8, 4, [2, 438])), (.getfield 175, .inl (6, 7, [0, 172])), (.invokevirtual 178, .inr (.inl (mi_X1_divide, 1, 932, [0, 0, 0]))), (.aload_n 0, .inl (0, 0, [])), (.getfield 39, .inl (8, 5, [2, 439])), (.dup, .inl (0, 0, [])), (.getfield 217, .inl (4, 15, [1, 274])), (.lload_n 1, .inl (0, 0, [])), (.ladd, .inl (0, 0, [])), (.putfield 217, .inl (4, 15, [1, 274])), (.aload_n 0, .inl (0, 0, [])), (.getfield 39, .inl (8, 5, [2, 439])), (.dup, .inl (0, 0, [])), (.getfield 220, .inl (4, 16, [1, 276])), (.lload_n 3, .inl (0, 0, [])), (.aload_n 0, .inl (0, 0, [])), (.getfield 55, .inl (8, 7, [2, 441])), (.getfield 306, .inl (1, 2, [1, 401])), (.ladd, .inl (0, 0, [])), (.ladd, .inl (0, 0, [])), (.putfield 220, .inl (4, 16, [1, 276])), (.aload_n 0, .inl (0, 0, [])), (.getfield 39, .inl (8, 5, [2, 439])), (.aload_n 0, .inl (0, 0, [])), (.getfield 55, .inl (8, 7, [2, 441])), (.getfield 182, .inl (1, 1, [2, 399])), (.invokevirtual 309, .inr (.inl (mi_X4_bookShares, 4, 1120, [0, 0]))), (.aload_n 0, .inl (0, 0, [])), (.getfield 39, .inl (8, 5, [2, 439])), (.invokevirtual 313, .inr (.inl (mi_X4_beginPeriod, 4, 1124, [0]))), (.lload 5, .inl (0, 0, [])), (.aload_n 0, .inl (0, 0, [])), (.getfield 55, .inl (8, 7, [2, 441])), (.getfield 306, .inl (1, 2, [1, 401])), (.lsub, .inl (0, 0, [])), (.lreturn, .inl (0, 0, []))]
theorem sk_X8_close_23 : pp_chk mi_X8_close 175 23 (pp_cnt mi_X8_close 23) sg_X8_close_23 = true := by decide +kernel
def sg_X8_payOut_0 : pp_Seg := [(.aload_n 0, .inl (0, 0, [])), (.iload_n 1, .inl (0, 0, [])), (.invokevirtual 151, .inr (.inl (mi_X8_checkMember, 8, 902, [0, 0]))), (.aload_n 0, .inl (0, 0, [])), (.getfield 39, .inl (8, 5, [2, 439])), (.getfield 207, .inl (4, 12, [2, 268])), (.iload_n 1, .inl (0, 0, [])), (.laload, .inl (0, 0, [])), (.lstore_n 2, .inl (0, 0, [])), (.lload_n 2, .inl (0, 0, [])), (.lconst 0, .inr (.inr (.long 0, 0))), (.lcmp, .inl (0, 0, [])), (.ifCond .ne 14, .inl (32, 0, [])), (.athrow, .inl (1, 316, [1, 16]))]
theorem sk_X8_payOut_0 : pp_chk mi_X8_payOut 32 0 (pp_cnt mi_X8_payOut 0) sg_X8_payOut_0 = true := by decide +kernel
def sg_X8_payOut_32 : pp_Seg := [(.aload_n 0, .inl (0, 0, [])), (.getfield 62, .inl (8, 8, [2, 442])), (.aload_n 0, .inl (0, 0, [])), (.getfield 39, .inl (8, 5, [2, 439])), (.invokevirtual 234, .inr (.inl (mi_X3_remember, 3, 1028, [0, 0]))), (.aload_n 0, .inl (0, 0, [])), (.getfield 39, .inl (8, 5, [2, 439])), (.getfield 207, .inl (4, 12, [2, 268])), (.iload_n 1, .inl (0, 0, [])), (.lconst 0, .inr (.inr (.long 0, 0))), (.lastore, .inl (0, 0, [])), (.aload_n 0, .inl (0, 0, [])), (.getfield 39, .inl (8, 5, [2, 439])), (.dup, .inl (0, 0, [])), (.getfield 226, .inl (4, 18, [1, 280])), (.lload_n 2, .inl (0, 0, [])), (.ladd, .inl (0, 0, [])), (.putfield 226, .inl (4, 18, [1, 280])), (.lload_n 2, .inl (0, 0, [])), (.lreturn, .inl (0, 0, []))]
theorem sk_X8_payOut_32 : pp_chk mi_X8_payOut 68 32 (pp_cnt mi_X8_payOut 32) sg_X8_payOut_32 = true := by decide +kernel
def sg_X3_takeBack_0 : pp_Seg := [(.aload_n 0, .inl (0, 0, [])), (.getfield 11, .inl (3, 0, [2, 424])), (.aload_n 0, .inl (0, 0, [])), (.getfield 17, .inl (3, 1, [0, 425])), (.aaload, .inl (0, 0, [])), (.astore_n 2, .inl (0, 0, [])), (.aload_n 0, .inl (0, 0, [])), (.getfield 21, .inl (3, 2, [0, 426])), (.ifCond .eq 7, .inl (21, 0, [])), (.aload_n 2, .inl (0, 0, [])), (.ifnonnull 5, .inl (23, 0, []))]
theorem sk_X3_takeBack_0 : pp_chk mi_X3_takeBack 21 0 (pp_cnt mi_X3_takeBack 0) sg_X3_takeBack_0 = true := by decide +kernel
def sg_X3_takeBack_21 : pp_Seg := [(.iconst (-1), .inr (.inr (.int (-1), 0))), (.ireturn, .inl (0, 0, []))]
theorem sk_X3_takeBack_21 : pp_chk mi_X3_takeBack 23 21 (pp_cnt mi_X3_takeBack 21) sg_X3_takeBack_21 = true := by decide +kernel
def sg_X3_takeBack_23 : pp_Seg := [(.aload_n 1, .inl (0, 0, [])), (.aload_n 2, .inl (0, 0, [])), (.invokevirtual 25, .inr (.inl (mi_X4_copyFrom, 4, 564, [0, 0]))), (.aload_n 0, .inl (0, 0, [])), (.aload_n 0, .inl (0, 0, [])), (.getfield 17, .inl (3, 1, [0, 425])), (.ifCond .le 12, .inl (45, 0, [])), (.aload_n 0, .inl (0, 0, [])), (.getfield 17, .inl (3, 1, [0, 425])), (.iconst 1, .inr (.inr (.int 1, 0))), (.isub, .inl (0, 0, [])), (.goto 10, .inl (52, 0, []))]
theorem sk_X3_takeBack_23 : pp_chk mi_X3_takeBack 45 23 (pp_cnt mi_X3_takeBack 23) sg_X3_takeBack_23 = true := by decide +kernel
def sg_X3_takeBack_45 : pp_Seg := [(.aload_n 0, .inl (0, 0, [])), (.getfield 11, .inl (3, 0, [2, 424])), (.arraylength, .inl (0, 0, [])), (.iconst 1, .inr (.inr (.int 1, 0))), (.isub, .inl (0, 0, []))]
theorem sk_X3_takeBack_45 : pp_chk mi_X3_takeBack 52 45 (pp_cnt mi_X3_takeBack 45) sg_X3_takeBack_45 = true := by decide +kernel
def sg_X3_takeBack_52 : pp_Seg := [(.putfield 17, .inl (3, 1, [0, 425])), (.aload_n 0, .inl (0, 0, [])), (.dup, .inl (0, 0, [])), (.getfield 21, .inl (3, 2, [0, 426])), (.iconst 1, .inr (.inr (.int 1, 0))), (.isub, .inl (0, 0, [])), (.putfield 21, .inl (3, 2, [0, 426])), (.aload_n 0, .inl (0, 0, [])), (.getfield 21, .inl (3, 2, [0, 426])), (.ireturn, .inl (0, 0, []))]
theorem sk_X3_takeBack_52 : pp_chk mi_X3_takeBack 70 52 (pp_cnt mi_X3_takeBack 52) sg_X3_takeBack_52 = true := by decide +kernel
def sg_X8_undo_0 : pp_Seg := [(.aload_n 0, .inl (0, 0, [])), (.getfield 62, .inl (8, 8, [2, 442])), (.aload_n 0, .inl (0, 0, [])), (.getfield 39, .inl (8, 5, [2, 439])), (.invokevirtual 318, .inr (.inl (mi_X3_takeBack, 3, 560, [0, 0]))), (.ireturn, .inl (0, 0, []))]
theorem sk_X8_undo_0 : pp_chk mi_X8_undo 12 0 (pp_cnt mi_X8_undo 0) sg_X8_undo_0 = true := by decide +kernel
def sg_X8_checkSlot_0 : pp_Seg := [(.iload_n 1, .inl (0, 0, [])), (.ifCond .lt 12, .inl (13, 0, [])), (.iload_n 1, .inl (0, 0, [])), (.aload_n 0, .inl (0, 0, [])), (.getfield 66, .inl (8, 9, [2, 443])), (.arraylength, .inl (0, 0, [])), (.if_icmp .lt 14, .inl (24, 0, []))]
theorem sk_X8_checkSlot_0 : pp_chk mi_X8_checkSlot 13 0 (pp_cnt mi_X8_checkSlot 0) sg_X8_checkSlot_0 = true := by decide +kernel
def sg_X8_checkSlot_13 : pp_Seg := [(.athrow, .inl (2, 335, [1, 22]))]
theorem sk_X8_checkSlot_13 : pp_chk mi_X8_checkSlot 24 13 (pp_cnt mi_X8_checkSlot 13) sg_X8_checkSlot_13 = true := by decide +kernel
def sg_X8_checkSlot_24 : pp_Seg := [(.return_, .inl (0, 0, []))]
theorem sk_X8_checkSlot_24 : pp_chk mi_X8_checkSlot 25 24 (pp_cnt mi_X8_checkSlot 24) sg_X8_checkSlot_24 = true := by decide +kernel
def sg_X8_saveSnapshot_0 : pp_Seg := [(.aload_n 0, .inl (0, 0, [])), (.iload_n 1, .inl (0, 0, [])), (.invokevirtual 322, .inr (.inl (mi_X8_checkSlot, 8, 1146, [0, 0]))), (.aload_n 0, .inl (0, 0, [])), (.getfield 66, .inl (8, 9, [2, 443])), (.iload_n 1, .inl (0, 0, [])), (.aaload, .inl (0, 0, [])), (.astore_n 2, .inl (0, 0, [])), (.aload_n 2, .inl (0, 0, [])), (.ifnull 13, .inl (26, 0, [])), (.aload_n 2, .inl (0, 0, [])), (.aload_n 0, .inl (0, 0, [])), (.getfield 39, .inl (8, 5, [2, 439])), (.invokevirtual 98, .inr (.inl (mi_X4_copyFrom, 4, 817, [0, 0]))), (.iconst 1, .inr (.inr (.int 1, 0))), (.ireturn, .inl (0, 0, []))]
theorem sk_X8_saveSnapshot_0 : pp_chk mi_X8_saveSnapshot 26 0 (pp_cnt mi_X8_saveSnapshot 0) sg_X8_saveSnapshot_0 = true := by decide +kernel
def sg_X8_saveSnapshot_26 : pp_Seg := [(.new 36, .inl (4, 19, [375])), (.dup, .inl (0, 0, [])), (.invokespecial 38, .inr (.inl (mi_X4_init, 4, 376, [0]))), (.astore_n 3, .inl (0, 0, [])), (.aload_n 3, .inl (0, 0, [])), (.aload_n 0, .inl (0, 0, [])), (.getfield 39, .inl (8, 5, [2, 439])), (.invokevirtual 98, .inr (.inl (mi_X4_copyFrom, 4, 817, [0, 0]))), (.aload_n 0, .inl (0, 0, [])), (.getfield 66, .inl (8, 9, [2, 443])), (.iload_n 1, .inl (0, 0, [])), (.aload_n 3, .inl (0, 0, [])), (.aastore, .inl (0, 0, [])), (.iconst 0, .inr (.inr (.int 0, 0))), (.ireturn, .inl (0, 0, []))]
theorem sk_X8_saveSnapshot_26 : pp_chk mi_X8_saveSnapshot 51 26 (pp_cnt mi_X8_saveSnapshot 26) sg_X8_saveSnapshot_26 = true := by decide +kernel
def sg_X8_restoreSnapshot_0 : pp_Seg := [(.aload_n 0, .inl (0, 0, [])), (.iload_n 1, .inl (0, 0, [])), (.invokevirtual 322, .inr (.inl (mi_X8_checkSlot, 8, 1146, [0, 0]))), (.aload_n 0, .inl (0, 0, [])), (.getfield 66, .inl (8, 9, [2, 443])), (.iload_n 1, .inl (0, 0, [])), (.aaload, .inl (0, 0, [])), (.astore_n 2, .inl (0, 0, [])), (.aload_n 2, .inl (0, 0, [])), (.ifnonnull 14, .inl (27, 0, [])), (.athrow, .inl (1, 325, [1, 17]))]
theorem sk_X8_restoreSnapshot_0 : pp_chk mi_X8_restoreSnapshot 27 0 (pp_cnt mi_X8_restoreSnapshot 0) sg_X8_restoreSnapshot_0 = true := by decide +kernel
def sg_X8_restoreSnapshot_27 : pp_Seg := [(.aload_n 0, .inl (0, 0, [])), (.getfield 39, .inl (8, 5, [2, 439])), (.aload_n 2, .inl (0, 0, [])), (.invokevirtual 98, .inr (.inl (mi_X4_copyFrom, 4, 817, [0, 0]))), (.aload_n 0, .inl (0, 0, [])), (.getfield 62, .inl (8, 8, [2, 442])), (.invokevirtual 101, .inr (.inl (mi_X3_clear, 3, 818, [0]))), (.aload_n 0, .inl (0, 0, [])), (.getfield 39, .inl (8, 5, [2, 439])), (.getfield 118, .inl (4, 0, [0, 237])), (.ireturn, .inl (0, 0, []))]
theorem sk_X8_restoreSnapshot_27 : pp_chk mi_X8_restoreSnapshot 50 27 (pp_cnt mi_X8_restoreSnapshot 27) sg_X8_restoreSnapshot_27 = true := by decide +kernel
end
section
/-! printed by wip/gencode.py: listings -/
def sg_X9_emit_0 : pp_Seg := [(.aload_n 0, .inl (0, 0, [])), (.getfield 32, .inl (9, 8, [2, 1192])), (.sipush 720, .inr (.inr (.int 720, 0))), (.aload_n 0, .inl (0, 0, [])), (.getfield 29, .inl (9, 7, [2, 1191])), (.iconst 1, .inr (.inr (.int 1, 0))), (.iaload, .inl (0, 0, [])), (.iadd, .inl (0, 0, [])), (.iload_n 1, .inl (0, 0, [])), (.iastore, .inl (0, 0, [])), (.aload_n 0, .inl (0, 0, [])), (.getfield 29, .inl (9, 7, [2, 1191])), (.iconst 1, .inr (.inr (.int 1, 0))), (.dup2, .inl (0, 0, [])), (.iaload, .inl (0, 0, [])), (.iconst 1, .inr (.inr (.int 1, 0))), (.iadd, .inl (0, 0, [])), (.iastore, .inl (0, 0, [])), (.iconst 1, .inr (.inr (.int 1, 0))), (.ireturn, .inl (0, 0, []))]
theorem sk_X9_emit_0 : pp_chk mi_X9_emit 28 0 (pp_cnt mi_X9_emit 0) sg_X9_emit_0 = true := by decide +kernel
def sg_X9_clearDraft_0 : pp_Seg := [(.iconst 0, .inr (.inr (.int 0, 0))), (.istore_n 1, .inl (0, 0, []))]
theorem sk_X9_clearDraft_0 : pp_chk mi_X9_clearDraft 2 0 (pp_cnt mi_X9_clearDraft 0) sg_X9_clearDraft_0 = true := by decide +kernel
def sg_X9_clearDraft_2 : pp_Seg := [(.iload_n 1, .inl (0, 0, [])), (.iconst 4, .inr (.inr (.int 4, 0))), (.if_icmp .ge 19, .inl (23, 0, [])), (.aload_n 0, .inl (0, 0, [])), (.getfield 13, .inl (9, 2, [2, 1186])), (.bipush 14, .inr (.inr (.int 14, 0))), (.iload_n 1, .inl (0, 0, [])), (.iadd, .inl (0, 0, [])), (.iconst 0, .inr (.inr (.int 0, 0))), (.iastore, .inl (0, 0, [])), (.iinc 1 1, .inr (.inr (.int 1, 0))), (.goto (-18), .inl (2, 0, []))]
theorem sk_X9_clearDraft_2 : pp_chk mi_X9_clearDraft 23 2 (pp_cnt mi_X9_clearDraft 2) sg_X9_clearDraft_2 = true := by decide +kernel
def sg_X9_clearDraft_23 : pp_Seg := [(.aload_n 0, .inl (0, 0, [])), (.getfield 13, .inl (9, 2, [2, 1186])), (.bipush 18, .inr (.inr (.int 18, 0))), (.iconst 3, .inr (.inr (.int 3, 0))), (.iastore, .inl (0, 0, [])), (.aload_n 0, .inl (0, 0, [])), (.getfield 13, .inl (9, 2, [2, 1186])), (.bipush 19, .inr (.inr (.int 19, 0))), (.bipush 50, .inr (.inr (.int 50, 0))), (.iastore, .inl (0, 0, [])), (.aload_n 0, .inl (0, 0, [])), (.getfield 13, .inl (9, 2, [2, 1186])), (.bipush 20, .inr (.inr (.int 20, 0))), (.bipush 100, .inr (.inr (.int 100, 0))), (.iastore, .inl (0, 0, [])), (.aload_n 0, .inl (0, 0, [])), (.getfield 13, .inl (9, 2, [2, 1186])), (.bipush 21, .inr (.inr (.int 21, 0))), (.bipush 10, .inr (.inr (.int 10, 0))), (.iastore, .inl (0, 0, [])), (.aload_n 0, .inl (0, 0, [])), (.getfield 13, .inl (9, 2, [2, 1186])), (.bipush 22, .inr (.inr (.int 22, 0))), (.iconst 5, .inr (.inr (.int 5, 0))), (.iastore, .inl (0, 0, [])), (.aload_n 0, .inl (0, 0, [])), (.getfield 13, .inl (9, 2, [2, 1186])), (.bipush 23, .inr (.inr (.int 23, 0))), (.iconst 0, .inr (.inr (.int 0, 0))), (.iastore, .inl (0, 0, [])), (.aload_n 0, .inl (0, 0, [])), (.getfield 13, .inl (9, 2, [2, 1186])), (.bipush 24, .inr (.inr (.int 24, 0))), (.bipush 100, .inr (.inr (.int 100, 0))), (.iastore, .inl (0, 0, [])), (.aload_n 0, .inl (0, 0, [])), (.getfield 13, .inl (9, 2, [2, 1186])), (.bipush 25, .inr (.inr (.int 25, 0))), (.sipush 1000, .inr (.inr (.int 1000, 0))), (.iastore, .inl (0, 0, [])), (.aload_n 0, .inl (0, 0, [])), (.getfield 13, .inl (9, 2, [2, 1186])), (.bipush 26, .inr (.inr (.int 26, 0))), (.bipush 20, .inr (.inr (.int 20, 0))), (.iastore, .inl (0, 0, [])), (.aload_n 0, .inl (0, 0, [])), (.getfield 13, .inl (9, 2, [2, 1186])), (.bipush 27, .inr (.inr (.int 27, 0))), (.bipush 50, .inr (.inr (.int 50, 0))), (.iastore, .inl (0, 0, [])), (.aload_n 0, .inl (0, 0, [])), (.getfield 29, .inl (9, 7, [2, 1191])), (.iconst 1, .inr (.inr (.int 1, 0))), (.iconst 0, .inr (.inr (.int 0, 0))), (.iastore, .inl (0, 0, [])), (.aload_n 0, .inl (0, 0, [])), (.iconst 1, .inr (.inr (.int 1, 0))), (.invokevirtual 87, .inr (.inl (mi_X9_emit, 9, 1169, [0, 0]))), (.pop, .inl (0, 0, [])), (.return_, .inl (0, 0, []))]
theorem sk_X9_clearDraft_23 : pp_chk mi_X9_clearDraft 125 23 (pp_cnt mi_X9_clearDraft 23) sg_X9_clearDraft_23 = true := by decide +kernel
def sg_X9_lifts_0 : pp_Seg := [(.iconst 0, .inr (.inr (.int 0, 0))), (.istore_n 1, .inl (0, 0, []))]
theorem sk_X9_lifts_0 : pp_chk mi_X9_lifts 2 0 (pp_cnt mi_X9_lifts 0) sg_X9_lifts_0 = true := by decide +kernel
def sg_X9_lifts_2 : pp_Seg := [(.iload_n 1, .inl (0, 0, [])), (.aload_n 0, .inl (0, 0, [])), (.arraylength, .inl (0, 0, [])), (.iconst 2, .inr (.inr (.int 2, 0))), (.idiv, .inl (0, 0, [])), (.if_icmp .ge 20, .inl (27, 0, [])), (.aload_n 0, .inl (0, 0, [])), (.iload_n 1, .inl (0, 0, [])), (.aload_n 0, .inl (0, 0, [])), (.aload_n 0, .inl (0, 0, [])), (.arraylength, .inl (0, 0, [])), (.iconst 2, .inr (.inr (.int 2, 0))), (.idiv, .inl (0, 0, [])), (.iload_n 1, .inl (0, 0, [])), (.iadd, .inl (0, 0, [])), (.iaload, .inl (0, 0, [])), (.iastore, .inl (0, 0, [])), (.iinc 1 1, .inr (.inr (.int 1, 0))), (.goto (-22), .inl (2, 0, []))]
theorem sk_X9_lifts_2 : pp_chk mi_X9_lifts 27 2 (pp_cnt mi_X9_lifts 2) sg_X9_lifts_2 = true := by decide +kernel
def sg_X9_lifts_27 : pp_Seg := [(.return_, .inl (0, 0, []))]
theorem sk_X9_lifts_27 : pp_chk mi_X9_lifts 28 27 (pp_cnt mi_X9_lifts 27) sg_X9_lifts_27 = true := by decide +kernel
def sg_X9_liftsAll_0 : pp_Seg := [(.aload_n 0, .inl (0, 0, [])), (.getfield 13, .inl (9, 2, [2, 1186])), (.invokestatic 83, .inr (.inl (mi_X9_lifts, 0, 1177, [0]))), (.aload_n 0, .inl (0, 0, [])), (.getfield 17, .inl (9, 3, [2, 1187])), (.invokestatic 83, .inr (.inl (mi_X9_lifts, 0, 1177, [0]))), (.aload_n 0, .inl (0, 0, [])), (.getfield 20, .inl (9, 4, [2, 1188])), (.invokestatic 83, .inr (.inl (mi_X9_lifts, 0, 1177, [0]))), (.aload_n 0, .inl (0, 0, [])), (.getfield 23, .inl (9, 5, [2, 1189])), (.invokestatic 83, .inr (.inl (mi_X9_lifts, 0, 1177, [0]))), (.aload_n 0, .inl (0, 0, [])), (.getfield 26, .inl (9, 6, [2, 1190])), (.invokestatic 83, .inr (.inl (mi_X9_lifts, 0, 1177, [0]))), (.aload_n 0, .inl (0, 0, [])), (.getfield 29, .inl (9, 7, [2, 1191])), (.invokestatic 83, .inr (.inl (mi_X9_lifts, 0, 1177, [0]))), (.aload_n 0, .inl (0, 0, [])), (.getfield 32, .inl (9, 8, [2, 1192])), (.invokestatic 83, .inr (.inl (mi_X9_lifts, 0, 1177, [0]))), (.return_, .inl (0, 0, []))]
theorem sk_X9_liftsAll_0 : pp_chk mi_X9_liftsAll 50 0 (pp_cnt mi_X9_liftsAll 0) sg_X9_liftsAll_0 = true := by decide +kernel
def sg_X9_begins_0 : pp_Seg := [(.iconst 0, .inr (.inr (.int 0, 0))), (.istore_n 1, .inl (0, 0, []))]
theorem sk_X9_begins_0 : pp_chk mi_X9_begins 2 0 (pp_cnt mi_X9_begins 0) sg_X9_begins_0 = true := by decide +kernel
def sg_X9_begins_2 : pp_Seg := [(.iload_n 1, .inl (0, 0, [])), (.sipush 229, .inr (.inr (.int 229, 0))), (.if_icmp .ge 16, .inl (22, 0, [])), (.aload_n 0, .inl (0, 0, [])), (.getfield 7, .inl (9, 1, [2, 1185])), (.iload_n 1, .inl (0, 0, [])), (.lconst 0, .inr (.inr (.long 0, 0))), (.lastore, .inl (0, 0, [])), (.iinc 1 1, .inr (.inr (.int 1, 0))), (.goto (-17), .inl (2, 0, []))]
theorem sk_X9_begins_2 : pp_chk mi_X9_begins 22 2 (pp_cnt mi_X9_begins 2) sg_X9_begins_2 = true := by decide +kernel
def sg_X9_begins_22 : pp_Seg := [(.aload_n 0, .inl (0, 0, [])), (.getfield 7, .inl (9, 1, [2, 1185])), (.bipush 7, .inr (.inr (.int 7, 0))), (.aload_n 0, .inl (0, 0, [])), (.getfield 13, .inl (9, 2, [2, 1186])), (.iconst 0, .inr (.inr (.int 0, 0))), (.iaload, .inl (0, 0, [])), (.i2l, .inl (0, 0, [])), (.lastore, .inl (0, 0, [])), (.aload_n 0, .inl (0, 0, [])), (.getfield 7, .inl (9, 1, [2, 1185])), (.bipush 8, .inr (.inr (.int 8, 0))), (.aload_n 0, .inl (0, 0, [])), (.getfield 13, .inl (9, 2, [2, 1186])), (.iconst 2, .inr (.inr (.int 2, 0))), (.iaload, .inl (0, 0, [])), (.i2l, .inl (0, 0, [])), (.lastore, .inl (0, 0, [])), (.iconst 0, .inr (.inr (.int 0, 0))), (.istore_n 1, .inl (0, 0, []))]
theorem sk_X9_begins_22 : pp_chk mi_X9_begins 52 22 (pp_cnt mi_X9_begins 22) sg_X9_begins_22 = true := by decide +kernel
def sg_X9_begins_52 : pp_Seg := [(.iload_n 1, .inl (0, 0, [])), (.aload_n 0, .inl (0, 0, [])), (.getfield 13, .inl (9, 2, [2, 1186])), (.iconst 0, .inr (.inr (.int 0, 0))), (.iaload, .inl (0, 0, [])), (.if_icmp .ge 25, .inl (84, 0, [])), (.aload_n 0, .inl (0, 0, [])), (.getfield 7, .inl (9, 1, [2, 1185])), (.bipush 9, .inr (.inr (.int 9, 0))), (.iload_n 1, .inl (0, 0, [])), (.iadd, .inl (0, 0, [])), (.aload_n 0, .inl (0, 0, [])), (.getfield 17, .inl (9, 3, [2, 1187])), (.iload_n 1, .inl (0, 0, [])), (.iaload, .inl (0, 0, [])), (.i2l, .inl (0, 0, [])), (.lastore, .inl (0, 0, [])), (.iinc 1 1, .inr (.inr (.int 1, 0))), (.goto (-29), .inl (52, 0, []))]
theorem sk_X9_begins_52 : pp_chk mi_X9_begins 84 52 (pp_cnt mi_X9_begins 52) sg_X9_begins_52 = true := by decide +kernel
def sg_X9_begins_84 : pp_Seg := [(.iconst 0, .inr (.inr (.int 0, 0))), (.istore_n 1, .inl (0, 0, []))]
theorem sk_X9_begins_84 : pp_chk mi_X9_begins 86 84 (pp_cnt mi_X9_begins 84) sg_X9_begins_84 = true := by decide +kernel
def sg_X9_begins_86 : pp_Seg := [(.iload_n 1, .inl (0, 0, [])), (.aload_n 0, .inl (0, 0, [])), (.getfield 13, .inl (9, 2, [2, 1186])), (.iconst 2, .inr (.inr (.int 2, 0))), (.iaload, .inl (0, 0, [])), (.if_icmp .ge 47, .inl (140, 0, [])), (.aload_n 0, .inl (0, 0, [])), (.getfield 7, .inl (9, 1, [2, 1185])), (.bipush 17, .inr (.inr (.int 17, 0))), (.iload_n 1, .inl (0, 0, [])), (.iadd, .inl (0, 0, [])), (.aload_n 0, .inl (0, 0, [])), (.getfield 23, .inl (9, 5, [2, 1189])), (.iconst 2, .inr (.inr (.int 2, 0))), (.iload_n 1, .inl (0, 0, [])), (.imul, .inl (0, 0, [])), (.iaload, .inl (0, 0, [])), (.i2l, .inl (0, 0, [])), (.lastore, .inl (0, 0, [])), (.aload_n 0, .inl (0, 0, [])), (.getfield 7, .inl (9, 1, [2, 1185])), (.bipush 33, .inr (.inr (.int 33, 0))), (.iload_n 1, .inl (0, 0, [])), (.iadd, .inl (0, 0, [])), (.aload_n 0, .inl (0, 0, [])), (.getfield 23, .inl (9, 5, [2, 1189])), (.iconst 2, .inr (.inr (.int 2, 0))), (.iload_n 1, .inl (0, 0, [])), (.imul, .inl (0, 0, [])), (.iconst 1, .inr (.inr (.int 1, 0))), (.iadd, .inl (0, 0, [])), (.iaload, .inl (0, 0, [])), (.i2l, .inl (0, 0, [])), (.lastore, .inl (0, 0, [])), (.iinc 1 1, .inr (.inr (.int 1, 0))), (.goto (-51), .inl (86, 0, []))]
theorem sk_X9_begins_86 : pp_chk mi_X9_begins 140 86 (pp_cnt mi_X9_begins 86) sg_X9_begins_86 = true := by decide +kernel
def sg_X9_begins_140 : pp_Seg := [(.aload_n 0, .inl (0, 0, [])), (.iconst 0, .inr (.inr (.int 0, 0))), (.putfield 251, .inl (9, 27, [0, 1211])), (.aload_n 0, .inl (0, 0, [])), (.getfield 68, .inl (9, 30, [2, 1214])), (.iconst 0, .inr (.inr (.int 0, 0))), (.iconst 0, .inr (.inr (.int 0, 0))), (.bastore, .inl (1, 0, [])), (.aload_n 0, .inl (0, 0, [])), (.getfield 68, .inl (9, 30, [2, 1214])), (.iconst 1, .inr (.inr (.int 1, 0))), (.iconst 0, .inr (.inr (.int 0, 0))), (.bastore, .inl (1, 0, [])), (.return_, .inl (0, 0, []))]
theorem sk_X9_begins_140 : pp_chk mi_X9_begins 160 140 (pp_cnt mi_X9_begins 140) sg_X9_begins_140 = true := by decide +kernel
def sg_X9_init_0 : pp_Seg := [(.aload_n 0, .inl (0, 0, [])), (.invokespecial 1, .inl (1164, 0, [])), (.aload_n 0, .inl (0, 0, [])), (.sipush 229, .inr (.inr (.int 229, 0))), (.newarray .long, .inl (13, 229, [])), (.putfield 7, .inl (9, 1, [2, 1185])), (.aload_n 0, .inl (0, 0, [])), (.bipush 28, .inr (.inr (.int 28, 0))), (.newarray .int, .inl (10, 28, [])), (.putfield 13, .inl (9, 2, [2, 1186])), (.aload_n 0, .inl (0, 0, [])), (.bipush 16, .inr (.inr (.int 16, 0))), (.newarray .int, .inl (10, 16, [])), (.putfield 17, .inl (9, 3, [2, 1187])), (.aload_n 0, .inl (0, 0, [])), (.bipush 16, .inr (.inr (.int 16, 0))), (.newarray .int, .inl (10, 16, [])), (.putfield 20, .inl (9, 4, [2, 1188])), (.aload_n 0, .inl (0, 0, [])), (.bipush 64, .inr (.inr (.int 64, 0))), (.newarray .int, .inl (10, 64, [])), (.putfield 23, .inl (9, 5, [2, 1189])), (.aload_n 0, .inl (0, 0, [])), (.bipush 12, .inr (.inr (.int 12, 0))), (.newarray .int, .inl (10, 12, [])), (.putfield 26, .inl (9, 6, [2, 1190])), (.aload_n 0, .inl (0, 0, [])), (.iconst 2, .inr (.inr (.int 2, 0))), (.newarray .int, .inl (10, 2, [])), (.putfield 29, .inl (9, 7, [2, 1191])), (.aload_n 0, .inl (0, 0, [])), (.sipush 1440, .inr (.inr (.int 1440, 0))), (.newarray .int, .inl (10, 1440, [])), (.putfield 32, .inl (9, 8, [2, 1192])), (.aload_n 0, .inl (0, 0, [])), (.sipush 700, .inr (.inr (.int 700, 0))), (.newarray .byte, .inl (11, 700, [])), (.putfield 35, .inl (9, 9, [2, 1193])), (.aload_n 0, .inl (0, 0, [])), (.iconst (-1), .inr (.inr (.int (-1), 0))), (.putfield 39, .inl (9, 17, [0, 1201])), (.aload_n 0, .inl (0, 0, [])), (.bipush 40, .inr (.inr (.int 40, 0))), (.newarray .int, .inl (10, 40, [])), (.putfield 43, .inl (9, 21, [2, 1205])), (.aload_n 0, .inl (0, 0, [])), (.iconst 4, .inr (.inr (.int 4, 0))), (.newarray .int, .inl (10, 4, [])), (.putfield 46, .inl (9, 22, [2, 1206])), (.aload_n 0, .inl (0, 0, [])), (.bipush 8, .inr (.inr (.int 8, 0))), (.newarray .int, .inl (10, 8, [])), (.putfield 49, .inl (9, 23, [2, 1207])), (.aload_n 0, .inl (0, 0, [])), (.bipush 8, .inr (.inr (.int 8, 0))), (.newarray .long, .inl (13, 8, [])), (.putfield 52, .inl (9, 24, [2, 1208])), (.aload_n 0, .inl (0, 0, [])), (.bipush 8, .inr (.inr (.int 8, 0))), (.newarray .long, .inl (13, 8, [])), (.putfield 55, .inl (9, 25, [2, 1209])), (.aload_n 0, .inl (0, 0, [])), (.bipush 8, .inr (.inr (.int 8, 0))), (.newarray .boolean, .inl (12, 8, [])), (.putfield 58, .inl (9, 26, [2, 1210])), (.aload_n 0, .inl (0, 0, [])), (.sipush 2290, .inr (.inr (.int 2290, 0))), (.newarray .long, .inl (13, 2290, [])), (.putfield 62, .inl (9, 28, [2, 1212])), (.aload_n 0, .inl (0, 0, [])), (.sipush 458, .inr (.inr (.int 458, 0))), (.newarray .long, .inl (13, 458, [])), (.putfield 65, .inl (9, 29, [2, 1213])), (.aload_n 0, .inl (0, 0, [])), (.iconst 2, .inr (.inr (.int 2, 0))), (.newarray .boolean, .inl (12, 2, [])), (.putfield 68, .inl (9, 30, [2, 1214])), (.aload_n 0, .inl (0, 0, [])), (.invokevirtual 71, .inr (.inl (mi_X9_clearDraft, 9, 1165, [0]))), (.aload_n 0, .inl (0, 0, [])), (.invokevirtual 74, .inr (.inl (mi_X9_liftsAll, 9, 1173, [0]))), (.aload_n 0, .inl (0, 0, [])), (.invokevirtual 77, .inr (.inl (mi_X9_begins, 9, 1180, [0]))), (.return_, .inl (0, 0, []))]
theorem sk_X9_init_0 : pp_chk mi_X9_init 168 0 (pp_cnt mi_X9_init 0) sg_X9_init_0 = true := by decide +kernel
def sg_X9_thrown_0 : pp_Seg := [(.aload_n 0, .inl (0, 0, [])), (.getfield 80, .inl (9, 0, [0, 1184])), (.ireturn, .inl (0, 0, []))]
theorem sk_X9_thrown_0 : pp_chk mi_X9_thrown 5 0 (pp_cnt mi_X9_thrown 0) sg_X9_thrown_0 = true := by decide +kernel
def sg_X9_within_0 : pp_Seg := [(.lload_n 0, .inl (0, 0, [])), (.lload_n 2, .inl (0, 0, [])), (.lcmp, .inl (0, 0, [])), (.ifCond .lt 14, .inl (17, 0, [])), (.lload_n 0, .inl (0, 0, [])), (.lload 4, .inl (0, 0, [])), (.lcmp, .inl (0, 0, [])), (.ifCond .gt 7, .inl (17, 0, [])), (.iconst 1, .inr (.inr (.int 1, 0))), (.goto 4, .inl (18, 0, []))]
theorem sk_X9_within_0 : pp_chk mi_X9_within 17 0 (pp_cnt mi_X9_within 0) sg_X9_within_0 = true := by decide +kernel
def sg_X9_within_17 : pp_Seg := [(.iconst 0, .inr (.inr (.int 0, 0)))]
theorem sk_X9_within_17 : pp_chk mi_X9_within 18 17 (pp_cnt mi_X9_within 17) sg_X9_within_17 = true := by decide +kernel
def sg_X9_within_18 : pp_Seg := [(.ireturn, .inl (0, 0, []))]
theorem sk_X9_within_18 : pp_chk mi_X9_within 19 18 (pp_cnt mi_X9_within 18) sg_X9_within_18 = true := by decide +kernel
def sg_X9_has_0 : pp_Seg := [(.iload_n 0, .inl (0, 0, [])), (.iload_n 1, .inl (0, 0, [])), (.ishr, .inl (0, 0, [])), (.iconst 1, .inr (.inr (.int 1, 0))), (.iand, .inl (0, 0, [])), (.iconst 1, .inr (.inr (.int 1, 0))), (.if_icmp .ne 7, .inl (13, 0, [])), (.iconst 1, .inr (.inr (.int 1, 0))), (.goto 4, .inl (14, 0, []))]
theorem sk_X9_has_0 : pp_chk mi_X9_has 13 0 (pp_cnt mi_X9_has 0) sg_X9_has_0 = true := by decide +kernel
def sg_X9_has_13 : pp_Seg := [(.iconst 0, .inr (.inr (.int 0, 0)))]
theorem sk_X9_has_13 : pp_chk mi_X9_has 14 13 (pp_cnt mi_X9_has 13) sg_X9_has_13 = true := by decide +kernel
def sg_X9_has_14 : pp_Seg := [(.ireturn, .inl (0, 0, []))]
theorem sk_X9_has_14 : pp_chk mi_X9_has 15 14 (pp_cnt mi_X9_has 14) sg_X9_has_14 = true := by decide +kernel
def sg_X9_bits_0 : pp_Seg := [(.iconst 0, .inr (.inr (.int 0, 0))), (.istore_n 2, .inl (0, 0, [])), (.lload_n 0, .inl (0, 0, [])), (.lstore_n 3, .inl (0, 0, []))]
theorem sk_X9_bits_0 : pp_chk mi_X9_bits 4 0 (pp_cnt mi_X9_bits 0) sg_X9_bits_0 = true := by decide +kernel
def sg_X9_bits_4 : pp_Seg := [(.lload_n 3, .inl (0, 0, [])), (.lconst 0, .inr (.inr (.long 0, 0))), (.lcmp, .inl (0, 0, [])), (.ifCond .eq 15, .inl (22, 0, [])), (.iinc 2 1, .inr (.inr (.int 1, 0))), (.lload_n 3, .inl (0, 0, [])), (.lload_n 3, .inl (0, 0, [])), (.lconst 1, .inr (.inr (.long 1, 0))), (.lsub, .inl (0, 0, [])), (.land, .inl (0, 0, [])), (.lstore_n 3, .inl (0, 0, [])), (.goto (-15), .inl (4, 0, []))]
theorem sk_X9_bits_4 : pp_chk mi_X9_bits 22 4 (pp_cnt mi_X9_bits 4) sg_X9_bits_4 = true := by decide +kernel
def sg_X9_bits_22 : pp_Seg := [(.iload_n 2, .inl (0, 0, [])), (.ireturn, .inl (0, 0, []))]
theorem sk_X9_bits_22 : pp_chk mi_X9_bits 24 22 (pp_cnt mi_X9_bits 22) sg_X9_bits_22 = true := by decide +kernel
def sg_X9_throwsIf_0 : pp_Seg := [(.aload_n 0, .inl (0, 0, [])), (.getfield 80, .inl (9, 0, [0, 1184])), (.ifCond .ne 12, .inl (16, 0, [])), (.iload_n 1, .inl (0, 0, [])), (.ifCond .eq 8, .inl (16, 0, [])), (.aload_n 0, .inl (0, 0, [])), (.iload_n 2, .inl (0, 0, [])), (.putfield 80, .inl (9, 0, [0, 1184]))]
theorem sk_X9_throwsIf_0 : pp_chk mi_X9_throwsIf 16 0 (pp_cnt mi_X9_throwsIf 0) sg_X9_throwsIf_0 = true := by decide +kernel
def sg_X9_throwsIf_16 : pp_Seg := [(.aload_n 0, .inl (0, 0, [])), (.getfield 80, .inl (9, 0, [0, 1184])), (.ifCond .le 7, .inl (27, 0, [])), (.iconst 1, .inr (.inr (.int 1, 0))), (.goto 4, .inl (28, 0, []))]
theorem sk_X9_throwsIf_16 : pp_chk mi_X9_throwsIf 27 16 (pp_cnt mi_X9_throwsIf 16) sg_X9_throwsIf_16 = true := by decide +kernel
def sg_X9_throwsIf_27 : pp_Seg := [(.iconst 0, .inr (.inr (.int 0, 0)))]
theorem sk_X9_throwsIf_27 : pp_chk mi_X9_throwsIf 28 27 (pp_cnt mi_X9_throwsIf 27) sg_X9_throwsIf_27 = true := by decide +kernel
def sg_X9_throwsIf_28 : pp_Seg := [(.ireturn, .inl (0, 0, []))]
theorem sk_X9_throwsIf_28 : pp_chk mi_X9_throwsIf 29 28 (pp_cnt mi_X9_throwsIf 28) sg_X9_throwsIf_28 = true := by decide +kernel
def sg_X9_bytesOf_0 : pp_Seg := [(.bipush 24, .inr (.inr (.int 24, 0))), (.istore_n 2, .inl (0, 0, []))]
theorem sk_X9_bytesOf_0 : pp_chk mi_X9_bytesOf 3 0 (pp_cnt mi_X9_bytesOf 0) sg_X9_bytesOf_0 = true := by decide +kernel
def sg_X9_bytesOf_3 : pp_Seg := [(.iload_n 2, .inl (0, 0, [])), (.ifCond .lt 32, .inl (36, 0, [])), (.aload_n 0, .inl (0, 0, [])), (.getfield 35, .inl (9, 9, [2, 1193])), (.aload_n 0, .inl (0, 0, [])), (.getfield 91, .inl (9, 10, [0, 1194])), (.iload_n 1, .inl (0, 0, [])), (.iload_n 2, .inl (0, 0, [])), (.ishr, .inl (0, 0, [])), (.i2b, .inl (0, 0, [])), (.bastore, .inl (0, 0, [])), (.aload_n 0, .inl (0, 0, [])), (.dup, .inl (0, 0, [])), (.getfield 91, .inl (9, 10, [0, 1194])), (.iconst 1, .inr (.inr (.int 1, 0))), (.iadd, .inl (0, 0, [])), (.putfield 91, .inl (9, 10, [0, 1194])), (.iinc 2 (-8), .inr (.inr (.int (-8), 0))), (.goto (-30), .inl (3, 0, []))]
theorem sk_X9_bytesOf_3 : pp_chk mi_X9_bytesOf 36 3 (pp_cnt mi_X9_bytesOf 3) sg_X9_bytesOf_3 = true := by decide +kernel
def sg_X9_bytesOf_36 : pp_Seg := [(.return_, .inl (0, 0, []))]
theorem sk_X9_bytesOf_36 : pp_chk mi_X9_bytesOf 37 36 (pp_cnt mi_X9_bytesOf 36) sg_X9_bytesOf_36 = true := by decide +kernel
def sg_X9_append_0 : pp_Seg := [(.aload_n 0, .inl (0, 0, [])), (.iconst 0, .inr (.inr (.int 0, 0))), (.putfield 80, .inl (9, 0, [0, 1184])), (.aload_n 0, .inl (0, 0, [])), (.getfield 91, .inl (9, 10, [0, 1194])), (.bipush 20, .inr (.inr (.int 20, 0))), (.iadd, .inl (0, 0, [])), (.sipush 700, .inr (.inr (.int 700, 0))), (.if_icmp .le 5, .inl (20, 0, [])), (.iconst (-1), .inr (.inr (.int (-1), 0))), (.ireturn, .inl (0, 0, []))]
theorem sk_X9_append_0 : pp_chk mi_X9_append 20 0 (pp_cnt mi_X9_append 0) sg_X9_append_0 = true := by decide +kernel
def sg_X9_append_20 : pp_Seg := [(.aload_n 0, .inl (0, 0, [])), (.iload_n 1, .inl (0, 0, [])), (.invokevirtual 94, .inr (.inl (mi_X9_bytesOf, 9, 1286, [0, 0]))), (.aload_n 0, .inl (0, 0, [])), (.iload_n 2, .inl (0, 0, [])), (.invokevirtual 94, .inr (.inl (mi_X9_bytesOf, 9, 1286, [0, 0]))), (.aload_n 0, .inl (0, 0, [])), (.iload_n 3, .inl (0, 0, [])), (.invokevirtual 94, .inr (.inl (mi_X9_bytesOf, 9, 1286, [0, 0]))), (.aload_n 0, .inl (0, 0, [])), (.iload 4, .inl (0, 0, [])), (.invokevirtual 94, .inr (.inl (mi_X9_bytesOf, 9, 1286, [0, 0]))), (.aload_n 0, .inl (0, 0, [])), (.iload 5, .inl (0, 0, [])), (.invokevirtual 94, .inr (.inl (mi_X9_bytesOf, 9, 1286, [0, 0]))), (.aload_n 0, .inl (0, 0, [])), (.getfield 91, .inl (9, 10, [0, 1194])), (.ireturn, .inl (0, 0, []))]
theorem sk_X9_append_20 : pp_chk mi_X9_append 52 20 (pp_cnt mi_X9_append 20) sg_X9_append_20 = true := by decide +kernel
def sg_X9_byteAt_0 : pp_Seg := [(.iload_n 1, .inl (0, 0, [])), (.aload_n 0, .inl (0, 0, [])), (.getfield 98, .inl (9, 11, [0, 1195])), (.if_icmp .ge 16, .inl (21, 0, [])), (.aload_n 0, .inl (0, 0, [])), (.getfield 35, .inl (9, 9, [2, 1193])), (.iload_n 1, .inl (0, 0, [])), (.baload, .inl (0, 0, [])), (.sipush 255, .inr (.inr (.int 255, 0))), (.iand, .inl (0, 0, [])), (.goto 4, .inl (22, 0, []))]
theorem sk_X9_byteAt_0 : pp_chk mi_X9_byteAt 21 0 (pp_cnt mi_X9_byteAt 0) sg_X9_byteAt_0 = true := by decide +kernel
def sg_X9_byteAt_21 : pp_Seg := [(.iconst (-1), .inr (.inr (.int (-1), 0)))]
theorem sk_X9_byteAt_21 : pp_chk mi_X9_byteAt 22 21 (pp_cnt mi_X9_byteAt 21) sg_X9_byteAt_21 = true := by decide +kernel
def sg_X9_byteAt_22 : pp_Seg := [(.ireturn, .inl (0, 0, []))]
theorem sk_X9_byteAt_22 : pp_chk mi_X9_byteAt 23 22 (pp_cnt mi_X9_byteAt 22) sg_X9_byteAt_22 = true := by decide +kernel
def sg_X9_isSign_0 : pp_Seg := [(.iload_n 0, .inl (0, 0, [])), (.bipush 59, .inr (.inr (.int 59, 0))), (.if_icmp .eq 39, .inl (42, 0, [])), (.iload_n 0, .inl (0, 0, [])), (.bipush 40, .inr (.inr (.int 40, 0))), (.if_icmp .eq 33, .inl (42, 0, [])), (.iload_n 0, .inl (0, 0, [])), (.bipush 41, .inr (.inr (.int 41, 0))), (.if_icmp .eq 27, .inl (42, 0, [])), (.iload_n 0, .inl (0, 0, [])), (.bipush 43, .inr (.inr (.int 43, 0))), (.if_icmp .eq 21, .inl (42, 0, [])), (.iload_n 0, .inl (0, 0, [])), (.bipush 45, .inr (.inr (.int 45, 0))), (.if_icmp .eq 15, .inl (42, 0, [])), (.iload_n 0, .inl (0, 0, [])), (.bipush 42, .inr (.inr (.int 42, 0))), (.if_icmp .eq 9, .inl (42, 0, [])), (.iload_n 0, .inl (0, 0, [])), (.bipush 47, .inr (.inr (.int 47, 0))), (.if_icmp .ne 7, .inl (46, 0, []))]
theorem sk_X9_isSign_0 : pp_chk mi_X9_isSign 42 0 (pp_cnt mi_X9_isSign 0) sg_X9_isSign_0 = true := by decide +kernel
def sg_X9_isSign_42 : pp_Seg := [(.iconst 1, .inr (.inr (.int 1, 0))), (.goto 4, .inl (47, 0, []))]
theorem sk_X9_isSign_42 : pp_chk mi_X9_isSign 46 42 (pp_cnt mi_X9_isSign 42) sg_X9_isSign_42 = true := by decide +kernel
def sg_X9_isSign_46 : pp_Seg := [(.iconst 0, .inr (.inr (.int 0, 0)))]
theorem sk_X9_isSign_46 : pp_chk mi_X9_isSign 47 46 (pp_cnt mi_X9_isSign 46) sg_X9_isSign_46 = true := by decide +kernel
def sg_X9_isSign_47 : pp_Seg := [(.ireturn, .inl (0, 0, []))]
theorem sk_X9_isSign_47 : pp_chk mi_X9_isSign 48 47 (pp_cnt mi_X9_isSign 47) sg_X9_isSign_47 = true := by decide +kernel
def sg_X9_advance_0 : pp_Seg := [(.aload_n 0, .inl (0, 0, [])), (.aload_n 0, .inl (0, 0, [])), (.getfield 101, .inl (9, 13, [0, 1197])), (.invokevirtual 104, .inr (.inl (mi_X9_byteAt, 9, 1305, [0, 0]))), (.bipush 32, .inr (.inr (.int 32, 0))), (.if_icmp .eq 16, .inl (26, 0, [])), (.aload_n 0, .inl (0, 0, [])), (.aload_n 0, .inl (0, 0, [])), (.getfield 101, .inl (9, 13, [0, 1197])), (.invokevirtual 104, .inr (.inl (mi_X9_byteAt, 9, 1305, [0, 0]))), (.bipush 10, .inr (.inr (.int 10, 0))), (.if_icmp .ne 16, .inl (39, 0, []))]
theorem sk_X9_advance_0 : pp_chk mi_X9_advance 26 0 (pp_cnt mi_X9_advance 0) sg_X9_advance_0 = true := by decide +kernel
def sg_X9_advance_26 : pp_Seg := [(.aload_n 0, .inl (0, 0, [])), (.dup, .inl (0, 0, [])), (.getfield 101, .inl (9, 13, [0, 1197])), (.iconst 1, .inr (.inr (.int 1, 0))), (.iadd, .inl (0, 0, [])), (.putfield 101, .inl (9, 13, [0, 1197])), (.goto (-36), .inl (0, 0, []))]
theorem sk_X9_advance_26 : pp_chk mi_X9_advance 39 26 (pp_cnt mi_X9_advance 26) sg_X9_advance_26 = true := by decide +kernel
def sg_X9_advance_39 : pp_Seg := [(.aload_n 0, .inl (0, 0, [])), (.aload_n 0, .inl (0, 0, [])), (.getfield 101, .inl (9, 13, [0, 1197])), (.putfield 108, .inl (9, 12, [0, 1196])), (.aload_n 0, .inl (0, 0, [])), (.iconst 0, .inr (.inr (.int 0, 0))), (.putfield 111, .inl (9, 15, [0, 1199])), (.aload_n 0, .inl (0, 0, [])), (.aload_n 0, .inl (0, 0, [])), (.getfield 101, .inl (9, 13, [0, 1197])), (.invokevirtual 104, .inr (.inl (mi_X9_byteAt, 9, 1305, [0, 0]))), (.istore_n 1, .inl (0, 0, [])), (.iload_n 1, .inl (0, 0, [])), (.iconst (-1), .inr (.inr (.int (-1), 0))), (.if_icmp .ne 11, .inl (74, 0, [])), (.aload_n 0, .inl (0, 0, [])), (.iconst 0, .inr (.inr (.int 0, 0))), (.putfield 114, .inl (9, 14, [0, 1198])), (.goto 224, .inl (295, 0, []))]
theorem sk_X9_advance_39 : pp_chk mi_X9_advance 74 39 (pp_cnt mi_X9_advance 39) sg_X9_advance_39 = true := by decide +kernel
def sg_X9_advance_74 : pp_Seg := [(.iload_n 1, .inl (0, 0, [])), (.i2l, .inl (0, 0, [])), (.ldc2_w 117, .inr (.inr (.long 97, 1309))), (.ldc2_w 119, .inr (.inr (.long 122, 1310))), (.invokestatic 121, .inr (.inl (mi_X9_within, 0, 1294, [0, 0, 0]))), (.ifCond .eq 63, .inl (148, 0, []))]
theorem sk_X9_advance_74 : pp_chk mi_X9_advance 88 74 (pp_cnt mi_X9_advance 74) sg_X9_advance_74 = true := by decide +kernel
def sg_X9_advance_88 : pp_Seg := [(.aload_n 0, .inl (0, 0, [])), (.aload_n 0, .inl (0, 0, [])), (.getfield 101, .inl (9, 13, [0, 1197])), (.invokevirtual 104, .inr (.inl (mi_X9_byteAt, 9, 1305, [0, 0]))), (.i2l, .inl (0, 0, [])), (.ldc2_w 117, .inr (.inr (.long 97, 1309))), (.ldc2_w 119, .inr (.inr (.long 122, 1310))), (.invokestatic 121, .inr (.inl (mi_X9_within, 0, 1294, [0, 0, 0]))), (.ifCond .eq 16, .inl (122, 0, [])), (.aload_n 0, .inl (0, 0, [])), (.dup, .inl (0, 0, [])), (.getfield 101, .inl (9, 13, [0, 1197])), (.iconst 1, .inr (.inr (.int 1, 0))), (.iadd, .inl (0, 0, [])), (.putfield 101, .inl (9, 13, [0, 1197])), (.goto (-31), .inl (88, 0, []))]
theorem sk_X9_advance_88 : pp_chk mi_X9_advance 122 88 (pp_cnt mi_X9_advance 88) sg_X9_advance_88 = true := by decide +kernel
def sg_X9_advance_122 : pp_Seg := [(.aload_n 0, .inl (0, 0, [])), (.aload_n 0, .inl (0, 0, [])), (.getfield 101, .inl (9, 13, [0, 1197])), (.aload_n 0, .inl (0, 0, [])), (.getfield 108, .inl (9, 12, [0, 1196])), (.isub, .inl (0, 0, [])), (.bipush 8, .inr (.inr (.int 8, 0))), (.if_icmp .le 7, .inl (141, 0, [])), (.iconst 4, .inr (.inr (.int 4, 0))), (.goto 4, .inl (142, 0, []))]
theorem sk_X9_advance_122 : pp_chk mi_X9_advance 141 122 (pp_cnt mi_X9_advance 122) sg_X9_advance_122 = true := by decide +kernel
def sg_X9_advance_141 : pp_Seg := [(.iconst 1, .inr (.inr (.int 1, 0)))]
theorem sk_X9_advance_141 : pp_chk mi_X9_advance 142 141 (pp_cnt mi_X9_advance 141) sg_X9_advance_141 = true := by decide +kernel
def sg_X9_advance_142 : pp_Seg := [(.putfield 114, .inl (9, 14, [0, 1198])), (.goto 150, .inl (295, 0, []))]
theorem sk_X9_advance_142 : pp_chk mi_X9_advance 148 142 (pp_cnt mi_X9_advance 142) sg_X9_advance_142 = true := by decide +kernel
def sg_X9_advance_148 : pp_Seg := [(.iload_n 1, .inl (0, 0, [])), (.i2l, .inl (0, 0, [])), (.ldc2_w 125, .inr (.inr (.long 48, 1311))), (.ldc2_w 127, .inr (.inr (.long 57, 1312))), (.invokestatic 121, .inr (.inl (mi_X9_within, 0, 1294, [0, 0, 0]))), (.ifCond .eq 105, .inl (264, 0, []))]
theorem sk_X9_advance_148 : pp_chk mi_X9_advance 162 148 (pp_cnt mi_X9_advance 148) sg_X9_advance_148 = true := by decide +kernel
def sg_X9_advance_162 : pp_Seg := [(.aload_n 0, .inl (0, 0, [])), (.aload_n 0, .inl (0, 0, [])), (.getfield 101, .inl (9, 13, [0, 1197])), (.invokevirtual 104, .inr (.inl (mi_X9_byteAt, 9, 1305, [0, 0]))), (.i2l, .inl (0, 0, [])), (.ldc2_w 125, .inr (.inr (.long 48, 1311))), (.ldc2_w 127, .inr (.inr (.long 57, 1312))), (.invokestatic 121, .inr (.inl (mi_X9_within, 0, 1294, [0, 0, 0]))), (.ifCond .eq 59, .inl (239, 0, [])), (.aload_n 0, .inl (0, 0, [])), (.aload_n 0, .inl (0, 0, [])), (.getfield 101, .inl (9, 13, [0, 1197])), (.aload_n 0, .inl (0, 0, [])), (.getfield 108, .inl (9, 12, [0, 1196])), (.isub, .inl (0, 0, [])), (.iconst 4, .inr (.inr (.int 4, 0))), (.if_icmp .ge 25, .inl (219, 0, [])), (.bipush 10, .inr (.inr (.int 10, 0))), (.aload_n 0, .inl (0, 0, [])), (.getfield 111, .inl (9, 15, [0, 1199])), (.imul, .inl (0, 0, [])), (.aload_n 0, .inl (0, 0, [])), (.aload_n 0, .inl (0, 0, [])), (.getfield 101, .inl (9, 13, [0, 1197])), (.invokevirtual 104, .inr (.inl (mi_X9_byteAt, 9, 1305, [0, 0]))), (.iadd, .inl (0, 0, [])), (.bipush 48, .inr (.inr (.int 48, 0))), (.isub, .inl (0, 0, [])), (.goto 7, .inl (223, 0, []))]
theorem sk_X9_advance_162 : pp_chk mi_X9_advance 219 162 (pp_cnt mi_X9_advance 162) sg_X9_advance_162 = true := by decide +kernel
def sg_X9_advance_219 : pp_Seg := [(.aload_n 0, .inl (0, 0, [])), (.getfield 111, .inl (9, 15, [0, 1199]))]
theorem sk_X9_advance_219 : pp_chk mi_X9_advance 223 219 (pp_cnt mi_X9_advance 219) sg_X9_advance_219 = true := by decide +kernel
def sg_X9_advance_223 : pp_Seg := [(.putfield 111, .inl (9, 15, [0, 1199])), (.aload_n 0, .inl (0, 0, [])), (.dup, .inl (0, 0, [])), (.getfield 101, .inl (9, 13, [0, 1197])), (.iconst 1, .inr (.inr (.int 1, 0))), (.iadd, .inl (0, 0, [])), (.putfield 101, .inl (9, 13, [0, 1197])), (.goto (-74), .inl (162, 0, []))]
theorem sk_X9_advance_223 : pp_chk mi_X9_advance 239 223 (pp_cnt mi_X9_advance 223) sg_X9_advance_223 = true := by decide +kernel
def sg_X9_advance_239 : pp_Seg := [(.aload_n 0, .inl (0, 0, [])), (.aload_n 0, .inl (0, 0, [])), (.getfield 101, .inl (9, 13, [0, 1197])), (.aload_n 0, .inl (0, 0, [])), (.getfield 108, .inl (9, 12, [0, 1196])), (.isub, .inl (0, 0, [])), (.iconst 4, .inr (.inr (.int 4, 0))), (.if_icmp .le 7, .inl (257, 0, [])), (.iconst 4, .inr (.inr (.int 4, 0))), (.goto 4, .inl (258, 0, []))]
theorem sk_X9_advance_239 : pp_chk mi_X9_advance 257 239 (pp_cnt mi_X9_advance 239) sg_X9_advance_239 = true := by decide +kernel
def sg_X9_advance_257 : pp_Seg := [(.iconst 2, .inr (.inr (.int 2, 0)))]
theorem sk_X9_advance_257 : pp_chk mi_X9_advance 258 257 (pp_cnt mi_X9_advance 257) sg_X9_advance_257 = true := by decide +kernel
def sg_X9_advance_258 : pp_Seg := [(.putfield 114, .inl (9, 14, [0, 1198])), (.goto 34, .inl (295, 0, []))]
theorem sk_X9_advance_258 : pp_chk mi_X9_advance 264 258 (pp_cnt mi_X9_advance 258) sg_X9_advance_258 = true := by decide +kernel
def sg_X9_advance_264 : pp_Seg := [(.aload_n 0, .inl (0, 0, [])), (.dup, .inl (0, 0, [])), (.getfield 101, .inl (9, 13, [0, 1197])), (.iconst 1, .inr (.inr (.int 1, 0))), (.iadd, .inl (0, 0, [])), (.putfield 101, .inl (9, 13, [0, 1197])), (.aload_n 0, .inl (0, 0, [])), (.iload_n 1, .inl (0, 0, [])), (.putfield 111, .inl (9, 15, [0, 1199])), (.aload_n 0, .inl (0, 0, [])), (.iload_n 1, .inl (0, 0, [])), (.invokestatic 129, .inr (.inl (mi_X9_isSign, 0, 1313, [0]))), (.ifCond .eq 7, .inl (291, 0, [])), (.iconst 3, .inr (.inr (.int 3, 0))), (.goto 4, .inl (292, 0, []))]
theorem sk_X9_advance_264 : pp_chk mi_X9_advance 291 264 (pp_cnt mi_X9_advance 264) sg_X9_advance_264 = true := by decide +kernel
def sg_X9_advance_291 : pp_Seg := [(.iconst 4, .inr (.inr (.int 4, 0)))]
theorem sk_X9_advance_291 : pp_chk mi_X9_advance 292 291 (pp_cnt mi_X9_advance 291) sg_X9_advance_291 = true := by decide +kernel
def sg_X9_advance_292 : pp_Seg := [(.putfield 114, .inl (9, 14, [0, 1198]))]
theorem sk_X9_advance_292 : pp_chk mi_X9_advance 295 292 (pp_cnt mi_X9_advance 292) sg_X9_advance_292 = true := by decide +kernel
def sg_X9_advance_295 : pp_Seg := [(.return_, .inl (0, 0, []))]
theorem sk_X9_advance_295 : pp_chk mi_X9_advance 296 295 (pp_cnt mi_X9_advance 295) sg_X9_advance_295 = true := by decide +kernel
def sg_X9_isWord_0 : pp_Seg := [(.aload_n 0, .inl (0, 0, [])), (.getfield 114, .inl (9, 14, [0, 1198])), (.iconst 1, .inr (.inr (.int 1, 0))), (.if_icmp .ne 23, .inl (28, 0, [])), (.aload_n 0, .inl (0, 0, [])), (.getfield 101, .inl (9, 13, [0, 1197])), (.aload_n 0, .inl (0, 0, [])), (.getfield 108, .inl (9, 12, [0, 1196])), (.isub, .inl (0, 0, [])), (.aload_n 1, .inl (0, 0, [])), (.invokevirtual 132, .inr (.inl (mi_J0_length_8abf5, 0, 1325, [1]))), (.if_icmp .ne 7, .inl (28, 0, [])), (.iconst 1, .inr (.inr (.int 1, 0))), (.goto 4, .inl (29, 0, []))]
theorem sk_X9_isWord_0 : pp_chk mi_X9_isWord 28 0 (pp_cnt mi_X9_isWord 0) sg_X9_isWord_0 = true := by decide +kernel
def sg_X9_isWord_28 : pp_Seg := [(.iconst 0, .inr (.inr (.int 0, 0)))]
theorem sk_X9_isWord_28 : pp_chk mi_X9_isWord 29 28 (pp_cnt mi_X9_isWord 28) sg_X9_isWord_28 = true := by decide +kernel
def sg_X9_isWord_29 : pp_Seg := [(.istore_n 2, .inl (0, 0, [])), (.iconst 0, .inr (.inr (.int 0, 0))), (.istore_n 3, .inl (0, 0, []))]
theorem sk_X9_isWord_29 : pp_chk mi_X9_isWord 32 29 (pp_cnt mi_X9_isWord 29) sg_X9_isWord_29 = true := by decide +kernel
def sg_X9_isWord_32 : pp_Seg := [(.iload_n 3, .inl (0, 0, [])), (.aload_n 1, .inl (0, 0, [])), (.invokevirtual 132, .inr (.inl (mi_J0_length_8abf5, 0, 1325, [1]))), (.if_icmp .ge 38, .inl (75, 0, [])), (.iload_n 2, .inl (0, 0, [])), (.ifCond .eq 34, .inl (75, 0, [])), (.aload_n 0, .inl (0, 0, [])), (.getfield 35, .inl (9, 9, [2, 1193])), (.aload_n 0, .inl (0, 0, [])), (.getfield 108, .inl (9, 12, [0, 1196])), (.iload_n 3, .inl (0, 0, [])), (.iadd, .inl (0, 0, [])), (.baload, .inl (0, 0, [])), (.aload_n 1, .inl (0, 0, [])), (.iload_n 3, .inl (0, 0, [])), (.invokevirtual 137, .inr (.inl (mi_J0_charAt_5068e, 0, 1326, [1, 0]))), (.if_icmp .ne 7, .inl (67, 0, [])), (.iconst 1, .inr (.inr (.int 1, 0))), (.goto 4, .inl (68, 0, []))]
theorem sk_X9_isWord_32 : pp_chk mi_X9_isWord 67 32 (pp_cnt mi_X9_isWord 32) sg_X9_isWord_32 = true := by decide +kernel
def sg_X9_isWord_67 : pp_Seg := [(.iconst 0, .inr (.inr (.int 0, 0)))]
theorem sk_X9_isWord_67 : pp_chk mi_X9_isWord 68 67 (pp_cnt mi_X9_isWord 67) sg_X9_isWord_67 = true := by decide +kernel
def sg_X9_isWord_68 : pp_Seg := [(.istore_n 2, .inl (0, 0, [])), (.iinc 3 1, .inr (.inr (.int 1, 0))), (.goto (-40), .inl (32, 0, []))]
theorem sk_X9_isWord_68 : pp_chk mi_X9_isWord 75 68 (pp_cnt mi_X9_isWord 68) sg_X9_isWord_68 = true := by decide +kernel
def sg_X9_isWord_75 : pp_Seg := [(.iload_n 2, .inl (0, 0, [])), (.ireturn, .inl (0, 0, []))]
theorem sk_X9_isWord_75 : pp_chk mi_X9_isWord 77 75 (pp_cnt mi_X9_isWord 75) sg_X9_isWord_75 = true := by decide +kernel
def sg_X9_isSignHere_0 : pp_Seg := [(.aload_n 0, .inl (0, 0, [])), (.getfield 114, .inl (9, 14, [0, 1198])), (.iconst 3, .inr (.inr (.int 3, 0))), (.if_icmp .ne 15, .inl (20, 0, [])), (.aload_n 0, .inl (0, 0, [])), (.getfield 111, .inl (9, 15, [0, 1199])), (.iload_n 1, .inl (0, 0, [])), (.if_icmp .ne 7, .inl (20, 0, [])), (.iconst 1, .inr (.inr (.int 1, 0))), (.goto 4, .inl (21, 0, []))]
theorem sk_X9_isSignHere_0 : pp_chk mi_X9_isSignHere 20 0 (pp_cnt mi_X9_isSignHere 0) sg_X9_isSignHere_0 = true := by decide +kernel
def sg_X9_isSignHere_20 : pp_Seg := [(.iconst 0, .inr (.inr (.int 0, 0)))]
theorem sk_X9_isSignHere_20 : pp_chk mi_X9_isSignHere 21 20 (pp_cnt mi_X9_isSignHere 20) sg_X9_isSignHere_20 = true := by decide +kernel
def sg_X9_isSignHere_21 : pp_Seg := [(.ireturn, .inl (0, 0, []))]
theorem sk_X9_isSignHere_21 : pp_chk mi_X9_isSignHere 22 21 (pp_cnt mi_X9_isSignHere 21) sg_X9_isSignHere_21 = true := by decide +kernel
def sg_X9_fails_0 : pp_Seg := [(.aload_n 0, .inl (0, 0, [])), (.getfield 141, .inl (9, 16, [0, 1200])), (.ifCond .ne 16, .inl (20, 0, [])), (.aload_n 0, .inl (0, 0, [])), (.iload_n 1, .inl (0, 0, [])), (.putfield 141, .inl (9, 16, [0, 1200])), (.aload_n 0, .inl (0, 0, [])), (.aload_n 0, .inl (0, 0, [])), (.getfield 108, .inl (9, 12, [0, 1196])), (.putfield 39, .inl (9, 17, [0, 1201]))]
theorem sk_X9_fails_0 : pp_chk mi_X9_fails 20 0 (pp_cnt mi_X9_fails 0) sg_X9_fails_0 = true := by decide +kernel
def sg_X9_fails_20 : pp_Seg := [(.iconst 0, .inr (.inr (.int 0, 0))), (.ireturn, .inl (0, 0, []))]
theorem sk_X9_fails_20 : pp_chk mi_X9_fails 22 20 (pp_cnt mi_X9_fails 20) sg_X9_fails_20 = true := by decide +kernel
def sg_X9_takes_0 : pp_Seg := [(.aload_n 0, .inl (0, 0, [])), (.getfield 114, .inl (9, 14, [0, 1198])), (.iconst 2, .inr (.inr (.int 2, 0))), (.if_icmp .eq 9, .inl (14, 0, [])), (.aload_n 0, .inl (0, 0, [])), (.iconst 1, .inr (.inr (.int 1, 0))), (.invokevirtual 144, .inr (.inl (mi_X9_fails, 9, 1335, [0, 0]))), (.ireturn, .inl (0, 0, []))]
theorem sk_X9_takes_0 : pp_chk mi_X9_takes 14 0 (pp_cnt mi_X9_takes 0) sg_X9_takes_0 = true := by decide +kernel
def sg_X9_takes_14 : pp_Seg := [(.aload_n 0, .inl (0, 0, [])), (.getfield 111, .inl (9, 15, [0, 1199])), (.i2l, .inl (0, 0, [])), (.iload_n 1, .inl (0, 0, [])), (.i2l, .inl (0, 0, [])), (.iload_n 2, .inl (0, 0, [])), (.i2l, .inl (0, 0, [])), (.invokestatic 121, .inr (.inl (mi_X9_within, 0, 1294, [0, 0, 0]))), (.ifCond .ne 9, .inl (35, 0, [])), (.aload_n 0, .inl (0, 0, [])), (.iconst 3, .inr (.inr (.int 3, 0))), (.invokevirtual 144, .inr (.inl (mi_X9_fails, 9, 1335, [0, 0]))), (.ireturn, .inl (0, 0, []))]
theorem sk_X9_takes_14 : pp_chk mi_X9_takes 35 14 (pp_cnt mi_X9_takes 14) sg_X9_takes_14 = true := by decide +kernel
def sg_X9_takes_35 : pp_Seg := [(.aload_n 0, .inl (0, 0, [])), (.aload_n 0, .inl (0, 0, [])), (.getfield 111, .inl (9, 15, [0, 1199])), (.putfield 147, .inl (9, 18, [0, 1202])), (.aload_n 0, .inl (0, 0, [])), (.invokevirtual 150, .inr (.inl (mi_X9_advance, 9, 1301, [0]))), (.iconst 1, .inr (.inr (.int 1, 0))), (.ireturn, .inl (0, 0, []))]
theorem sk_X9_takes_35 : pp_chk mi_X9_takes 49 35 (pp_cnt mi_X9_takes 35) sg_X9_takes_35 = true := by decide +kernel
def sg_X9_starts_0 : pp_Seg := [(.iload_n 2, .inl (0, 0, [])), (.ifCond .ne 9, .inl (10, 0, [])), (.aload_n 0, .inl (0, 0, [])), (.iload_n 1, .inl (0, 0, [])), (.invokevirtual 144, .inr (.inl (mi_X9_fails, 9, 1335, [0, 0]))), (.ireturn, .inl (0, 0, []))]
theorem sk_X9_starts_0 : pp_chk mi_X9_starts 10 0 (pp_cnt mi_X9_starts 0) sg_X9_starts_0 = true := by decide +kernel
def sg_X9_starts_10 : pp_Seg := [(.aload_n 0, .inl (0, 0, [])), (.invokevirtual 150, .inr (.inl (mi_X9_advance, 9, 1301, [0]))), (.iconst 1, .inr (.inr (.int 1, 0))), (.ireturn, .inl (0, 0, []))]
theorem sk_X9_starts_10 : pp_chk mi_X9_starts 16 10 (pp_cnt mi_X9_starts 10) sg_X9_starts_10 = true := by decide +kernel
def sg_X9_once_0 : pp_Seg := [(.aload_n 0, .inl (0, 0, [])), (.iconst 2, .inr (.inr (.int 2, 0))), (.aload_n 0, .inl (0, 0, [])), (.getfield 153, .inl (9, 19, [0, 1203])), (.iload_n 1, .inl (0, 0, [])), (.invokestatic 156, .inr (.inl (mi_X9_has, 0, 1363, [0, 0]))), (.ifCond .ne 7, .inl (17, 0, [])), (.iconst 1, .inr (.inr (.int 1, 0))), (.goto 4, .inl (18, 0, []))]
theorem sk_X9_once_0 : pp_chk mi_X9_once 17 0 (pp_cnt mi_X9_once 0) sg_X9_once_0 = true := by decide +kernel
def sg_X9_once_17 : pp_Seg := [(.iconst 0, .inr (.inr (.int 0, 0)))]
theorem sk_X9_once_17 : pp_chk mi_X9_once 18 17 (pp_cnt mi_X9_once 17) sg_X9_once_17 = true := by decide +kernel
def sg_X9_once_18 : pp_Seg := [(.invokevirtual 160, .inr (.inl (mi_X9_starts, 9, 1331, [0, 0, 0]))), (.ifCond .ne 5, .inl (26, 0, [])), (.iconst 0, .inr (.inr (.int 0, 0))), (.ireturn, .inl (0, 0, []))]
theorem sk_X9_once_18 : pp_chk mi_X9_once 26 18 (pp_cnt mi_X9_once 18) sg_X9_once_18 = true := by decide +kernel
def sg_X9_once_26 : pp_Seg := [(.aload_n 0, .inl (0, 0, [])), (.dup, .inl (0, 0, [])), (.getfield 153, .inl (9, 19, [0, 1203])), (.iconst 1, .inr (.inr (.int 1, 0))), (.iload_n 1, .inl (0, 0, [])), (.ishl, .inl (0, 0, [])), (.ior, .inl (0, 0, [])), (.putfield 153, .inl (9, 19, [0, 1203])), (.iconst 1, .inr (.inr (.int 1, 0))), (.ireturn, .inl (0, 0, []))]
theorem sk_X9_once_26 : pp_chk mi_X9_once 40 26 (pp_cnt mi_X9_once 26) sg_X9_once_26 = true := by decide +kernel
def sg_X9_sets_0 : pp_Seg := [(.aload_n 0, .inl (0, 0, [])), (.iload_n 2, .inl (0, 0, [])), (.iload_n 3, .inl (0, 0, [])), (.invokevirtual 164, .inr (.inl (mi_X9_takes, 9, 1343, [0, 0, 0]))), (.ifCond .ne 5, .inl (11, 0, [])), (.iconst 0, .inr (.inr (.int 0, 0))), (.ireturn, .inl (0, 0, []))]
theorem sk_X9_sets_0 : pp_chk mi_X9_sets 11 0 (pp_cnt mi_X9_sets 0) sg_X9_sets_0 = true := by decide +kernel
def sg_X9_sets_11 : pp_Seg := [(.aload_n 0, .inl (0, 0, [])), (.getfield 13, .inl (9, 2, [2, 1186])), (.bipush 14, .inr (.inr (.int 14, 0))), (.iload_n 1, .inl (0, 0, [])), (.iadd, .inl (0, 0, [])), (.aload_n 0, .inl (0, 0, [])), (.getfield 147, .inl (9, 18, [0, 1202])), (.iastore, .inl (0, 0, [])), (.iconst 1, .inr (.inr (.int 1, 0))), (.ireturn, .inl (0, 0, []))]
theorem sk_X9_sets_11 : pp_chk mi_X9_sets 26 11 (pp_cnt mi_X9_sets 11) sg_X9_sets_11 = true := by decide +kernel
def sg_X9_closes_0 : pp_Seg := [(.aload_n 0, .inl (0, 0, [])), (.iload_n 1, .inl (0, 0, [])), (.invokevirtual 167, .inr (.inl (mi_X9_isSignHere, 9, 1389, [0, 0]))), (.ifCond .ne 9, .inl (14, 0, [])), (.aload_n 0, .inl (0, 0, [])), (.iconst 1, .inr (.inr (.int 1, 0))), (.invokevirtual 144, .inr (.inl (mi_X9_fails, 9, 1335, [0, 0]))), (.ireturn, .inl (0, 0, []))]
theorem sk_X9_closes_0 : pp_chk mi_X9_closes 14 0 (pp_cnt mi_X9_closes 0) sg_X9_closes_0 = true := by decide +kernel
def sg_X9_closes_14 : pp_Seg := [(.aload_n 0, .inl (0, 0, [])), (.invokevirtual 150, .inr (.inl (mi_X9_advance, 9, 1301, [0]))), (.iconst 1, .inr (.inr (.int 1, 0))), (.ireturn, .inl (0, 0, []))]
theorem sk_X9_closes_14 : pp_chk mi_X9_closes 20 14 (pp_cnt mi_X9_closes 14) sg_X9_closes_14 = true := by decide +kernel
def sg_X9_lays_0 : pp_Seg := [(.aload_n 0, .inl (0, 0, [])), (.iload_n 3, .inl (0, 0, [])), (.iload 4, .inl (0, 0, [])), (.invokevirtual 164, .inr (.inl (mi_X9_takes, 9, 1343, [0, 0, 0]))), (.ifCond .ne 5, .inl (12, 0, [])), (.iconst 0, .inr (.inr (.int 0, 0))), (.ireturn, .inl (0, 0, []))]
theorem sk_X9_lays_0 : pp_chk mi_X9_lays 12 0 (pp_cnt mi_X9_lays 0) sg_X9_lays_0 = true := by decide +kernel
def sg_X9_lays_12 : pp_Seg := [(.aload_n 1, .inl (0, 0, [])), (.aload_n 1, .inl (0, 0, [])), (.arraylength, .inl (0, 0, [])), (.iconst 2, .inr (.inr (.int 2, 0))), (.idiv, .inl (0, 0, [])), (.iload_n 2, .inl (0, 0, [])), (.iadd, .inl (0, 0, [])), (.aload_n 0, .inl (0, 0, [])), (.getfield 147, .inl (9, 18, [0, 1202])), (.iastore, .inl (0, 0, [])), (.iconst 1, .inr (.inr (.int 1, 0))), (.ireturn, .inl (0, 0, []))]
theorem sk_X9_lays_12 : pp_chk mi_X9_lays 26 12 (pp_cnt mi_X9_lays 12) sg_X9_lays_12 = true := by decide +kernel
def sg_X9_oneMore_0 : pp_Seg := [(.aload_n 0, .inl (0, 0, [])), (.iconst 4, .inr (.inr (.int 4, 0))), (.aload_n 0, .inl (0, 0, [])), (.getfield 13, .inl (9, 2, [2, 1186])), (.bipush 14, .inr (.inr (.int 14, 0))), (.iload_n 1, .inl (0, 0, [])), (.iadd, .inl (0, 0, [])), (.iaload, .inl (0, 0, [])), (.iload_n 2, .inl (0, 0, [])), (.if_icmp .ge 7, .inl (19, 0, [])), (.iconst 1, .inr (.inr (.int 1, 0))), (.goto 4, .inl (20, 0, []))]
theorem sk_X9_oneMore_0 : pp_chk mi_X9_oneMore 19 0 (pp_cnt mi_X9_oneMore 0) sg_X9_oneMore_0 = true := by decide +kernel
def sg_X9_oneMore_19 : pp_Seg := [(.iconst 0, .inr (.inr (.int 0, 0)))]
theorem sk_X9_oneMore_19 : pp_chk mi_X9_oneMore 20 19 (pp_cnt mi_X9_oneMore 19) sg_X9_oneMore_19 = true := by decide +kernel
def sg_X9_oneMore_20 : pp_Seg := [(.invokevirtual 160, .inr (.inl (mi_X9_starts, 9, 1331, [0, 0, 0]))), (.ireturn, .inl (0, 0, []))]
theorem sk_X9_oneMore_20 : pp_chk mi_X9_oneMore 24 20 (pp_cnt mi_X9_oneMore 20) sg_X9_oneMore_20 = true := by decide +kernel
def sg_X9_counted_0 : pp_Seg := [(.aload_n 0, .inl (0, 0, [])), (.getfield 13, .inl (9, 2, [2, 1186])), (.bipush 14, .inr (.inr (.int 14, 0))), (.iload_n 1, .inl (0, 0, [])), (.iadd, .inl (0, 0, [])), (.dup2, .inl (0, 0, [])), (.iaload, .inl (0, 0, [])), (.iconst 1, .inr (.inr (.int 1, 0))), (.iadd, .inl (0, 0, [])), (.iastore, .inl (0, 0, [])), (.iconst 1, .inr (.inr (.int 1, 0))), (.ireturn, .inl (0, 0, []))]
theorem sk_X9_counted_0 : pp_chk mi_X9_counted 15 0 (pp_cnt mi_X9_counted 0) sg_X9_counted_0 = true := by decide +kernel
def sg_X9_factor_0 : pp_Seg := [(.aload_n 0, .inl (0, 0, [])), (.bipush 40, .inr (.inr (.int 40, 0))), (.invokevirtual 167, .inr (.inl (mi_X9_isSignHere, 9, 1389, [0, 0]))), (.ifCond .eq 70, .inl (76, 0, [])), (.aload_n 0, .inl (0, 0, [])), (.iconst 4, .inr (.inr (.int 4, 0))), (.aload_n 0, .inl (0, 0, [])), (.getfield 219, .inl (9, 20, [0, 1204])), (.iconst 5, .inr (.inr (.int 5, 0))), (.if_icmp .ge 7, .inl (23, 0, [])), (.iconst 1, .inr (.inr (.int 1, 0))), (.goto 4, .inl (24, 0, []))]
theorem sk_X9_factor_0 : pp_chk mi_X9_factor 23 0 (pp_cnt mi_X9_factor 0) sg_X9_factor_0 = true := by decide +kernel
def sg_X9_factor_23 : pp_Seg := [(.iconst 0, .inr (.inr (.int 0, 0)))]
theorem sk_X9_factor_23 : pp_chk mi_X9_factor 24 23 (pp_cnt mi_X9_factor 23) sg_X9_factor_23 = true := by decide +kernel
def sg_X9_factor_24 : pp_Seg := [(.invokevirtual 160, .inr (.inl (mi_X9_starts, 9, 1331, [0, 0, 0]))), (.ifCond .ne 5, .inl (32, 0, [])), (.iconst 0, .inr (.inr (.int 0, 0))), (.ireturn, .inl (0, 0, []))]
theorem sk_X9_factor_24 : pp_chk mi_X9_factor 32 24 (pp_cnt mi_X9_factor 24) sg_X9_factor_24 = true := by decide +kernel
def sg_X9_factor_32 : pp_Seg := [(.aload_n 0, .inl (0, 0, [])), (.dup, .inl (0, 0, [])), (.getfield 219, .inl (9, 20, [0, 1204])), (.iconst 1, .inr (.inr (.int 1, 0))), (.iadd, .inl (0, 0, [])), (.putfield 219, .inl (9, 20, [0, 1204])), (.aload_n 0, .inl (0, 0, [])), (.invokevirtual 222, .inr (.inl (mi_X9_sum, 9, 1377, [0]))), (.ifCond .eq 16, .inl (62, 0, [])), (.aload_n 0, .inl (0, 0, [])), (.bipush 41, .inr (.inr (.int 41, 0))), (.invokevirtual 231, .inr (.inl (mi_X9_closes, 9, 1393, [0, 0]))), (.ifCond .eq 7, .inl (62, 0, [])), (.iconst 1, .inr (.inr (.int 1, 0))), (.goto 4, .inl (63, 0, []))]
theorem sk_X9_factor_32 : pp_chk mi_X9_factor 62 32 (pp_cnt mi_X9_factor 32) sg_X9_factor_32 = true := by decide +kernel
def sg_X9_factor_62 : pp_Seg := [(.iconst 0, .inr (.inr (.int 0, 0)))]
theorem sk_X9_factor_62 : pp_chk mi_X9_factor 63 62 (pp_cnt mi_X9_factor 62) sg_X9_factor_62 = true := by decide +kernel
def sg_X9_factor_63 : pp_Seg := [(.istore_n 1, .inl (0, 0, [])), (.aload_n 0, .inl (0, 0, [])), (.dup, .inl (0, 0, [])), (.getfield 219, .inl (9, 20, [0, 1204])), (.iconst 1, .inr (.inr (.int 1, 0))), (.isub, .inl (0, 0, [])), (.putfield 219, .inl (9, 20, [0, 1204])), (.iload_n 1, .inl (0, 0, [])), (.ireturn, .inl (0, 0, []))]
theorem sk_X9_factor_63 : pp_chk mi_X9_factor 76 63 (pp_cnt mi_X9_factor 63) sg_X9_factor_63 = true := by decide +kernel
def sg_X9_factor_76 : pp_Seg := [(.aload_n 0, .inl (0, 0, [])), (.getfield 114, .inl (9, 14, [0, 1198])), (.iconst 2, .inr (.inr (.int 2, 0))), (.if_icmp .ne 13, .inl (94, 0, [])), (.bipush 100, .inr (.inr (.int 100, 0))), (.aload_n 0, .inl (0, 0, [])), (.getfield 111, .inl (9, 15, [0, 1199])), (.iadd, .inl (0, 0, [])), (.goto 43, .inl (134, 0, []))]
theorem sk_X9_factor_76 : pp_chk mi_X9_factor 94 76 (pp_cnt mi_X9_factor 76) sg_X9_factor_76 = true := by decide +kernel
def sg_X9_factor_94 : pp_Seg := [(.aload_n 0, .inl (0, 0, [])), (.ldc 234, .inr (.inr (.ref 13, 27))), (.invokevirtual 172, .inr (.inl (mi_X9_isWord, 9, 1321, [0, 0]))), (.ifCond .eq 7, .inl (107, 0, [])), (.iconst 1, .inr (.inr (.int 1, 0))), (.goto 30, .inl (134, 0, []))]
theorem sk_X9_factor_94 : pp_chk mi_X9_factor 107 94 (pp_cnt mi_X9_factor 94) sg_X9_factor_94 = true := by decide +kernel
def sg_X9_factor_107 : pp_Seg := [(.aload_n 0, .inl (0, 0, [])), (.ldc 235, .inr (.inr (.ref 14, 28))), (.invokevirtual 172, .inr (.inl (mi_X9_isWord, 9, 1321, [0, 0]))), (.ifCond .eq 7, .inl (120, 0, [])), (.iconst 2, .inr (.inr (.int 2, 0))), (.goto 17, .inl (134, 0, []))]
theorem sk_X9_factor_107 : pp_chk mi_X9_factor 120 107 (pp_cnt mi_X9_factor 107) sg_X9_factor_107 = true := by decide +kernel
def sg_X9_factor_120 : pp_Seg := [(.aload_n 0, .inl (0, 0, [])), (.ldc 237, .inr (.inr (.ref 15, 29))), (.invokevirtual 172, .inr (.inl (mi_X9_isWord, 9, 1321, [0, 0]))), (.ifCond .eq 7, .inl (133, 0, [])), (.iconst 3, .inr (.inr (.int 3, 0))), (.goto 4, .inl (134, 0, []))]
theorem sk_X9_factor_120 : pp_chk mi_X9_factor 133 120 (pp_cnt mi_X9_factor 120) sg_X9_factor_120 = true := by decide +kernel
def sg_X9_factor_133 : pp_Seg := [(.iconst 0, .inr (.inr (.int 0, 0)))]
theorem sk_X9_factor_133 : pp_chk mi_X9_factor 134 133 (pp_cnt mi_X9_factor 133) sg_X9_factor_133 = true := by decide +kernel
def sg_X9_factor_134 : pp_Seg := [(.istore_n 1, .inl (0, 0, [])), (.iload_n 1, .inl (0, 0, [])), (.ifCond .ne 9, .inl (145, 0, [])), (.aload_n 0, .inl (0, 0, [])), (.iconst 1, .inr (.inr (.int 1, 0))), (.invokevirtual 144, .inr (.inl (mi_X9_fails, 9, 1335, [0, 0]))), (.ireturn, .inl (0, 0, []))]
theorem sk_X9_factor_134 : pp_chk mi_X9_factor 145 134 (pp_cnt mi_X9_factor 134) sg_X9_factor_134 = true := by decide +kernel
def sg_X9_factor_145 : pp_Seg := [(.aload_n 0, .inl (0, 0, [])), (.invokevirtual 150, .inr (.inl (mi_X9_advance, 9, 1301, [0]))), (.aload_n 0, .inl (0, 0, [])), (.iload_n 1, .inl (0, 0, [])), (.invokevirtual 87, .inr (.inl (mi_X9_emit, 9, 1169, [0, 0]))), (.ireturn, .inl (0, 0, []))]
theorem sk_X9_factor_145 : pp_chk mi_X9_factor 155 145 (pp_cnt mi_X9_factor 145) sg_X9_factor_145 = true := by decide +kernel
def sg_X9_term_0 : pp_Seg := [(.aload_n 0, .inl (0, 0, [])), (.invokevirtual 228, .inr (.inl (mi_X9_factor, 9, 1385, [0]))), (.ifCond .ne 5, .inl (9, 0, [])), (.iconst 0, .inr (.inr (.int 0, 0))), (.ireturn, .inl (0, 0, []))]
theorem sk_X9_term_0 : pp_chk mi_X9_term 9 0 (pp_cnt mi_X9_term 0) sg_X9_term_0 = true := by decide +kernel
def sg_X9_term_9 : pp_Seg := [(.aload_n 0, .inl (0, 0, [])), (.bipush 42, .inr (.inr (.int 42, 0))), (.invokevirtual 167, .inr (.inl (mi_X9_isSignHere, 9, 1389, [0, 0]))), (.ifCond .ne 12, .inl (27, 0, [])), (.aload_n 0, .inl (0, 0, [])), (.bipush 47, .inr (.inr (.int 47, 0))), (.invokevirtual 167, .inr (.inl (mi_X9_isSignHere, 9, 1389, [0, 0]))), (.ifCond .eq 42, .inl (66, 0, []))]
theorem sk_X9_term_9 : pp_chk mi_X9_term 27 9 (pp_cnt mi_X9_term 9) sg_X9_term_9 = true := by decide +kernel
def sg_X9_term_27 : pp_Seg := [(.aload_n 0, .inl (0, 0, [])), (.getfield 111, .inl (9, 15, [0, 1199])), (.bipush 42, .inr (.inr (.int 42, 0))), (.if_icmp .ne 8, .inl (41, 0, [])), (.bipush (-3), .inr (.inr (.int (-3), 0))), (.goto 5, .inl (43, 0, []))]
theorem sk_X9_term_27 : pp_chk mi_X9_term 41 27 (pp_cnt mi_X9_term 27) sg_X9_term_27 = true := by decide +kernel
def sg_X9_term_41 : pp_Seg := [(.bipush (-4), .inr (.inr (.int (-4), 0)))]
theorem sk_X9_term_41 : pp_chk mi_X9_term 43 41 (pp_cnt mi_X9_term 41) sg_X9_term_41 = true := by decide +kernel
def sg_X9_term_43 : pp_Seg := [(.istore_n 1, .inl (0, 0, [])), (.aload_n 0, .inl (0, 0, [])), (.invokevirtual 150, .inr (.inl (mi_X9_advance, 9, 1301, [0]))), (.aload_n 0, .inl (0, 0, [])), (.invokevirtual 228, .inr (.inl (mi_X9_factor, 9, 1385, [0]))), (.ifCond .ne 5, .inl (57, 0, [])), (.iconst 0, .inr (.inr (.int 0, 0))), (.ireturn, .inl (0, 0, []))]
theorem sk_X9_term_43 : pp_chk mi_X9_term 57 43 (pp_cnt mi_X9_term 43) sg_X9_term_43 = true := by decide +kernel
def sg_X9_term_57 : pp_Seg := [(.aload_n 0, .inl (0, 0, [])), (.iload_n 1, .inl (0, 0, [])), (.invokevirtual 87, .inr (.inl (mi_X9_emit, 9, 1169, [0, 0]))), (.pop, .inl (0, 0, [])), (.goto (-54), .inl (9, 0, []))]
theorem sk_X9_term_57 : pp_chk mi_X9_term 66 57 (pp_cnt mi_X9_term 57) sg_X9_term_57 = true := by decide +kernel
def sg_X9_term_66 : pp_Seg := [(.iconst 1, .inr (.inr (.int 1, 0))), (.ireturn, .inl (0, 0, []))]
theorem sk_X9_term_66 : pp_chk mi_X9_term 68 66 (pp_cnt mi_X9_term 66) sg_X9_term_66 = true := by decide +kernel
def sg_X9_sum_0 : pp_Seg := [(.aload_n 0, .inl (0, 0, [])), (.invokevirtual 225, .inr (.inl (mi_X9_term, 9, 1381, [0]))), (.ifCond .ne 5, .inl (9, 0, [])), (.iconst 0, .inr (.inr (.int 0, 0))), (.ireturn, .inl (0, 0, []))]
theorem sk_X9_sum_0 : pp_chk mi_X9_sum 9 0 (pp_cnt mi_X9_sum 0) sg_X9_sum_0 = true := by decide +kernel
def sg_X9_sum_9 : pp_Seg := [(.aload_n 0, .inl (0, 0, [])), (.bipush 43, .inr (.inr (.int 43, 0))), (.invokevirtual 167, .inr (.inl (mi_X9_isSignHere, 9, 1389, [0, 0]))), (.ifCond .ne 12, .inl (27, 0, [])), (.aload_n 0, .inl (0, 0, [])), (.bipush 45, .inr (.inr (.int 45, 0))), (.invokevirtual 167, .inr (.inl (mi_X9_isSignHere, 9, 1389, [0, 0]))), (.ifCond .eq 41, .inl (65, 0, []))]
theorem sk_X9_sum_9 : pp_chk mi_X9_sum 27 9 (pp_cnt mi_X9_sum 9) sg_X9_sum_9 = true := by decide +kernel
def sg_X9_sum_27 : pp_Seg := [(.aload_n 0, .inl (0, 0, [])), (.getfield 111, .inl (9, 15, [0, 1199])), (.bipush 43, .inr (.inr (.int 43, 0))), (.if_icmp .ne 7, .inl (40, 0, [])), (.iconst (-1), .inr (.inr (.int (-1), 0))), (.goto 5, .inl (42, 0, []))]
theorem sk_X9_sum_27 : pp_chk mi_X9_sum 40 27 (pp_cnt mi_X9_sum 27) sg_X9_sum_27 = true := by decide +kernel
def sg_X9_sum_40 : pp_Seg := [(.bipush (-2), .inr (.inr (.int (-2), 0)))]
theorem sk_X9_sum_40 : pp_chk mi_X9_sum 42 40 (pp_cnt mi_X9_sum 40) sg_X9_sum_40 = true := by decide +kernel
def sg_X9_sum_42 : pp_Seg := [(.istore_n 1, .inl (0, 0, [])), (.aload_n 0, .inl (0, 0, [])), (.invokevirtual 150, .inr (.inl (mi_X9_advance, 9, 1301, [0]))), (.aload_n 0, .inl (0, 0, [])), (.invokevirtual 225, .inr (.inl (mi_X9_term, 9, 1381, [0]))), (.ifCond .ne 5, .inl (56, 0, [])), (.iconst 0, .inr (.inr (.int 0, 0))), (.ireturn, .inl (0, 0, []))]
theorem sk_X9_sum_42 : pp_chk mi_X9_sum 56 42 (pp_cnt mi_X9_sum 42) sg_X9_sum_42 = true := by decide +kernel
def sg_X9_sum_56 : pp_Seg := [(.aload_n 0, .inl (0, 0, [])), (.iload_n 1, .inl (0, 0, [])), (.invokevirtual 87, .inr (.inl (mi_X9_emit, 9, 1169, [0, 0]))), (.pop, .inl (0, 0, [])), (.goto (-53), .inl (9, 0, []))]
theorem sk_X9_sum_56 : pp_chk mi_X9_sum 65 56 (pp_cnt mi_X9_sum 56) sg_X9_sum_56 = true := by decide +kernel
def sg_X9_sum_65 : pp_Seg := [(.iconst 1, .inr (.inr (.int 1, 0))), (.ireturn, .inl (0, 0, []))]
theorem sk_X9_sum_65 : pp_chk mi_X9_sum 67 65 (pp_cnt mi_X9_sum 65) sg_X9_sum_65 = true := by decide +kernel
def sg_X9_setting_0 : pp_Seg := [(.aload_n 0, .inl (0, 0, [])), (.ldc 196, .inr (.inr (.ref 5, 19))), (.invokevirtual 172, .inr (.inl (mi_X9_isWord, 9, 1321, [0, 0]))), (.ifCond .eq 38, .inl (44, 0, [])), (.aload_n 0, .inl (0, 0, [])), (.iconst 0, .inr (.inr (.int 0, 0))), (.invokevirtual 198, .inr (.inl (mi_X9_once, 9, 1359, [0, 0]))), (.ifCond .eq 28, .inl (42, 0, [])), (.aload_n 0, .inl (0, 0, [])), (.iconst 4, .inr (.inr (.int 4, 0))), (.iconst 1, .inr (.inr (.int 1, 0))), (.iconst 5, .inr (.inr (.int 5, 0))), (.invokevirtual 201, .inr (.inl (mi_X9_sets, 9, 1366, [0, 0, 0, 0]))), (.ifCond .eq 18, .inl (42, 0, [])), (.aload_n 0, .inl (0, 0, [])), (.iconst 5, .inr (.inr (.int 5, 0))), (.iconst 1, .inr (.inr (.int 1, 0))), (.bipush 100, .inr (.inr (.int 100, 0))), (.invokevirtual 201, .inr (.inl (mi_X9_sets, 9, 1366, [0, 0, 0, 0]))), (.ifCond .eq 7, .inl (42, 0, [])), (.iconst 1, .inr (.inr (.int 1, 0))), (.goto 4, .inl (43, 0, []))]
theorem sk_X9_setting_0 : pp_chk mi_X9_setting 42 0 (pp_cnt mi_X9_setting 0) sg_X9_setting_0 = true := by decide +kernel
def sg_X9_setting_42 : pp_Seg := [(.iconst 0, .inr (.inr (.int 0, 0)))]
theorem sk_X9_setting_42 : pp_chk mi_X9_setting 43 42 (pp_cnt mi_X9_setting 42) sg_X9_setting_42 = true := by decide +kernel
def sg_X9_setting_43 : pp_Seg := [(.ireturn, .inl (0, 0, []))]
theorem sk_X9_setting_43 : pp_chk mi_X9_setting 44 43 (pp_cnt mi_X9_setting 43) sg_X9_setting_43 = true := by decide +kernel
def sg_X9_setting_44 : pp_Seg := [(.aload_n 0, .inl (0, 0, [])), (.ldc 205, .inr (.inr (.ref 6, 20))), (.invokevirtual 172, .inr (.inl (mi_X9_isWord, 9, 1321, [0, 0]))), (.ifCond .eq 29, .inl (79, 0, [])), (.aload_n 0, .inl (0, 0, [])), (.iconst 1, .inr (.inr (.int 1, 0))), (.invokevirtual 198, .inr (.inl (mi_X9_once, 9, 1359, [0, 0]))), (.ifCond .eq 19, .inl (77, 0, [])), (.aload_n 0, .inl (0, 0, [])), (.bipush 6, .inr (.inr (.int 6, 0))), (.iconst 1, .inr (.inr (.int 1, 0))), (.bipush 100, .inr (.inr (.int 100, 0))), (.invokevirtual 201, .inr (.inl (mi_X9_sets, 9, 1366, [0, 0, 0, 0]))), (.ifCond .eq 7, .inl (77, 0, [])), (.iconst 1, .inr (.inr (.int 1, 0))), (.goto 4, .inl (78, 0, []))]
theorem sk_X9_setting_44 : pp_chk mi_X9_setting 77 44 (pp_cnt mi_X9_setting 44) sg_X9_setting_44 = true := by decide +kernel
def sg_X9_setting_77 : pp_Seg := [(.iconst 0, .inr (.inr (.int 0, 0)))]
theorem sk_X9_setting_77 : pp_chk mi_X9_setting 78 77 (pp_cnt mi_X9_setting 77) sg_X9_setting_77 = true := by decide +kernel
def sg_X9_setting_78 : pp_Seg := [(.ireturn, .inl (0, 0, []))]
theorem sk_X9_setting_78 : pp_chk mi_X9_setting 79 78 (pp_cnt mi_X9_setting 78) sg_X9_setting_78 = true := by decide +kernel
def sg_X9_setting_79 : pp_Seg := [(.aload_n 0, .inl (0, 0, [])), (.ldc 207, .inr (.inr (.ref 7, 21))), (.invokevirtual 172, .inr (.inl (mi_X9_isWord, 9, 1321, [0, 0]))), (.ifCond .eq 29, .inl (114, 0, [])), (.aload_n 0, .inl (0, 0, [])), (.iconst 2, .inr (.inr (.int 2, 0))), (.invokevirtual 198, .inr (.inl (mi_X9_once, 9, 1359, [0, 0]))), (.ifCond .eq 19, .inl (112, 0, [])), (.aload_n 0, .inl (0, 0, [])), (.bipush 7, .inr (.inr (.int 7, 0))), (.iconst 0, .inr (.inr (.int 0, 0))), (.bipush 50, .inr (.inr (.int 50, 0))), (.invokevirtual 201, .inr (.inl (mi_X9_sets, 9, 1366, [0, 0, 0, 0]))), (.ifCond .eq 7, .inl (112, 0, [])), (.iconst 1, .inr (.inr (.int 1, 0))), (.goto 4, .inl (113, 0, []))]
theorem sk_X9_setting_79 : pp_chk mi_X9_setting 112 79 (pp_cnt mi_X9_setting 79) sg_X9_setting_79 = true := by decide +kernel
def sg_X9_setting_112 : pp_Seg := [(.iconst 0, .inr (.inr (.int 0, 0)))]
theorem sk_X9_setting_112 : pp_chk mi_X9_setting 113 112 (pp_cnt mi_X9_setting 112) sg_X9_setting_112 = true := by decide +kernel
def sg_X9_setting_113 : pp_Seg := [(.ireturn, .inl (0, 0, []))]
theorem sk_X9_setting_113 : pp_chk mi_X9_setting 114 113 (pp_cnt mi_X9_setting 113) sg_X9_setting_113 = true := by decide +kernel
def sg_X9_setting_114 : pp_Seg := [(.aload_n 0, .inl (0, 0, [])), (.ldc 209, .inr (.inr (.ref 8, 22))), (.invokevirtual 172, .inr (.inl (mi_X9_isWord, 9, 1321, [0, 0]))), (.ifCond .eq 29, .inl (149, 0, [])), (.aload_n 0, .inl (0, 0, [])), (.iconst 3, .inr (.inr (.int 3, 0))), (.invokevirtual 198, .inr (.inl (mi_X9_once, 9, 1359, [0, 0]))), (.ifCond .eq 19, .inl (147, 0, [])), (.aload_n 0, .inl (0, 0, [])), (.bipush 8, .inr (.inr (.int 8, 0))), (.iconst 0, .inr (.inr (.int 0, 0))), (.bipush 40, .inr (.inr (.int 40, 0))), (.invokevirtual 201, .inr (.inl (mi_X9_sets, 9, 1366, [0, 0, 0, 0]))), (.ifCond .eq 7, .inl (147, 0, [])), (.iconst 1, .inr (.inr (.int 1, 0))), (.goto 4, .inl (148, 0, []))]
theorem sk_X9_setting_114 : pp_chk mi_X9_setting 147 114 (pp_cnt mi_X9_setting 114) sg_X9_setting_114 = true := by decide +kernel
def sg_X9_setting_147 : pp_Seg := [(.iconst 0, .inr (.inr (.int 0, 0)))]
theorem sk_X9_setting_147 : pp_chk mi_X9_setting 148 147 (pp_cnt mi_X9_setting 147) sg_X9_setting_147 = true := by decide +kernel
def sg_X9_setting_148 : pp_Seg := [(.ireturn, .inl (0, 0, []))]
theorem sk_X9_setting_148 : pp_chk mi_X9_setting 149 148 (pp_cnt mi_X9_setting 148) sg_X9_setting_148 = true := by decide +kernel
def sg_X9_setting_149 : pp_Seg := [(.aload_n 0, .inl (0, 0, [])), (.ldc 211, .inr (.inr (.ref 9, 23))), (.invokevirtual 172, .inr (.inl (mi_X9_isWord, 9, 1321, [0, 0]))), (.ifCond .eq 42, .inl (197, 0, [])), (.aload_n 0, .inl (0, 0, [])), (.iconst 4, .inr (.inr (.int 4, 0))), (.invokevirtual 198, .inr (.inl (mi_X9_once, 9, 1359, [0, 0]))), (.ifCond .eq 32, .inl (195, 0, [])), (.aload_n 0, .inl (0, 0, [])), (.bipush 9, .inr (.inr (.int 9, 0))), (.iconst 0, .inr (.inr (.int 0, 0))), (.sipush 9999, .inr (.inr (.int 9999, 0))), (.invokevirtual 201, .inr (.inl (mi_X9_sets, 9, 1366, [0, 0, 0, 0]))), (.ifCond .eq 19, .inl (195, 0, [])), (.aload_n 0, .inl (0, 0, [])), (.bipush 10, .inr (.inr (.int 10, 0))), (.iconst 0, .inr (.inr (.int 0, 0))), (.bipush 100, .inr (.inr (.int 100, 0))), (.invokevirtual 201, .inr (.inl (mi_X9_sets, 9, 1366, [0, 0, 0, 0]))), (.ifCond .eq 7, .inl (195, 0, [])), (.iconst 1, .inr (.inr (.int 1, 0))), (.goto 4, .inl (196, 0, []))]
theorem sk_X9_setting_149 : pp_chk mi_X9_setting 195 149 (pp_cnt mi_X9_setting 149) sg_X9_setting_149 = true := by decide +kernel
def sg_X9_setting_195 : pp_Seg := [(.iconst 0, .inr (.inr (.int 0, 0)))]
theorem sk_X9_setting_195 : pp_chk mi_X9_setting 196 195 (pp_cnt mi_X9_setting 195) sg_X9_setting_195 = true := by decide +kernel
def sg_X9_setting_196 : pp_Seg := [(.ireturn, .inl (0, 0, []))]
theorem sk_X9_setting_196 : pp_chk mi_X9_setting 197 196 (pp_cnt mi_X9_setting 196) sg_X9_setting_196 = true := by decide +kernel
def sg_X9_setting_197 : pp_Seg := [(.aload_n 0, .inl (0, 0, [])), (.ldc 213, .inr (.inr (.ref 10, 24))), (.invokevirtual 172, .inr (.inl (mi_X9_isWord, 9, 1321, [0, 0]))), (.ifCond .eq 42, .inl (245, 0, [])), (.aload_n 0, .inl (0, 0, [])), (.iconst 5, .inr (.inr (.int 5, 0))), (.invokevirtual 198, .inr (.inl (mi_X9_once, 9, 1359, [0, 0]))), (.ifCond .eq 32, .inl (243, 0, [])), (.aload_n 0, .inl (0, 0, [])), (.bipush 11, .inr (.inr (.int 11, 0))), (.iconst 0, .inr (.inr (.int 0, 0))), (.sipush 9999, .inr (.inr (.int 9999, 0))), (.invokevirtual 201, .inr (.inl (mi_X9_sets, 9, 1366, [0, 0, 0, 0]))), (.ifCond .eq 19, .inl (243, 0, [])), (.aload_n 0, .inl (0, 0, [])), (.bipush 12, .inr (.inr (.int 12, 0))), (.iconst 0, .inr (.inr (.int 0, 0))), (.bipush 100, .inr (.inr (.int 100, 0))), (.invokevirtual 201, .inr (.inl (mi_X9_sets, 9, 1366, [0, 0, 0, 0]))), (.ifCond .eq 7, .inl (243, 0, [])), (.iconst 1, .inr (.inr (.int 1, 0))), (.goto 4, .inl (244, 0, []))]
theorem sk_X9_setting_197 : pp_chk mi_X9_setting 243 197 (pp_cnt mi_X9_setting 197) sg_X9_setting_197 = true := by decide +kernel
def sg_X9_setting_243 : pp_Seg := [(.iconst 0, .inr (.inr (.int 0, 0)))]
theorem sk_X9_setting_243 : pp_chk mi_X9_setting 244 243 (pp_cnt mi_X9_setting 243) sg_X9_setting_243 = true := by decide +kernel
def sg_X9_setting_244 : pp_Seg := [(.ireturn, .inl (0, 0, []))]
theorem sk_X9_setting_244 : pp_chk mi_X9_setting 245 244 (pp_cnt mi_X9_setting 244) sg_X9_setting_244 = true := by decide +kernel
def sg_X9_setting_245 : pp_Seg := [(.aload_n 0, .inl (0, 0, [])), (.ldc 215, .inr (.inr (.ref 11, 25))), (.invokevirtual 172, .inr (.inl (mi_X9_isWord, 9, 1321, [0, 0]))), (.ifCond .eq 31, .inl (282, 0, [])), (.aload_n 0, .inl (0, 0, [])), (.bipush 6, .inr (.inr (.int 6, 0))), (.invokevirtual 198, .inr (.inl (mi_X9_once, 9, 1359, [0, 0]))), (.ifCond .eq 20, .inl (280, 0, [])), (.aload_n 0, .inl (0, 0, [])), (.bipush 13, .inr (.inr (.int 13, 0))), (.iconst 0, .inr (.inr (.int 0, 0))), (.sipush 400, .inr (.inr (.int 400, 0))), (.invokevirtual 201, .inr (.inl (mi_X9_sets, 9, 1366, [0, 0, 0, 0]))), (.ifCond .eq 7, .inl (280, 0, [])), (.iconst 1, .inr (.inr (.int 1, 0))), (.goto 4, .inl (281, 0, []))]
theorem sk_X9_setting_245 : pp_chk mi_X9_setting 280 245 (pp_cnt mi_X9_setting 245) sg_X9_setting_245 = true := by decide +kernel
def sg_X9_setting_280 : pp_Seg := [(.iconst 0, .inr (.inr (.int 0, 0)))]
theorem sk_X9_setting_280 : pp_chk mi_X9_setting 281 280 (pp_cnt mi_X9_setting 280) sg_X9_setting_280 = true := by decide +kernel
def sg_X9_setting_281 : pp_Seg := [(.ireturn, .inl (0, 0, []))]
theorem sk_X9_setting_281 : pp_chk mi_X9_setting 282 281 (pp_cnt mi_X9_setting 281) sg_X9_setting_281 = true := by decide +kernel
def sg_X9_setting_282 : pp_Seg := [(.aload_n 0, .inl (0, 0, [])), (.ldc 217, .inr (.inr (.ref 12, 26))), (.invokevirtual 172, .inr (.inl (mi_X9_isWord, 9, 1321, [0, 0]))), (.ifCond .ne 9, .inl (297, 0, [])), (.aload_n 0, .inl (0, 0, [])), (.iconst 1, .inr (.inr (.int 1, 0))), (.invokevirtual 144, .inr (.inl (mi_X9_fails, 9, 1335, [0, 0]))), (.ireturn, .inl (0, 0, []))]
theorem sk_X9_setting_282 : pp_chk mi_X9_setting 297 282 (pp_cnt mi_X9_setting 282) sg_X9_setting_282 = true := by decide +kernel
def sg_X9_setting_297 : pp_Seg := [(.aload_n 0, .inl (0, 0, [])), (.getfield 29, .inl (9, 7, [2, 1191])), (.iconst 1, .inr (.inr (.int 1, 0))), (.iconst 0, .inr (.inr (.int 0, 0))), (.iastore, .inl (0, 0, [])), (.aload_n 0, .inl (0, 0, [])), (.iconst 0, .inr (.inr (.int 0, 0))), (.putfield 219, .inl (9, 20, [0, 1204])), (.aload_n 0, .inl (0, 0, [])), (.bipush 7, .inr (.inr (.int 7, 0))), (.invokevirtual 198, .inr (.inl (mi_X9_once, 9, 1359, [0, 0]))), (.ifCond .eq 14, .inl (329, 0, [])), (.aload_n 0, .inl (0, 0, [])), (.invokevirtual 222, .inr (.inl (mi_X9_sum, 9, 1377, [0]))), (.ifCond .eq 7, .inl (329, 0, [])), (.iconst 1, .inr (.inr (.int 1, 0))), (.goto 4, .inl (330, 0, []))]
theorem sk_X9_setting_297 : pp_chk mi_X9_setting 329 297 (pp_cnt mi_X9_setting 297) sg_X9_setting_297 = true := by decide +kernel
def sg_X9_setting_329 : pp_Seg := [(.iconst 0, .inr (.inr (.int 0, 0)))]
theorem sk_X9_setting_329 : pp_chk mi_X9_setting 330 329 (pp_cnt mi_X9_setting 329) sg_X9_setting_329 = true := by decide +kernel
def sg_X9_setting_330 : pp_Seg := [(.ireturn, .inl (0, 0, []))]
theorem sk_X9_setting_330 : pp_chk mi_X9_setting 331 330 (pp_cnt mi_X9_setting 330) sg_X9_setting_330 = true := by decide +kernel
def sg_X9_statement_0 : pp_Seg := [(.aload_n 0, .inl (0, 0, [])), (.ldc 170, .inr (.inr (.ref 1, 15))), (.invokevirtual 172, .inr (.inl (mi_X9_isWord, 9, 1321, [0, 0]))), (.ifCond .eq 49, .inl (55, 0, [])), (.aload_n 0, .inl (0, 0, [])), (.iconst 0, .inr (.inr (.int 0, 0))), (.bipush 8, .inr (.inr (.int 8, 0))), (.invokevirtual 176, .inr (.inl (mi_X9_oneMore, 9, 1327, [0, 0, 0]))), (.ifCond .eq 37, .inl (53, 0, [])), (.aload_n 0, .inl (0, 0, [])), (.aload_n 0, .inl (0, 0, [])), (.getfield 17, .inl (9, 3, [2, 1187])), (.aload_n 0, .inl (0, 0, [])), (.getfield 13, .inl (9, 2, [2, 1186])), (.bipush 14, .inr (.inr (.int 14, 0))), (.iaload, .inl (0, 0, [])), (.iconst 0, .inr (.inr (.int 0, 0))), (.sipush 9999, .inr (.inr (.int 9999, 0))), (.invokevirtual 179, .inr (.inl (mi_X9_lays, 9, 1339, [0, 0, 0, 0, 0]))), (.ifCond .eq 15, .inl (53, 0, [])), (.aload_n 0, .inl (0, 0, [])), (.iconst 0, .inr (.inr (.int 0, 0))), (.invokevirtual 183, .inr (.inl (mi_X9_counted, 9, 1347, [0, 0]))), (.ifCond .eq 7, .inl (53, 0, [])), (.iconst 1, .inr (.inr (.int 1, 0))), (.goto 4, .inl (54, 0, []))]
theorem sk_X9_statement_0 : pp_chk mi_X9_statement 53 0 (pp_cnt mi_X9_statement 0) sg_X9_statement_0 = true := by decide +kernel
def sg_X9_statement_53 : pp_Seg := [(.iconst 0, .inr (.inr (.int 0, 0)))]
theorem sk_X9_statement_53 : pp_chk mi_X9_statement 54 53 (pp_cnt mi_X9_statement 53) sg_X9_statement_53 = true := by decide +kernel
def sg_X9_statement_54 : pp_Seg := [(.ireturn, .inl (0, 0, []))]
theorem sk_X9_statement_54 : pp_chk mi_X9_statement 55 54 (pp_cnt mi_X9_statement 54) sg_X9_statement_54 = true := by decide +kernel
def sg_X9_statement_55 : pp_Seg := [(.aload_n 0, .inl (0, 0, [])), (.ldc 186, .inr (.inr (.ref 2, 16))), (.invokevirtual 172, .inr (.inl (mi_X9_isWord, 9, 1321, [0, 0]))), (.ifCond .eq 70, .inl (131, 0, [])), (.iconst 2, .inr (.inr (.int 2, 0))), (.aload_n 0, .inl (0, 0, [])), (.getfield 13, .inl (9, 2, [2, 1186])), (.bipush 15, .inr (.inr (.int 15, 0))), (.iaload, .inl (0, 0, [])), (.imul, .inl (0, 0, [])), (.istore_n 1, .inl (0, 0, [])), (.aload_n 0, .inl (0, 0, [])), (.iconst 1, .inr (.inr (.int 1, 0))), (.iconst 4, .inr (.inr (.int 4, 0))), (.invokevirtual 176, .inr (.inl (mi_X9_oneMore, 9, 1327, [0, 0, 0]))), (.ifCond .eq 49, .inl (129, 0, [])), (.aload_n 0, .inl (0, 0, [])), (.aload_n 0, .inl (0, 0, [])), (.getfield 20, .inl (9, 4, [2, 1188])), (.iload_n 1, .inl (0, 0, [])), (.iconst 0, .inr (.inr (.int 0, 0))), (.sipush 9999, .inr (.inr (.int 9999, 0))), (.invokevirtual 179, .inr (.inl (mi_X9_lays, 9, 1339, [0, 0, 0, 0, 0]))), (.ifCond .eq 33, .inl (129, 0, [])), (.aload_n 0, .inl (0, 0, [])), (.aload_n 0, .inl (0, 0, [])), (.getfield 20, .inl (9, 4, [2, 1188])), (.iload_n 1, .inl (0, 0, [])), (.iconst 1, .inr (.inr (.int 1, 0))), (.iadd, .inl (0, 0, [])), (.iconst 1, .inr (.inr (.int 1, 0))), (.sipush 9999, .inr (.inr (.int 9999, 0))), (.invokevirtual 179, .inr (.inl (mi_X9_lays, 9, 1339, [0, 0, 0, 0, 0]))), (.ifCond .eq 15, .inl (129, 0, [])), (.aload_n 0, .inl (0, 0, [])), (.iconst 1, .inr (.inr (.int 1, 0))), (.invokevirtual 183, .inr (.inl (mi_X9_counted, 9, 1347, [0, 0]))), (.ifCond .eq 7, .inl (129, 0, [])), (.iconst 1, .inr (.inr (.int 1, 0))), (.goto 4, .inl (130, 0, []))]
theorem sk_X9_statement_55 : pp_chk mi_X9_statement 129 55 (pp_cnt mi_X9_statement 55) sg_X9_statement_55 = true := by decide +kernel
def sg_X9_statement_129 : pp_Seg := [(.iconst 0, .inr (.inr (.int 0, 0)))]
theorem sk_X9_statement_129 : pp_chk mi_X9_statement 130 129 (pp_cnt mi_X9_statement 129) sg_X9_statement_129 = true := by decide +kernel
def sg_X9_statement_130 : pp_Seg := [(.ireturn, .inl (0, 0, []))]
theorem sk_X9_statement_130 : pp_chk mi_X9_statement 131 130 (pp_cnt mi_X9_statement 130) sg_X9_statement_130 = true := by decide +kernel
def sg_X9_statement_131 : pp_Seg := [(.aload_n 0, .inl (0, 0, [])), (.ldc 188, .inr (.inr (.ref 3, 17))), (.invokevirtual 172, .inr (.inl (mi_X9_isWord, 9, 1321, [0, 0]))), (.ifCond .eq 77, .inl (214, 0, [])), (.iconst 2, .inr (.inr (.int 2, 0))), (.aload_n 0, .inl (0, 0, [])), (.getfield 13, .inl (9, 2, [2, 1186])), (.bipush 16, .inr (.inr (.int 16, 0))), (.iaload, .inl (0, 0, [])), (.imul, .inl (0, 0, [])), (.istore_n 1, .inl (0, 0, [])), (.aload_n 0, .inl (0, 0, [])), (.iconst 2, .inr (.inr (.int 2, 0))), (.bipush 16, .inr (.inr (.int 16, 0))), (.invokevirtual 176, .inr (.inl (mi_X9_oneMore, 9, 1327, [0, 0, 0]))), (.ifCond .eq 55, .inl (212, 0, [])), (.aload_n 0, .inl (0, 0, [])), (.aload_n 0, .inl (0, 0, [])), (.getfield 23, .inl (9, 5, [2, 1189])), (.iload_n 1, .inl (0, 0, [])), (.iconst 0, .inr (.inr (.int 0, 0))), (.aload_n 0, .inl (0, 0, [])), (.getfield 13, .inl (9, 2, [2, 1186])), (.bipush 14, .inr (.inr (.int 14, 0))), (.iaload, .inl (0, 0, [])), (.iconst 1, .inr (.inr (.int 1, 0))), (.isub, .inl (0, 0, [])), (.invokevirtual 179, .inr (.inl (mi_X9_lays, 9, 1339, [0, 0, 0, 0, 0]))), (.ifCond .eq 33, .inl (212, 0, [])), (.aload_n 0, .inl (0, 0, [])), (.aload_n 0, .inl (0, 0, [])), (.getfield 23, .inl (9, 5, [2, 1189])), (.iload_n 1, .inl (0, 0, [])), (.iconst 1, .inr (.inr (.int 1, 0))), (.iadd, .inl (0, 0, [])), (.iconst 1, .inr (.inr (.int 1, 0))), (.sipush 9999, .inr (.inr (.int 9999, 0))), (.invokevirtual 179, .inr (.inl (mi_X9_lays, 9, 1339, [0, 0, 0, 0, 0]))), (.ifCond .eq 15, .inl (212, 0, [])), (.aload_n 0, .inl (0, 0, [])), (.iconst 2, .inr (.inr (.int 2, 0))), (.invokevirtual 183, .inr (.inl (mi_X9_counted, 9, 1347, [0, 0]))), (.ifCond .eq 7, .inl (212, 0, [])), (.iconst 1, .inr (.inr (.int 1, 0))), (.goto 4, .inl (213, 0, []))]
theorem sk_X9_statement_131 : pp_chk mi_X9_statement 212 131 (pp_cnt mi_X9_statement 131) sg_X9_statement_131 = true := by decide +kernel
def sg_X9_statement_212 : pp_Seg := [(.iconst 0, .inr (.inr (.int 0, 0)))]
theorem sk_X9_statement_212 : pp_chk mi_X9_statement 213 212 (pp_cnt mi_X9_statement 212) sg_X9_statement_212 = true := by decide +kernel
def sg_X9_statement_213 : pp_Seg := [(.ireturn, .inl (0, 0, []))]
theorem sk_X9_statement_213 : pp_chk mi_X9_statement 214 213 (pp_cnt mi_X9_statement 213) sg_X9_statement_213 = true := by decide +kernel
def sg_X9_statement_214 : pp_Seg := [(.aload_n 0, .inl (0, 0, [])), (.ldc 190, .inr (.inr (.ref 4, 18))), (.invokevirtual 172, .inr (.inl (mi_X9_isWord, 9, 1321, [0, 0]))), (.ifCond .eq 48, .inl (268, 0, [])), (.aload_n 0, .inl (0, 0, [])), (.iconst 3, .inr (.inr (.int 3, 0))), (.bipush 6, .inr (.inr (.int 6, 0))), (.invokevirtual 176, .inr (.inl (mi_X9_oneMore, 9, 1327, [0, 0, 0]))), (.ifCond .eq 36, .inl (266, 0, [])), (.aload_n 0, .inl (0, 0, [])), (.aload_n 0, .inl (0, 0, [])), (.getfield 26, .inl (9, 6, [2, 1190])), (.aload_n 0, .inl (0, 0, [])), (.getfield 13, .inl (9, 2, [2, 1186])), (.bipush 17, .inr (.inr (.int 17, 0))), (.iaload, .inl (0, 0, [])), (.iconst 0, .inr (.inr (.int 0, 0))), (.bipush 100, .inr (.inr (.int 100, 0))), (.invokevirtual 179, .inr (.inl (mi_X9_lays, 9, 1339, [0, 0, 0, 0, 0]))), (.ifCond .eq 15, .inl (266, 0, [])), (.aload_n 0, .inl (0, 0, [])), (.iconst 3, .inr (.inr (.int 3, 0))), (.invokevirtual 183, .inr (.inl (mi_X9_counted, 9, 1347, [0, 0]))), (.ifCond .eq 7, .inl (266, 0, [])), (.iconst 1, .inr (.inr (.int 1, 0))), (.goto 4, .inl (267, 0, []))]
theorem sk_X9_statement_214 : pp_chk mi_X9_statement 266 214 (pp_cnt mi_X9_statement 214) sg_X9_statement_214 = true := by decide +kernel
def sg_X9_statement_266 : pp_Seg := [(.iconst 0, .inr (.inr (.int 0, 0)))]
theorem sk_X9_statement_266 : pp_chk mi_X9_statement 267 266 (pp_cnt mi_X9_statement 266) sg_X9_statement_266 = true := by decide +kernel
def sg_X9_statement_267 : pp_Seg := [(.ireturn, .inl (0, 0, []))]
theorem sk_X9_statement_267 : pp_chk mi_X9_statement 268 267 (pp_cnt mi_X9_statement 267) sg_X9_statement_267 = true := by decide +kernel
def sg_X9_statement_268 : pp_Seg := [(.aload_n 0, .inl (0, 0, [])), (.invokevirtual 192, .inr (.inl (mi_X9_setting, 9, 1354, [0]))), (.ireturn, .inl (0, 0, []))]
theorem sk_X9_statement_268 : pp_chk mi_X9_statement 273 268 (pp_cnt mi_X9_statement 268) sg_X9_statement_268 = true := by decide +kernel
def sg_X9_joined_0 : pp_Seg := [(.iload_n 0, .inl (0, 0, [])), (.tableswitch 39 (-3) (-1) #[35, 31, 27], .inl (40, 27, [36, 32, 28]))]
theorem sk_X9_joined_0 : pp_chk mi_X9_joined 28 0 (pp_cnt mi_X9_joined 0) sg_X9_joined_0 = true := by decide +kernel
def sg_X9_joined_28 : pp_Seg := [(.iload_n 1, .inl (0, 0, [])), (.iload_n 2, .inl (0, 0, [])), (.iadd, .inl (0, 0, [])), (.ireturn, .inl (0, 0, []))]
theorem sk_X9_joined_28 : pp_chk mi_X9_joined 32 28 (pp_cnt mi_X9_joined 28) sg_X9_joined_28 = true := by decide +kernel
def sg_X9_joined_32 : pp_Seg := [(.iload_n 1, .inl (0, 0, [])), (.iload_n 2, .inl (0, 0, [])), (.isub, .inl (0, 0, [])), (.ireturn, .inl (0, 0, []))]
theorem sk_X9_joined_32 : pp_chk mi_X9_joined 36 32 (pp_cnt mi_X9_joined 32) sg_X9_joined_32 = true := by decide +kernel
def sg_X9_joined_36 : pp_Seg := [(.iload_n 1, .inl (0, 0, [])), (.iload_n 2, .inl (0, 0, [])), (.imul, .inl (0, 0, [])), (.ireturn, .inl (0, 0, []))]
theorem sk_X9_joined_36 : pp_chk mi_X9_joined 40 36 (pp_cnt mi_X9_joined 36) sg_X9_joined_36 = true := by decide +kernel
def sg_X9_joined_40 : pp_Seg := [(.iload_n 2, .inl (0, 0, [])), (.ifCond .ne 7, .inl (48, 0, [])), (.iconst 0, .inr (.inr (.int 0, 0))), (.goto 6, .inl (51, 0, []))]
theorem sk_X9_joined_40 : pp_chk mi_X9_joined 48 40 (pp_cnt mi_X9_joined 40) sg_X9_joined_40 = true := by decide +kernel
def sg_X9_joined_48 : pp_Seg := [(.iload_n 1, .inl (0, 0, [])), (.iload_n 2, .inl (0, 0, [])), (.idiv, .inl (0, 0, []))]
theorem sk_X9_joined_48 : pp_chk mi_X9_joined 51 48 (pp_cnt mi_X9_joined 48) sg_X9_joined_48 = true := by decide +kernel
def sg_X9_joined_51 : pp_Seg := [(.ireturn, .inl (0, 0, []))]
theorem sk_X9_joined_51 : pp_chk mi_X9_joined 52 51 (pp_cnt mi_X9_joined 51) sg_X9_joined_51 = true := by decide +kernel
def sg_X9_worth_0 : pp_Seg := [(.iconst 0, .inr (.inr (.int 0, 0))), (.istore_n 1, .inl (0, 0, [])), (.iconst 0, .inr (.inr (.int 0, 0))), (.istore_n 2, .inl (0, 0, []))]
theorem sk_X9_worth_0 : pp_chk mi_X9_worth 4 0 (pp_cnt mi_X9_worth 0) sg_X9_worth_0 = true := by decide +kernel
def sg_X9_worth_4 : pp_Seg := [(.iload_n 2, .inl (0, 0, [])), (.aload_n 0, .inl (0, 0, [])), (.getfield 29, .inl (9, 7, [2, 1191])), (.iconst 0, .inr (.inr (.int 0, 0))), (.iaload, .inl (0, 0, [])), (.if_icmp .ge 80, .inl (91, 0, [])), (.aload_n 0, .inl (0, 0, [])), (.getfield 32, .inl (9, 8, [2, 1192])), (.iload_n 2, .inl (0, 0, [])), (.iaload, .inl (0, 0, [])), (.istore_n 3, .inl (0, 0, [])), (.iload_n 3, .inl (0, 0, [])), (.ifCond .le 34, .inl (56, 0, [])), (.aload_n 0, .inl (0, 0, [])), (.getfield 43, .inl (9, 21, [2, 1205])), (.iload_n 1, .inl (0, 0, [])), (.iload_n 3, .inl (0, 0, [])), (.bipush 100, .inr (.inr (.int 100, 0))), (.if_icmp .lt 10, .inl (43, 0, [])), (.iload_n 3, .inl (0, 0, [])), (.bipush 100, .inr (.inr (.int 100, 0))), (.isub, .inl (0, 0, [])), (.goto 9, .inl (49, 0, []))]
theorem sk_X9_worth_4 : pp_chk mi_X9_worth 43 4 (pp_cnt mi_X9_worth 4) sg_X9_worth_4 = true := by decide +kernel
def sg_X9_worth_43 : pp_Seg := [(.aload_n 0, .inl (0, 0, [])), (.getfield 46, .inl (9, 22, [2, 1206])), (.iload_n 3, .inl (0, 0, [])), (.iaload, .inl (0, 0, []))]
theorem sk_X9_worth_43 : pp_chk mi_X9_worth 49 43 (pp_cnt mi_X9_worth 43) sg_X9_worth_43 = true := by decide +kernel
def sg_X9_worth_49 : pp_Seg := [(.iastore, .inl (0, 0, [])), (.iinc 1 1, .inr (.inr (.int 1, 0))), (.goto 32, .inl (85, 0, []))]
theorem sk_X9_worth_49 : pp_chk mi_X9_worth 56 49 (pp_cnt mi_X9_worth 49) sg_X9_worth_49 = true := by decide +kernel
def sg_X9_worth_56 : pp_Seg := [(.iinc 1 (-1), .inr (.inr (.int (-1), 0))), (.aload_n 0, .inl (0, 0, [])), (.getfield 43, .inl (9, 21, [2, 1205])), (.iload_n 1, .inl (0, 0, [])), (.iconst 1, .inr (.inr (.int 1, 0))), (.isub, .inl (0, 0, [])), (.iload_n 3, .inl (0, 0, [])), (.aload_n 0, .inl (0, 0, [])), (.getfield 43, .inl (9, 21, [2, 1205])), (.iload_n 1, .inl (0, 0, [])), (.iconst 1, .inr (.inr (.int 1, 0))), (.isub, .inl (0, 0, [])), (.iaload, .inl (0, 0, [])), (.aload_n 0, .inl (0, 0, [])), (.getfield 43, .inl (9, 21, [2, 1205])), (.iload_n 1, .inl (0, 0, [])), (.iaload, .inl (0, 0, [])), (.invokestatic 239, .inr (.inl (mi_X9_joined, 0, 1487, [0, 0, 0]))), (.iastore, .inl (0, 0, []))]
theorem sk_X9_worth_56 : pp_chk mi_X9_worth 85 56 (pp_cnt mi_X9_worth 56) sg_X9_worth_56 = true := by decide +kernel
def sg_X9_worth_85 : pp_Seg := [(.iinc 2 1, .inr (.inr (.int 1, 0))), (.goto (-84), .inl (4, 0, []))]
theorem sk_X9_worth_85 : pp_chk mi_X9_worth 91 85 (pp_cnt mi_X9_worth 85) sg_X9_worth_85 = true := by decide +kernel
def sg_X9_worth_91 : pp_Seg := [(.aload_n 0, .inl (0, 0, [])), (.getfield 43, .inl (9, 21, [2, 1205])), (.iconst 0, .inr (.inr (.int 0, 0))), (.iaload, .inl (0, 0, [])), (.ifCond .ge 7, .inl (104, 0, [])), (.iconst 0, .inr (.inr (.int 0, 0))), (.goto 25, .inl (126, 0, []))]
theorem sk_X9_worth_91 : pp_chk mi_X9_worth 104 91 (pp_cnt mi_X9_worth 91) sg_X9_worth_91 = true := by decide +kernel
def sg_X9_worth_104 : pp_Seg := [(.aload_n 0, .inl (0, 0, [])), (.getfield 43, .inl (9, 21, [2, 1205])), (.iconst 0, .inr (.inr (.int 0, 0))), (.iaload, .inl (0, 0, [])), (.ldc 243, .inr (.inr (.int 1000000, 1490))), (.if_icmp .le 8, .inl (120, 0, [])), (.ldc 243, .inr (.inr (.int 1000000, 1490))), (.goto 9, .inl (126, 0, []))]
theorem sk_X9_worth_104 : pp_chk mi_X9_worth 120 104 (pp_cnt mi_X9_worth 104) sg_X9_worth_104 = true := by decide +kernel
def sg_X9_worth_120 : pp_Seg := [(.aload_n 0, .inl (0, 0, [])), (.getfield 43, .inl (9, 21, [2, 1205])), (.iconst 0, .inr (.inr (.int 0, 0))), (.iaload, .inl (0, 0, []))]
theorem sk_X9_worth_120 : pp_chk mi_X9_worth 126 120 (pp_cnt mi_X9_worth 120) sg_X9_worth_120 = true := by decide +kernel
def sg_X9_worth_126 : pp_Seg := [(.ireturn, .inl (0, 0, []))]
theorem sk_X9_worth_126 : pp_chk mi_X9_worth 127 126 (pp_cnt mi_X9_worth 126) sg_X9_worth_126 = true := by decide +kernel
def sg_X9_parse_0 : pp_Seg := [(.aload_n 0, .inl (0, 0, [])), (.iconst 0, .inr (.inr (.int 0, 0))), (.putfield 80, .inl (9, 0, [0, 1184])), (.aload_n 0, .inl (0, 0, [])), (.iload_n 1, .inl (0, 0, [])), (.i2l, .inl (0, 0, [])), (.lconst 0, .inr (.inr (.long 0, 0))), (.aload_n 0, .inl (0, 0, [])), (.getfield 91, .inl (9, 10, [0, 1194])), (.i2l, .inl (0, 0, [])), (.invokestatic 121, .inr (.inl (mi_X9_within, 0, 1294, [0, 0, 0]))), (.ifCond .ne 7, .inl (24, 0, [])), (.iconst 1, .inr (.inr (.int 1, 0))), (.goto 4, .inl (25, 0, []))]
theorem sk_X9_parse_0 : pp_chk mi_X9_parse 24 0 (pp_cnt mi_X9_parse 0) sg_X9_parse_0 = true := by decide +kernel
def sg_X9_parse_24 : pp_Seg := [(.iconst 0, .inr (.inr (.int 0, 0)))]
theorem sk_X9_parse_24 : pp_chk mi_X9_parse 25 24 (pp_cnt mi_X9_parse 24) sg_X9_parse_24 = true := by decide +kernel
def sg_X9_parse_25 : pp_Seg := [(.iconst 1, .inr (.inr (.int 1, 0))), (.invokevirtual 244, .inr (.inl (mi_X9_throwsIf, 9, 1297, [0, 0, 0]))), (.ifCond .eq 5, .inl (34, 0, [])), (.iconst 0, .inr (.inr (.int 0, 0))), (.ireturn, .inl (0, 0, []))]
theorem sk_X9_parse_25 : pp_chk mi_X9_parse 34 25 (pp_cnt mi_X9_parse 25) sg_X9_parse_25 = true := by decide +kernel
def sg_X9_parse_34 : pp_Seg := [(.aload_n 0, .inl (0, 0, [])), (.iload_n 1, .inl (0, 0, [])), (.putfield 98, .inl (9, 11, [0, 1195])), (.aload_n 0, .inl (0, 0, [])), (.iconst 0, .inr (.inr (.int 0, 0))), (.putfield 91, .inl (9, 10, [0, 1194])), (.aload_n 0, .inl (0, 0, [])), (.iconst 0, .inr (.inr (.int 0, 0))), (.putfield 101, .inl (9, 13, [0, 1197])), (.aload_n 0, .inl (0, 0, [])), (.iconst 0, .inr (.inr (.int 0, 0))), (.putfield 141, .inl (9, 16, [0, 1200])), (.aload_n 0, .inl (0, 0, [])), (.iconst (-1), .inr (.inr (.int (-1), 0))), (.putfield 39, .inl (9, 17, [0, 1201])), (.aload_n 0, .inl (0, 0, [])), (.iconst 0, .inr (.inr (.int 0, 0))), (.putfield 153, .inl (9, 19, [0, 1203])), (.aload_n 0, .inl (0, 0, [])), (.invokevirtual 71, .inr (.inl (mi_X9_clearDraft, 9, 1165, [0]))), (.aload_n 0, .inl (0, 0, [])), (.invokevirtual 150, .inr (.inl (mi_X9_advance, 9, 1301, [0]))), (.iconst 1, .inr (.inr (.int 1, 0))), (.istore_n 2, .inl (0, 0, []))]
theorem sk_X9_parse_34 : pp_chk mi_X9_parse 74 34 (pp_cnt mi_X9_parse 34) sg_X9_parse_34 = true := by decide +kernel
def sg_X9_parse_74 : pp_Seg := [(.iload_n 2, .inl (0, 0, [])), (.ifCond .eq 35, .inl (110, 0, [])), (.aload_n 0, .inl (0, 0, [])), (.getfield 114, .inl (9, 14, [0, 1198])), (.ifCond .eq 28, .inl (110, 0, [])), (.aload_n 0, .inl (0, 0, [])), (.invokevirtual 248, .inr (.inl (mi_X9_statement, 9, 1316, [0]))), (.ifCond .eq 16, .inl (105, 0, [])), (.aload_n 0, .inl (0, 0, [])), (.bipush 59, .inr (.inr (.int 59, 0))), (.invokevirtual 231, .inr (.inl (mi_X9_closes, 9, 1393, [0, 0]))), (.ifCond .eq 7, .inl (105, 0, [])), (.iconst 1, .inr (.inr (.int 1, 0))), (.goto 4, .inl (106, 0, []))]
theorem sk_X9_parse_74 : pp_chk mi_X9_parse 105 74 (pp_cnt mi_X9_parse 74) sg_X9_parse_74 = true := by decide +kernel
def sg_X9_parse_105 : pp_Seg := [(.iconst 0, .inr (.inr (.int 0, 0)))]
theorem sk_X9_parse_105 : pp_chk mi_X9_parse 106 105 (pp_cnt mi_X9_parse 105) sg_X9_parse_105 = true := by decide +kernel
def sg_X9_parse_106 : pp_Seg := [(.istore_n 2, .inl (0, 0, [])), (.goto (-33), .inl (74, 0, []))]
theorem sk_X9_parse_106 : pp_chk mi_X9_parse 110 106 (pp_cnt mi_X9_parse 106) sg_X9_parse_106 = true := by decide +kernel
def sg_X9_parse_110 : pp_Seg := [(.iload_n 2, .inl (0, 0, [])), (.ifCond .ne 8, .inl (119, 0, [])), (.aload_n 0, .inl (0, 0, [])), (.getfield 141, .inl (9, 16, [0, 1200])), (.ireturn, .inl (0, 0, []))]
theorem sk_X9_parse_110 : pp_chk mi_X9_parse 119 110 (pp_cnt mi_X9_parse 110) sg_X9_parse_110 = true := by decide +kernel
def sg_X9_parse_119 : pp_Seg := [(.aload_n 0, .inl (0, 0, [])), (.invokevirtual 74, .inr (.inl (mi_X9_liftsAll, 9, 1173, [0]))), (.aload_n 0, .inl (0, 0, [])), (.invokevirtual 77, .inr (.inl (mi_X9_begins, 9, 1180, [0]))), (.iconst 0, .inr (.inr (.int 0, 0))), (.ireturn, .inl (0, 0, []))]
theorem sk_X9_parse_119 : pp_chk mi_X9_parse 129 119 (pp_cnt mi_X9_parse 119) sg_X9_parse_119 = true := by decide +kernel
def sg_X9_errorPosition_0 : pp_Seg := [(.aload_n 0, .inl (0, 0, [])), (.iconst 0, .inr (.inr (.int 0, 0))), (.putfield 80, .inl (9, 0, [0, 1184])), (.aload_n 0, .inl (0, 0, [])), (.getfield 39, .inl (9, 17, [0, 1201])), (.ireturn, .inl (0, 0, []))]
theorem sk_X9_errorPosition_0 : pp_chk mi_X9_errorPosition 10 0 (pp_cnt mi_X9_errorPosition 0) sg_X9_errorPosition_0 = true := by decide +kernel
def sg_X9_size_0 : pp_Seg := [(.aload_n 0, .inl (0, 0, [])), (.iconst 0, .inr (.inr (.int 0, 0))), (.putfield 80, .inl (9, 0, [0, 1184])), (.aload_n 0, .inl (0, 0, [])), (.iload_n 1, .inl (0, 0, [])), (.i2l, .inl (0, 0, [])), (.lconst 0, .inr (.inr (.long 0, 0))), (.ldc2_w 254, .inr (.inr (.long 3, 1408))), (.invokestatic 121, .inr (.inl (mi_X9_within, 0, 1294, [0, 0, 0]))), (.ifCond .ne 7, .inl (22, 0, [])), (.iconst 1, .inr (.inr (.int 1, 0))), (.goto 4, .inl (23, 0, []))]
theorem sk_X9_size_0 : pp_chk mi_X9_size 22 0 (pp_cnt mi_X9_size 0) sg_X9_size_0 = true := by decide +kernel
def sg_X9_size_22 : pp_Seg := [(.iconst 0, .inr (.inr (.int 0, 0)))]
theorem sk_X9_size_22 : pp_chk mi_X9_size 23 22 (pp_cnt mi_X9_size 22) sg_X9_size_22 = true := by decide +kernel
def sg_X9_size_23 : pp_Seg := [(.iconst 1, .inr (.inr (.int 1, 0))), (.invokevirtual 244, .inr (.inl (mi_X9_throwsIf, 9, 1297, [0, 0, 0]))), (.ifCond .eq 5, .inl (32, 0, [])), (.iconst 0, .inr (.inr (.int 0, 0))), (.ireturn, .inl (0, 0, []))]
theorem sk_X9_size_23 : pp_chk mi_X9_size 32 23 (pp_cnt mi_X9_size 23) sg_X9_size_23 = true := by decide +kernel
def sg_X9_size_32 : pp_Seg := [(.iload_n 1, .inl (0, 0, [])), (.ifCond .ne 14, .inl (47, 0, [])), (.aload_n 0, .inl (0, 0, [])), (.getfield 7, .inl (9, 1, [2, 1185])), (.bipush 7, .inr (.inr (.int 7, 0))), (.laload, .inl (0, 0, [])), (.l2i, .inl (0, 0, [])), (.goto 25, .inl (69, 0, []))]
theorem sk_X9_size_32 : pp_chk mi_X9_size 47 32 (pp_cnt mi_X9_size 32) sg_X9_size_32 = true := by decide +kernel
def sg_X9_size_47 : pp_Seg := [(.iload_n 1, .inl (0, 0, [])), (.iconst 2, .inr (.inr (.int 2, 0))), (.if_icmp .ne 14, .inl (63, 0, [])), (.aload_n 0, .inl (0, 0, [])), (.getfield 7, .inl (9, 1, [2, 1185])), (.bipush 8, .inr (.inr (.int 8, 0))), (.laload, .inl (0, 0, [])), (.l2i, .inl (0, 0, [])), (.goto 9, .inl (69, 0, []))]
theorem sk_X9_size_47 : pp_chk mi_X9_size 63 47 (pp_cnt mi_X9_size 47) sg_X9_size_47 = true := by decide +kernel
def sg_X9_size_63 : pp_Seg := [(.aload_n 0, .inl (0, 0, [])), (.getfield 13, .inl (9, 2, [2, 1186])), (.iload_n 1, .inl (0, 0, [])), (.iaload, .inl (0, 0, []))]
theorem sk_X9_size_63 : pp_chk mi_X9_size 69 63 (pp_cnt mi_X9_size 63) sg_X9_size_63 = true := by decide +kernel
def sg_X9_size_69 : pp_Seg := [(.ireturn, .inl (0, 0, []))]
theorem sk_X9_size_69 : pp_chk mi_X9_size 70 69 (pp_cnt mi_X9_size 69) sg_X9_size_69 = true := by decide +kernel
def sg_X9_today_0 : pp_Seg := [(.aload_n 0, .inl (0, 0, [])), (.iconst 0, .inr (.inr (.int 0, 0))), (.putfield 80, .inl (9, 0, [0, 1184])), (.aload_n 0, .inl (0, 0, [])), (.getfield 7, .inl (9, 1, [2, 1185])), (.iconst 0, .inr (.inr (.int 0, 0))), (.laload, .inl (0, 0, [])), (.l2i, .inl (0, 0, [])), (.ireturn, .inl (0, 0, []))]
theorem sk_X9_today_0 : pp_chk mi_X9_today 13 0 (pp_cnt mi_X9_today 0) sg_X9_today_0 = true := by decide +kernel
def sg_X9_period_0 : pp_Seg := [(.aload_n 0, .inl (0, 0, [])), (.iconst 0, .inr (.inr (.int 0, 0))), (.putfield 80, .inl (9, 0, [0, 1184])), (.aload_n 0, .inl (0, 0, [])), (.getfield 7, .inl (9, 1, [2, 1185])), (.iconst 1, .inr (.inr (.int 1, 0))), (.laload, .inl (0, 0, [])), (.l2i, .inl (0, 0, [])), (.ireturn, .inl (0, 0, []))]
theorem sk_X9_period_0 : pp_chk mi_X9_period 13 0 (pp_cnt mi_X9_period 0) sg_X9_period_0 = true := by decide +kernel
def sg_X9_no_0 : pp_Seg := [(.aload_n 0, .inl (0, 0, [])), (.lload_n 1, .inl (0, 0, [])), (.lconst 0, .inr (.inr (.long 0, 0))), (.lload_n 3, .inl (0, 0, [])), (.lconst 1, .inr (.inr (.long 1, 0))), (.lsub, .inl (0, 0, [])), (.invokestatic 121, .inr (.inl (mi_X9_within, 0, 1294, [0, 0, 0]))), (.ifCond .ne 7, .inl (16, 0, [])), (.iconst 1, .inr (.inr (.int 1, 0))), (.goto 4, .inl (17, 0, []))]
theorem sk_X9_no_0 : pp_chk mi_X9_no 16 0 (pp_cnt mi_X9_no 0) sg_X9_no_0 = true := by decide +kernel
def sg_X9_no_16 : pp_Seg := [(.iconst 0, .inr (.inr (.int 0, 0)))]
theorem sk_X9_no_16 : pp_chk mi_X9_no 17 16 (pp_cnt mi_X9_no 16) sg_X9_no_16 = true := by decide +kernel
def sg_X9_no_17 : pp_Seg := [(.iconst 1, .inr (.inr (.int 1, 0))), (.invokevirtual 244, .inr (.inl (mi_X9_throwsIf, 9, 1297, [0, 0, 0]))), (.ireturn, .inl (0, 0, []))]
theorem sk_X9_no_17 : pp_chk mi_X9_no 22 17 (pp_cnt mi_X9_no 17) sg_X9_no_17 = true := by decide +kernel
def sg_X9_noMember_0 : pp_Seg := [(.aload_n 0, .inl (0, 0, [])), (.iconst 0, .inr (.inr (.int 0, 0))), (.putfield 80, .inl (9, 0, [0, 1184])), (.aload_n 0, .inl (0, 0, [])), (.iload_n 1, .inl (0, 0, [])), (.i2l, .inl (0, 0, [])), (.aload_n 0, .inl (0, 0, [])), (.getfield 7, .inl (9, 1, [2, 1185])), (.bipush 7, .inr (.inr (.int 7, 0))), (.laload, .inl (0, 0, [])), (.invokevirtual 256, .inr (.inl (mi_X9_no, 9, 1425, [0, 0, 0]))), (.ireturn, .inl (0, 0, []))]
theorem sk_X9_noMember_0 : pp_chk mi_X9_noMember 19 0 (pp_cnt mi_X9_noMember 0) sg_X9_noMember_0 = true := by decide +kernel
def sg_X9_noPair_0 : pp_Seg := [(.aload_n 0, .inl (0, 0, [])), (.iconst 0, .inr (.inr (.int 0, 0))), (.putfield 80, .inl (9, 0, [0, 1184])), (.aload_n 0, .inl (0, 0, [])), (.iload_n 1, .inl (0, 0, [])), (.i2l, .inl (0, 0, [])), (.aload_n 0, .inl (0, 0, [])), (.getfield 7, .inl (9, 1, [2, 1185])), (.bipush 8, .inr (.inr (.int 8, 0))), (.laload, .inl (0, 0, [])), (.invokevirtual 256, .inr (.inl (mi_X9_no, 9, 1425, [0, 0, 0]))), (.ifCond .ne 19, .inl (37, 0, [])), (.aload_n 0, .inl (0, 0, [])), (.iload_n 2, .inl (0, 0, [])), (.i2l, .inl (0, 0, [])), (.aload_n 0, .inl (0, 0, [])), (.getfield 13, .inl (9, 2, [2, 1186])), (.iconst 1, .inr (.inr (.int 1, 0))), (.iaload, .inl (0, 0, [])), (.i2l, .inl (0, 0, [])), (.invokevirtual 256, .inr (.inl (mi_X9_no, 9, 1425, [0, 0, 0]))), (.ifCond .eq 7, .inl (41, 0, []))]
theorem sk_X9_noPair_0 : pp_chk mi_X9_noPair 37 0 (pp_cnt mi_X9_noPair 0) sg_X9_noPair_0 = true := by decide +kernel
def sg_X9_noPair_37 : pp_Seg := [(.iconst 1, .inr (.inr (.int 1, 0))), (.goto 4, .inl (42, 0, []))]
theorem sk_X9_noPair_37 : pp_chk mi_X9_noPair 41 37 (pp_cnt mi_X9_noPair 37) sg_X9_noPair_37 = true := by decide +kernel
def sg_X9_noPair_41 : pp_Seg := [(.iconst 0, .inr (.inr (.int 0, 0)))]
theorem sk_X9_noPair_41 : pp_chk mi_X9_noPair 42 41 (pp_cnt mi_X9_noPair 41) sg_X9_noPair_41 = true := by decide +kernel
def sg_X9_noPair_42 : pp_Seg := [(.ireturn, .inl (0, 0, []))]
theorem sk_X9_noPair_42 : pp_chk mi_X9_noPair 43 42 (pp_cnt mi_X9_noPair 42) sg_X9_noPair_42 = true := by decide +kernel
def sg_X9_pair_0 : pp_Seg := [(.iconst 4, .inr (.inr (.int 4, 0))), (.iload_n 0, .inl (0, 0, [])), (.imul, .inl (0, 0, [])), (.iload_n 1, .inl (0, 0, [])), (.iadd, .inl (0, 0, [])), (.ireturn, .inl (0, 0, []))]
theorem sk_X9_pair_0 : pp_chk mi_X9_pair 6 0 (pp_cnt mi_X9_pair 0) sg_X9_pair_0 = true := by decide +kernel
def sg_X9_isPositive_0 : pp_Seg := [(.iload_n 1, .inl (0, 0, [])), (.aload_n 0, .inl (0, 0, [])), (.getfield 13, .inl (9, 2, [2, 1186])), (.iconst 4, .inr (.inr (.int 4, 0))), (.iaload, .inl (0, 0, [])), (.if_icmp .lt 22, .inl (29, 0, [])), (.iload_n 2, .inl (0, 0, [])), (.bipush 100, .inr (.inr (.int 100, 0))), (.imul, .inl (0, 0, [])), (.aload_n 0, .inl (0, 0, [])), (.getfield 13, .inl (9, 2, [2, 1186])), (.iconst 5, .inr (.inr (.int 5, 0))), (.iaload, .inl (0, 0, [])), (.iload_n 1, .inl (0, 0, [])), (.imul, .inl (0, 0, [])), (.if_icmp .lt 7, .inl (29, 0, [])), (.iconst 1, .inr (.inr (.int 1, 0))), (.goto 4, .inl (30, 0, []))]
theorem sk_X9_isPositive_0 : pp_chk mi_X9_isPositive 29 0 (pp_cnt mi_X9_isPositive 0) sg_X9_isPositive_0 = true := by decide +kernel
def sg_X9_isPositive_29 : pp_Seg := [(.iconst 0, .inr (.inr (.int 0, 0)))]
theorem sk_X9_isPositive_29 : pp_chk mi_X9_isPositive 30 29 (pp_cnt mi_X9_isPositive 29) sg_X9_isPositive_29 = true := by decide +kernel
def sg_X9_isPositive_30 : pp_Seg := [(.ireturn, .inl (0, 0, []))]
theorem sk_X9_isPositive_30 : pp_chk mi_X9_isPositive 31 30 (pp_cnt mi_X9_isPositive 30) sg_X9_isPositive_30 = true := by decide +kernel
def sg_X9_decided_0 : pp_Seg := [(.aload_n 0, .inl (0, 0, [])), (.getfield 7, .inl (9, 1, [2, 1185])), (.bipush 49, .inr (.inr (.int 49, 0))), (.iload_n 1, .inl (0, 0, [])), (.iload_n 2, .inl (0, 0, [])), (.invokestatic 260, .inr (.inl (mi_X9_pair, 0, 1433, [0, 0]))), (.iadd, .inl (0, 0, [])), (.laload, .inl (0, 0, [])), (.invokestatic 264, .inr (.inl (mi_X9_bits, 0, 1436, [0]))), (.istore_n 3, .inl (0, 0, [])), (.iload_n 3, .inl (0, 0, [])), (.aload_n 0, .inl (0, 0, [])), (.getfield 7, .inl (9, 1, [2, 1185])), (.bipush 113, .inr (.inr (.int 113, 0))), (.iload_n 1, .inl (0, 0, [])), (.iload_n 2, .inl (0, 0, [])), (.invokestatic 260, .inr (.inl (mi_X9_pair, 0, 1433, [0, 0]))), (.iadd, .inl (0, 0, [])), (.laload, .inl (0, 0, [])), (.invokestatic 264, .inr (.inl (mi_X9_bits, 0, 1436, [0]))), (.iadd, .inl (0, 0, [])), (.istore 4, .inl (0, 0, [])), (.iload 4, .inl (0, 0, [])), (.aload_n 0, .inl (0, 0, [])), (.getfield 13, .inl (9, 2, [2, 1186])), (.iconst 4, .inr (.inr (.int 4, 0))), (.iaload, .inl (0, 0, [])), (.if_icmp .ge 7, .inl (52, 0, [])), (.iconst 0, .inr (.inr (.int 0, 0))), (.goto 18, .inl (67, 0, []))]
theorem sk_X9_decided_0 : pp_chk mi_X9_decided 52 0 (pp_cnt mi_X9_decided 0) sg_X9_decided_0 = true := by decide +kernel
def sg_X9_decided_52 : pp_Seg := [(.aload_n 0, .inl (0, 0, [])), (.iload 4, .inl (0, 0, [])), (.iload_n 3, .inl (0, 0, [])), (.invokevirtual 268, .inr (.inl (mi_X9_isPositive, 9, 1439, [0, 0, 0]))), (.ifCond .eq 7, .inl (66, 0, [])), (.iconst 1, .inr (.inr (.int 1, 0))), (.goto 4, .inl (67, 0, []))]
theorem sk_X9_decided_52 : pp_chk mi_X9_decided 66 52 (pp_cnt mi_X9_decided 52) sg_X9_decided_52 = true := by decide +kernel
def sg_X9_decided_66 : pp_Seg := [(.iconst 2, .inr (.inr (.int 2, 0)))]
theorem sk_X9_decided_66 : pp_chk mi_X9_decided 67 66 (pp_cnt mi_X9_decided 66) sg_X9_decided_66 = true := by decide +kernel
def sg_X9_decided_67 : pp_Seg := [(.ireturn, .inl (0, 0, []))]
theorem sk_X9_decided_67 : pp_chk mi_X9_decided 68 67 (pp_cnt mi_X9_decided 67) sg_X9_decided_67 = true := by decide +kernel
def sg_X9_decision_0 : pp_Seg := [(.aload_n 0, .inl (0, 0, [])), (.iload_n 1, .inl (0, 0, [])), (.iload_n 2, .inl (0, 0, [])), (.invokevirtual 271, .inr (.inl (mi_X9_noPair, 9, 1421, [0, 0, 0]))), (.ifCond .eq 7, .inl (13, 0, [])), (.iconst 0, .inr (.inr (.int 0, 0))), (.goto 9, .inl (19, 0, []))]
theorem sk_X9_decision_0 : pp_chk mi_X9_decision 13 0 (pp_cnt mi_X9_decision 0) sg_X9_decision_0 = true := by decide +kernel
def sg_X9_decision_13 : pp_Seg := [(.aload_n 0, .inl (0, 0, [])), (.iload_n 1, .inl (0, 0, [])), (.iload_n 2, .inl (0, 0, [])), (.invokevirtual 274, .inr (.inl (mi_X9_decided, 9, 1429, [0, 0, 0])))]
theorem sk_X9_decision_13 : pp_chk mi_X9_decision 19 13 (pp_cnt mi_X9_decision 13) sg_X9_decision_13 = true := by decide +kernel
def sg_X9_decision_19 : pp_Seg := [(.ireturn, .inl (0, 0, []))]
theorem sk_X9_decision_19 : pp_chk mi_X9_decision 20 19 (pp_cnt mi_X9_decision 19) sg_X9_decision_19 = true := by decide +kernel
def sg_X9_voters_0 : pp_Seg := [(.aload_n 0, .inl (0, 0, [])), (.iload_n 1, .inl (0, 0, [])), (.iload_n 2, .inl (0, 0, [])), (.invokevirtual 271, .inr (.inl (mi_X9_noPair, 9, 1421, [0, 0, 0]))), (.ifCond .eq 7, .inl (13, 0, [])), (.iconst 0, .inr (.inr (.int 0, 0))), (.goto 26, .inl (36, 0, []))]
theorem sk_X9_voters_0 : pp_chk mi_X9_voters 13 0 (pp_cnt mi_X9_voters 0) sg_X9_voters_0 = true := by decide +kernel
def sg_X9_voters_13 : pp_Seg := [(.aload_n 0, .inl (0, 0, [])), (.getfield 7, .inl (9, 1, [2, 1185])), (.iload_n 3, .inl (0, 0, [])), (.ifCond .eq 8, .inl (26, 0, [])), (.bipush 49, .inr (.inr (.int 49, 0))), (.goto 5, .inl (28, 0, []))]
theorem sk_X9_voters_13 : pp_chk mi_X9_voters 26 13 (pp_cnt mi_X9_voters 13) sg_X9_voters_13 = true := by decide +kernel
def sg_X9_voters_26 : pp_Seg := [(.bipush 113, .inr (.inr (.int 113, 0)))]
theorem sk_X9_voters_26 : pp_chk mi_X9_voters 28 26 (pp_cnt mi_X9_voters 26) sg_X9_voters_26 = true := by decide +kernel
def sg_X9_voters_28 : pp_Seg := [(.iload_n 1, .inl (0, 0, [])), (.iload_n 2, .inl (0, 0, [])), (.invokestatic 260, .inr (.inl (mi_X9_pair, 0, 1433, [0, 0]))), (.iadd, .inl (0, 0, [])), (.laload, .inl (0, 0, [])), (.l2i, .inl (0, 0, []))]
theorem sk_X9_voters_28 : pp_chk mi_X9_voters 36 28 (pp_cnt mi_X9_voters 28) sg_X9_voters_28 = true := by decide +kernel
def sg_X9_voters_36 : pp_Seg := [(.ireturn, .inl (0, 0, []))]
theorem sk_X9_voters_36 : pp_chk mi_X9_voters 37 36 (pp_cnt mi_X9_voters 36) sg_X9_voters_36 = true := by decide +kernel
def sg_X9_votesNeeded_0 : pp_Seg := [(.aload_n 0, .inl (0, 0, [])), (.iload_n 1, .inl (0, 0, [])), (.iload_n 2, .inl (0, 0, [])), (.invokevirtual 271, .inr (.inl (mi_X9_noPair, 9, 1421, [0, 0, 0]))), (.ifCond .eq 5, .inl (11, 0, [])), (.iconst 0, .inr (.inr (.int 0, 0))), (.ireturn, .inl (0, 0, []))]
theorem sk_X9_votesNeeded_0 : pp_chk mi_X9_votesNeeded 11 0 (pp_cnt mi_X9_votesNeeded 0) sg_X9_votesNeeded_0 = true := by decide +kernel
def sg_X9_votesNeeded_11 : pp_Seg := [(.aload_n 0, .inl (0, 0, [])), (.getfield 7, .inl (9, 1, [2, 1185])), (.bipush 49, .inr (.inr (.int 49, 0))), (.iload_n 1, .inl (0, 0, [])), (.iload_n 2, .inl (0, 0, [])), (.invokestatic 260, .inr (.inl (mi_X9_pair, 0, 1433, [0, 0]))), (.iadd, .inl (0, 0, [])), (.laload, .inl (0, 0, [])), (.invokestatic 264, .inr (.inl (mi_X9_bits, 0, 1436, [0]))), (.istore_n 3, .inl (0, 0, [])), (.iload_n 3, .inl (0, 0, [])), (.aload_n 0, .inl (0, 0, [])), (.getfield 7, .inl (9, 1, [2, 1185])), (.bipush 113, .inr (.inr (.int 113, 0))), (.iload_n 1, .inl (0, 0, [])), (.iload_n 2, .inl (0, 0, [])), (.invokestatic 260, .inr (.inl (mi_X9_pair, 0, 1433, [0, 0]))), (.iadd, .inl (0, 0, [])), (.laload, .inl (0, 0, [])), (.invokestatic 264, .inr (.inl (mi_X9_bits, 0, 1436, [0]))), (.iadd, .inl (0, 0, [])), (.istore 4, .inl (0, 0, [])), (.iconst 0, .inr (.inr (.int 0, 0))), (.istore 5, .inl (0, 0, []))]
theorem sk_X9_votesNeeded_11 : pp_chk mi_X9_votesNeeded 51 11 (pp_cnt mi_X9_votesNeeded 11) sg_X9_votesNeeded_11 = true := by decide +kernel
def sg_X9_votesNeeded_51 : pp_Seg := [(.iload 4, .inl (0, 0, [])), (.iload 5, .inl (0, 0, [])), (.iadd, .inl (0, 0, [])), (.iconst 5, .inr (.inr (.int 5, 0))), (.if_icmp .gt 28, .inl (85, 0, [])), (.aload_n 0, .inl (0, 0, [])), (.iload 4, .inl (0, 0, [])), (.iload 5, .inl (0, 0, [])), (.iadd, .inl (0, 0, [])), (.iload_n 3, .inl (0, 0, [])), (.iload 5, .inl (0, 0, [])), (.iadd, .inl (0, 0, [])), (.invokevirtual 268, .inr (.inl (mi_X9_isPositive, 9, 1439, [0, 0, 0]))), (.ifCond .eq 6, .inl (79, 0, [])), (.iload 5, .inl (0, 0, [])), (.ireturn, .inl (0, 0, []))]
theorem sk_X9_votesNeeded_51 : pp_chk mi_X9_votesNeeded 79 51 (pp_cnt mi_X9_votesNeeded 51) sg_X9_votesNeeded_51 = true := by decide +kernel
def sg_X9_votesNeeded_79 : pp_Seg := [(.iinc 5 1, .inr (.inr (.int 1, 0))), (.goto (-31), .inl (51, 0, []))]
theorem sk_X9_votesNeeded_79 : pp_chk mi_X9_votesNeeded 85 79 (pp_cnt mi_X9_votesNeeded 79) sg_X9_votesNeeded_79 = true := by decide +kernel
def sg_X9_votesNeeded_85 : pp_Seg := [(.iconst (-1), .inr (.inr (.int (-1), 0))), (.ireturn, .inl (0, 0, []))]
theorem sk_X9_votesNeeded_85 : pp_chk mi_X9_votesNeeded 87 85 (pp_cnt mi_X9_votesNeeded 85) sg_X9_votesNeeded_85 = true := by decide +kernel
def sg_X9_isReleased_0 : pp_Seg := [(.aload_n 0, .inl (0, 0, [])), (.getfield 20, .inl (9, 4, [2, 1188])), (.iconst 2, .inr (.inr (.int 2, 0))), (.iload_n 1, .inl (0, 0, [])), (.imul, .inl (0, 0, [])), (.iaload, .inl (0, 0, [])), (.i2l, .inl (0, 0, [])), (.lload_n 2, .inl (0, 0, [])), (.lcmp, .inl (0, 0, [])), (.ifCond .gt 7, .inl (18, 0, [])), (.iconst 1, .inr (.inr (.int 1, 0))), (.goto 4, .inl (19, 0, []))]
theorem sk_X9_isReleased_0 : pp_chk mi_X9_isReleased 18 0 (pp_cnt mi_X9_isReleased 0) sg_X9_isReleased_0 = true := by decide +kernel
def sg_X9_isReleased_18 : pp_Seg := [(.iconst 0, .inr (.inr (.int 0, 0)))]
theorem sk_X9_isReleased_18 : pp_chk mi_X9_isReleased 19 18 (pp_cnt mi_X9_isReleased 18) sg_X9_isReleased_18 = true := by decide +kernel
def sg_X9_isReleased_19 : pp_Seg := [(.ireturn, .inl (0, 0, []))]
theorem sk_X9_isReleased_19 : pp_chk mi_X9_isReleased 20 19 (pp_cnt mi_X9_isReleased 19) sg_X9_isReleased_19 = true := by decide +kernel
def sg_X9_isInForce_0 : pp_Seg := [(.lload_n 2, .inl (0, 0, [])), (.aload_n 0, .inl (0, 0, [])), (.getfield 7, .inl (9, 1, [2, 1185])), (.bipush 33, .inr (.inr (.int 33, 0))), (.iload_n 1, .inl (0, 0, [])), (.iadd, .inl (0, 0, [])), (.laload, .inl (0, 0, [])), (.lcmp, .inl (0, 0, [])), (.ifCond .ge 7, .inl (18, 0, [])), (.iconst 1, .inr (.inr (.int 1, 0))), (.goto 4, .inl (19, 0, []))]
theorem sk_X9_isInForce_0 : pp_chk mi_X9_isInForce 18 0 (pp_cnt mi_X9_isInForce 0) sg_X9_isInForce_0 = true := by decide +kernel
def sg_X9_isInForce_18 : pp_Seg := [(.iconst 0, .inr (.inr (.int 0, 0)))]
theorem sk_X9_isInForce_18 : pp_chk mi_X9_isInForce 19 18 (pp_cnt mi_X9_isInForce 18) sg_X9_isInForce_18 = true := by decide +kernel
def sg_X9_isInForce_19 : pp_Seg := [(.ireturn, .inl (0, 0, []))]
theorem sk_X9_isInForce_19 : pp_chk mi_X9_isInForce 20 19 (pp_cnt mi_X9_isInForce 19) sg_X9_isInForce_19 = true := by decide +kernel
def sg_X9_isCounted_0 : pp_Seg := [(.aload_n 0, .inl (0, 0, [])), (.iload_n 1, .inl (0, 0, [])), (.iload_n 2, .inl (0, 0, [])), (.invokevirtual 274, .inr (.inl (mi_X9_decided, 9, 1429, [0, 0, 0]))), (.iconst 1, .inr (.inr (.int 1, 0))), (.if_icmp .ne 48, .inl (55, 0, [])), (.aload_n 0, .inl (0, 0, [])), (.iload_n 2, .inl (0, 0, [])), (.lload_n 3, .inl (0, 0, [])), (.invokevirtual 277, .inr (.inl (mi_X9_isReleased, 9, 1459, [0, 0, 0]))), (.ifCond .eq 39, .inl (55, 0, [])), (.aload_n 0, .inl (0, 0, [])), (.iload_n 1, .inl (0, 0, [])), (.lload_n 3, .inl (0, 0, [])), (.invokevirtual 281, .inr (.inl (mi_X9_isInForce, 9, 1463, [0, 0, 0]))), (.ifCond .eq 30, .inl (55, 0, [])), (.aload_n 0, .inl (0, 0, [])), (.getfield 7, .inl (9, 1, [2, 1185])), (.bipush 9, .inr (.inr (.int 9, 0))), (.aload_n 0, .inl (0, 0, [])), (.getfield 7, .inl (9, 1, [2, 1185])), (.bipush 17, .inr (.inr (.int 17, 0))), (.iload_n 1, .inl (0, 0, [])), (.iadd, .inl (0, 0, [])), (.laload, .inl (0, 0, [])), (.l2i, .inl (0, 0, [])), (.iadd, .inl (0, 0, [])), (.laload, .inl (0, 0, [])), (.lload_n 3, .inl (0, 0, [])), (.lcmp, .inl (0, 0, [])), (.ifCond .gt 7, .inl (55, 0, [])), (.iconst 1, .inr (.inr (.int 1, 0))), (.goto 4, .inl (56, 0, []))]
theorem sk_X9_isCounted_0 : pp_chk mi_X9_isCounted 55 0 (pp_cnt mi_X9_isCounted 0) sg_X9_isCounted_0 = true := by decide +kernel
def sg_X9_isCounted_55 : pp_Seg := [(.iconst 0, .inr (.inr (.int 0, 0)))]
theorem sk_X9_isCounted_55 : pp_chk mi_X9_isCounted 56 55 (pp_cnt mi_X9_isCounted 55) sg_X9_isCounted_55 = true := by decide +kernel
def sg_X9_isCounted_56 : pp_Seg := [(.ireturn, .inl (0, 0, []))]
theorem sk_X9_isCounted_56 : pp_chk mi_X9_isCounted 57 56 (pp_cnt mi_X9_isCounted 56) sg_X9_isCounted_56 = true := by decide +kernel
def sg_X9_counts_0 : pp_Seg := [(.aload_n 0, .inl (0, 0, [])), (.iload_n 1, .inl (0, 0, [])), (.iload_n 2, .inl (0, 0, [])), (.invokevirtual 271, .inr (.inl (mi_X9_noPair, 9, 1421, [0, 0, 0]))), (.ifCond .ne 22, .inl (28, 0, [])), (.aload_n 0, .inl (0, 0, [])), (.iload_n 1, .inl (0, 0, [])), (.iload_n 2, .inl (0, 0, [])), (.aload_n 0, .inl (0, 0, [])), (.getfield 7, .inl (9, 1, [2, 1185])), (.iconst 0, .inr (.inr (.int 0, 0))), (.laload, .inl (0, 0, [])), (.invokevirtual 284, .inr (.inl (mi_X9_isCounted, 9, 1455, [0, 0, 0, 0]))), (.ifCond .eq 7, .inl (28, 0, [])), (.iconst 1, .inr (.inr (.int 1, 0))), (.goto 4, .inl (29, 0, []))]
theorem sk_X9_counts_0 : pp_chk mi_X9_counts 28 0 (pp_cnt mi_X9_counts 0) sg_X9_counts_0 = true := by decide +kernel
def sg_X9_counts_28 : pp_Seg := [(.iconst 0, .inr (.inr (.int 0, 0)))]
theorem sk_X9_counts_28 : pp_chk mi_X9_counts 29 28 (pp_cnt mi_X9_counts 28) sg_X9_counts_28 = true := by decide +kernel
def sg_X9_counts_29 : pp_Seg := [(.ireturn, .inl (0, 0, []))]
theorem sk_X9_counts_29 : pp_chk mi_X9_counts 30 29 (pp_cnt mi_X9_counts 29) sg_X9_counts_29 = true := by decide +kernel
def sg_X9_firstToExpire_0 : pp_Seg := [(.aload_n 0, .inl (0, 0, [])), (.iload_n 1, .inl (0, 0, [])), (.invokevirtual 288, .inr (.inl (mi_X9_noMember, 9, 1471, [0, 0]))), (.ifCond .eq 5, .inl (10, 0, [])), (.iconst 0, .inr (.inr (.int 0, 0))), (.ireturn, .inl (0, 0, []))]
theorem sk_X9_firstToExpire_0 : pp_chk mi_X9_firstToExpire 10 0 (pp_cnt mi_X9_firstToExpire 0) sg_X9_firstToExpire_0 = true := by decide +kernel
def sg_X9_firstToExpire_10 : pp_Seg := [(.iconst (-1), .inr (.inr (.int (-1), 0))), (.istore_n 2, .inl (0, 0, [])), (.iconst 0, .inr (.inr (.int 0, 0))), (.istore_n 3, .inl (0, 0, []))]
theorem sk_X9_firstToExpire_10 : pp_chk mi_X9_firstToExpire 14 10 (pp_cnt mi_X9_firstToExpire 10) sg_X9_firstToExpire_10 = true := by decide +kernel
def sg_X9_firstToExpire_14 : pp_Seg := [(.iload_n 3, .inl (0, 0, [])), (.i2l, .inl (0, 0, [])), (.aload_n 0, .inl (0, 0, [])), (.getfield 7, .inl (9, 1, [2, 1185])), (.bipush 8, .inr (.inr (.int 8, 0))), (.laload, .inl (0, 0, [])), (.lcmp, .inl (0, 0, [])), (.ifCond .ge 83, .inl (107, 0, [])), (.aload_n 0, .inl (0, 0, [])), (.getfield 7, .inl (9, 1, [2, 1185])), (.bipush 17, .inr (.inr (.int 17, 0))), (.iload_n 3, .inl (0, 0, [])), (.iadd, .inl (0, 0, [])), (.laload, .inl (0, 0, [])), (.iload_n 1, .inl (0, 0, [])), (.i2l, .inl (0, 0, [])), (.lcmp, .inl (0, 0, [])), (.ifCond .ne 21, .inl (60, 0, [])), (.aload_n 0, .inl (0, 0, [])), (.iload_n 3, .inl (0, 0, [])), (.aload_n 0, .inl (0, 0, [])), (.getfield 7, .inl (9, 1, [2, 1185])), (.iconst 0, .inr (.inr (.int 0, 0))), (.laload, .inl (0, 0, [])), (.invokevirtual 281, .inr (.inl (mi_X9_isInForce, 9, 1463, [0, 0, 0]))), (.ifCond .eq 7, .inl (60, 0, [])), (.iconst 1, .inr (.inr (.int 1, 0))), (.goto 4, .inl (61, 0, []))]
theorem sk_X9_firstToExpire_14 : pp_chk mi_X9_firstToExpire 60 14 (pp_cnt mi_X9_firstToExpire 14) sg_X9_firstToExpire_14 = true := by decide +kernel
def sg_X9_firstToExpire_60 : pp_Seg := [(.iconst 0, .inr (.inr (.int 0, 0)))]
theorem sk_X9_firstToExpire_60 : pp_chk mi_X9_firstToExpire 61 60 (pp_cnt mi_X9_firstToExpire 60) sg_X9_firstToExpire_60 = true := by decide +kernel
def sg_X9_firstToExpire_61 : pp_Seg := [(.istore 4, .inl (0, 0, [])), (.iload 4, .inl (0, 0, [])), (.ifCond .eq 34, .inl (99, 0, [])), (.iload_n 2, .inl (0, 0, [])), (.iconst (-1), .inr (.inr (.int (-1), 0))), (.if_icmp .eq 25, .inl (95, 0, [])), (.aload_n 0, .inl (0, 0, [])), (.getfield 7, .inl (9, 1, [2, 1185])), (.bipush 33, .inr (.inr (.int 33, 0))), (.iload_n 3, .inl (0, 0, [])), (.iadd, .inl (0, 0, [])), (.laload, .inl (0, 0, [])), (.aload_n 0, .inl (0, 0, [])), (.getfield 7, .inl (9, 1, [2, 1185])), (.bipush 33, .inr (.inr (.int 33, 0))), (.iload_n 2, .inl (0, 0, [])), (.iadd, .inl (0, 0, [])), (.laload, .inl (0, 0, [])), (.lcmp, .inl (0, 0, [])), (.ifCond .ge 7, .inl (99, 0, []))]
theorem sk_X9_firstToExpire_61 : pp_chk mi_X9_firstToExpire 95 61 (pp_cnt mi_X9_firstToExpire 61) sg_X9_firstToExpire_61 = true := by decide +kernel
def sg_X9_firstToExpire_95 : pp_Seg := [(.iload_n 3, .inl (0, 0, [])), (.goto 4, .inl (100, 0, []))]
theorem sk_X9_firstToExpire_95 : pp_chk mi_X9_firstToExpire 99 95 (pp_cnt mi_X9_firstToExpire 95) sg_X9_firstToExpire_95 = true := by decide +kernel
def sg_X9_firstToExpire_99 : pp_Seg := [(.iload_n 2, .inl (0, 0, []))]
theorem sk_X9_firstToExpire_99 : pp_chk mi_X9_firstToExpire 100 99 (pp_cnt mi_X9_firstToExpire 99) sg_X9_firstToExpire_99 = true := by decide +kernel
def sg_X9_firstToExpire_100 : pp_Seg := [(.istore_n 2, .inl (0, 0, [])), (.iinc 3 1, .inr (.inr (.int 1, 0))), (.goto (-90), .inl (14, 0, []))]
theorem sk_X9_firstToExpire_100 : pp_chk mi_X9_firstToExpire 107 100 (pp_cnt mi_X9_firstToExpire 100) sg_X9_firstToExpire_100 = true := by decide +kernel
def sg_X9_firstToExpire_107 : pp_Seg := [(.iload_n 2, .inl (0, 0, [])), (.ireturn, .inl (0, 0, []))]
theorem sk_X9_firstToExpire_107 : pp_chk mi_X9_firstToExpire 109 107 (pp_cnt mi_X9_firstToExpire 107) sg_X9_firstToExpire_107 = true := by decide +kernel
def sg_X9_weightOn_0 : pp_Seg := [(.aload_n 0, .inl (0, 0, [])), (.getfield 7, .inl (9, 1, [2, 1185])), (.bipush 9, .inr (.inr (.int 9, 0))), (.iload_n 1, .inl (0, 0, [])), (.iadd, .inl (0, 0, [])), (.laload, .inl (0, 0, [])), (.lload_n 2, .inl (0, 0, [])), (.lcmp, .inl (0, 0, [])), (.ifCond .le 5, .inl (16, 0, [])), (.iconst 0, .inr (.inr (.int 0, 0))), (.ireturn, .inl (0, 0, []))]
theorem sk_X9_weightOn_0 : pp_chk mi_X9_weightOn 16 0 (pp_cnt mi_X9_weightOn 0) sg_X9_weightOn_0 = true := by decide +kernel
def sg_X9_weightOn_16 : pp_Seg := [(.aload_n 0, .inl (0, 0, [])), (.getfield 46, .inl (9, 22, [2, 1206])), (.iconst 1, .inr (.inr (.int 1, 0))), (.iconst 0, .inr (.inr (.int 0, 0))), (.iastore, .inl (0, 0, [])), (.aload_n 0, .inl (0, 0, [])), (.getfield 46, .inl (9, 22, [2, 1206])), (.iconst 2, .inr (.inr (.int 2, 0))), (.iconst 0, .inr (.inr (.int 0, 0))), (.iastore, .inl (0, 0, [])), (.aload_n 0, .inl (0, 0, [])), (.getfield 46, .inl (9, 22, [2, 1206])), (.iconst 3, .inr (.inr (.int 3, 0))), (.lload_n 2, .inl (0, 0, [])), (.aload_n 0, .inl (0, 0, [])), (.getfield 7, .inl (9, 1, [2, 1185])), (.bipush 9, .inr (.inr (.int 9, 0))), (.iload_n 1, .inl (0, 0, [])), (.iadd, .inl (0, 0, [])), (.laload, .inl (0, 0, [])), (.lsub, .inl (0, 0, [])), (.l2i, .inl (0, 0, [])), (.iastore, .inl (0, 0, [])), (.iconst 0, .inr (.inr (.int 0, 0))), (.istore 4, .inl (0, 0, []))]
theorem sk_X9_weightOn_16 : pp_chk mi_X9_weightOn 51 16 (pp_cnt mi_X9_weightOn 16) sg_X9_weightOn_16 = true := by decide +kernel
def sg_X9_weightOn_51 : pp_Seg := [(.iload 4, .inl (0, 0, [])), (.i2l, .inl (0, 0, [])), (.aload_n 0, .inl (0, 0, [])), (.getfield 7, .inl (9, 1, [2, 1185])), (.bipush 8, .inr (.inr (.int 8, 0))), (.laload, .inl (0, 0, [])), (.lcmp, .inl (0, 0, [])), (.ifCond .ge 100, .inl (162, 0, [])), (.iconst 0, .inr (.inr (.int 0, 0))), (.istore 5, .inl (0, 0, [])), (.iconst 0, .inr (.inr (.int 0, 0))), (.istore 6, .inl (0, 0, []))]
theorem sk_X9_weightOn_51 : pp_chk mi_X9_weightOn 71 51 (pp_cnt mi_X9_weightOn 51) sg_X9_weightOn_51 = true := by decide +kernel
def sg_X9_weightOn_71 : pp_Seg := [(.iload 6, .inl (0, 0, [])), (.aload_n 0, .inl (0, 0, [])), (.getfield 13, .inl (9, 2, [2, 1186])), (.iconst 1, .inr (.inr (.int 1, 0))), (.iaload, .inl (0, 0, [])), (.if_icmp .ge 47, .inl (126, 0, [])), (.aload_n 0, .inl (0, 0, [])), (.getfield 7, .inl (9, 1, [2, 1185])), (.bipush 17, .inr (.inr (.int 17, 0))), (.iload 4, .inl (0, 0, [])), (.iadd, .inl (0, 0, [])), (.laload, .inl (0, 0, [])), (.iload_n 1, .inl (0, 0, [])), (.i2l, .inl (0, 0, [])), (.lcmp, .inl (0, 0, [])), (.ifCond .ne 31, .inl (126, 0, [])), (.iload 5, .inl (0, 0, [])), (.aload_n 0, .inl (0, 0, [])), (.iload 4, .inl (0, 0, [])), (.iload 6, .inl (0, 0, [])), (.lload_n 2, .inl (0, 0, [])), (.invokevirtual 284, .inr (.inl (mi_X9_isCounted, 9, 1455, [0, 0, 0, 0]))), (.ifCond .eq 7, .inl (116, 0, [])), (.iconst 1, .inr (.inr (.int 1, 0))), (.goto 4, .inl (117, 0, []))]
theorem sk_X9_weightOn_71 : pp_chk mi_X9_weightOn 116 71 (pp_cnt mi_X9_weightOn 71) sg_X9_weightOn_71 = true := by decide +kernel
def sg_X9_weightOn_116 : pp_Seg := [(.iconst 0, .inr (.inr (.int 0, 0)))]
theorem sk_X9_weightOn_116 : pp_chk mi_X9_weightOn 117 116 (pp_cnt mi_X9_weightOn 116) sg_X9_weightOn_116 = true := by decide +kernel
def sg_X9_weightOn_117 : pp_Seg := [(.iadd, .inl (0, 0, [])), (.istore 5, .inl (0, 0, [])), (.iinc 6 1, .inr (.inr (.int 1, 0))), (.goto (-52), .inl (71, 0, []))]
theorem sk_X9_weightOn_117 : pp_chk mi_X9_weightOn 126 117 (pp_cnt mi_X9_weightOn 117) sg_X9_weightOn_117 = true := by decide +kernel
def sg_X9_weightOn_126 : pp_Seg := [(.aload_n 0, .inl (0, 0, [])), (.getfield 46, .inl (9, 22, [2, 1206])), (.iconst 2, .inr (.inr (.int 2, 0))), (.dup2, .inl (0, 0, [])), (.iaload, .inl (0, 0, [])), (.iload 5, .inl (0, 0, [])), (.iadd, .inl (0, 0, [])), (.iastore, .inl (0, 0, [])), (.aload_n 0, .inl (0, 0, [])), (.getfield 46, .inl (9, 22, [2, 1206])), (.iconst 1, .inr (.inr (.int 1, 0))), (.dup2, .inl (0, 0, [])), (.iaload, .inl (0, 0, [])), (.iload 5, .inl (0, 0, [])), (.ifCond .le 7, .inl (153, 0, [])), (.iconst 1, .inr (.inr (.int 1, 0))), (.goto 4, .inl (154, 0, []))]
theorem sk_X9_weightOn_126 : pp_chk mi_X9_weightOn 153 126 (pp_cnt mi_X9_weightOn 126) sg_X9_weightOn_126 = true := by decide +kernel
def sg_X9_weightOn_153 : pp_Seg := [(.iconst 0, .inr (.inr (.int 0, 0)))]
theorem sk_X9_weightOn_153 : pp_chk mi_X9_weightOn 154 153 (pp_cnt mi_X9_weightOn 153) sg_X9_weightOn_153 = true := by decide +kernel
def sg_X9_weightOn_154 : pp_Seg := [(.iadd, .inl (0, 0, [])), (.iastore, .inl (0, 0, [])), (.iinc 4 1, .inr (.inr (.int 1, 0))), (.goto (-108), .inl (51, 0, []))]
theorem sk_X9_weightOn_154 : pp_chk mi_X9_weightOn 162 154 (pp_cnt mi_X9_weightOn 154) sg_X9_weightOn_154 = true := by decide +kernel
def sg_X9_weightOn_162 : pp_Seg := [(.aload_n 0, .inl (0, 0, [])), (.invokevirtual 291, .inr (.inl (mi_X9_worth, 9, 1483, [0]))), (.istore 4, .inl (0, 0, [])), (.aload_n 0, .inl (0, 0, [])), (.getfield 46, .inl (9, 22, [2, 1206])), (.iconst 3, .inr (.inr (.int 3, 0))), (.iaload, .inl (0, 0, [])), (.aload_n 0, .inl (0, 0, [])), (.getfield 13, .inl (9, 2, [2, 1186])), (.bipush 9, .inr (.inr (.int 9, 0))), (.iaload, .inl (0, 0, [])), (.if_icmp .ge 19, .inl (200, 0, [])), (.iload 4, .inl (0, 0, [])), (.aload_n 0, .inl (0, 0, [])), (.getfield 13, .inl (9, 2, [2, 1186])), (.bipush 10, .inr (.inr (.int 10, 0))), (.iaload, .inl (0, 0, [])), (.imul, .inl (0, 0, [])), (.bipush 100, .inr (.inr (.int 100, 0))), (.idiv, .inl (0, 0, [])), (.goto 5, .inl (202, 0, []))]
theorem sk_X9_weightOn_162 : pp_chk mi_X9_weightOn 200 162 (pp_cnt mi_X9_weightOn 162) sg_X9_weightOn_162 = true := by decide +kernel
def sg_X9_weightOn_200 : pp_Seg := [(.iload 4, .inl (0, 0, []))]
theorem sk_X9_weightOn_200 : pp_chk mi_X9_weightOn 202 200 (pp_cnt mi_X9_weightOn 200) sg_X9_weightOn_200 = true := by decide +kernel
def sg_X9_weightOn_202 : pp_Seg := [(.ireturn, .inl (0, 0, []))]
theorem sk_X9_weightOn_202 : pp_chk mi_X9_weightOn 203 202 (pp_cnt mi_X9_weightOn 202) sg_X9_weightOn_202 = true := by decide +kernel
def sg_X9_weight_0 : pp_Seg := [(.aload_n 0, .inl (0, 0, [])), (.iload_n 1, .inl (0, 0, [])), (.invokevirtual 288, .inr (.inl (mi_X9_noMember, 9, 1471, [0, 0]))), (.ifCond .eq 7, .inl (12, 0, [])), (.iconst 0, .inr (.inr (.int 0, 0))), (.goto 14, .inl (23, 0, []))]
theorem sk_X9_weight_0 : pp_chk mi_X9_weight 12 0 (pp_cnt mi_X9_weight 0) sg_X9_weight_0 = true := by decide +kernel
def sg_X9_weight_12 : pp_Seg := [(.aload_n 0, .inl (0, 0, [])), (.iload_n 1, .inl (0, 0, [])), (.aload_n 0, .inl (0, 0, [])), (.getfield 7, .inl (9, 1, [2, 1185])), (.iconst 0, .inr (.inr (.int 0, 0))), (.laload, .inl (0, 0, [])), (.invokevirtual 294, .inr (.inl (mi_X9_weightOn, 9, 1479, [0, 0, 0])))]
theorem sk_X9_weight_12 : pp_chk mi_X9_weight 23 12 (pp_cnt mi_X9_weight 12) sg_X9_weight_12 = true := by decide +kernel
def sg_X9_weight_23 : pp_Seg := [(.ireturn, .inl (0, 0, []))]
theorem sk_X9_weight_23 : pp_chk mi_X9_weight 24 23 (pp_cnt mi_X9_weight 23) sg_X9_weight_23 = true := by decide +kernel
def sg_X9_weightAfter_0 : pp_Seg := [(.aload_n 0, .inl (0, 0, [])), (.iload_n 1, .inl (0, 0, [])), (.invokevirtual 288, .inr (.inl (mi_X9_noMember, 9, 1471, [0, 0]))), (.ifCond .ne 28, .inl (33, 0, [])), (.aload_n 0, .inl (0, 0, [])), (.iload_n 2, .inl (0, 0, [])), (.i2l, .inl (0, 0, [])), (.lconst 0, .inr (.inr (.long 0, 0))), (.ldc2_w 298, .inr (.inr (.long 9999, 1495))), (.invokestatic 121, .inr (.inl (mi_X9_within, 0, 1294, [0, 0, 0]))), (.ifCond .ne 7, .inl (25, 0, [])), (.iconst 1, .inr (.inr (.int 1, 0))), (.goto 4, .inl (26, 0, []))]
theorem sk_X9_weightAfter_0 : pp_chk mi_X9_weightAfter 25 0 (pp_cnt mi_X9_weightAfter 0) sg_X9_weightAfter_0 = true := by decide +kernel
def sg_X9_weightAfter_25 : pp_Seg := [(.iconst 0, .inr (.inr (.int 0, 0)))]
theorem sk_X9_weightAfter_25 : pp_chk mi_X9_weightAfter 26 25 (pp_cnt mi_X9_weightAfter 25) sg_X9_weightAfter_25 = true := by decide +kernel
def sg_X9_weightAfter_26 : pp_Seg := [(.iconst 2, .inr (.inr (.int 2, 0))), (.invokevirtual 244, .inr (.inl (mi_X9_throwsIf, 9, 1297, [0, 0, 0]))), (.ifCond .eq 5, .inl (35, 0, []))]
theorem sk_X9_weightAfter_26 : pp_chk mi_X9_weightAfter 33 26 (pp_cnt mi_X9_weightAfter 26) sg_X9_weightAfter_26 = true := by decide +kernel
def sg_X9_weightAfter_33 : pp_Seg := [(.iconst 0, .inr (.inr (.int 0, 0))), (.ireturn, .inl (0, 0, []))]
theorem sk_X9_weightAfter_33 : pp_chk mi_X9_weightAfter 35 33 (pp_cnt mi_X9_weightAfter 33) sg_X9_weightAfter_33 = true := by decide +kernel
def sg_X9_weightAfter_35 : pp_Seg := [(.aload_n 0, .inl (0, 0, [])), (.iload_n 1, .inl (0, 0, [])), (.aload_n 0, .inl (0, 0, [])), (.getfield 7, .inl (9, 1, [2, 1185])), (.iconst 0, .inr (.inr (.int 0, 0))), (.laload, .inl (0, 0, [])), (.iload_n 2, .inl (0, 0, [])), (.i2l, .inl (0, 0, [])), (.ladd, .inl (0, 0, [])), (.invokevirtual 294, .inr (.inl (mi_X9_weightOn, 9, 1479, [0, 0, 0]))), (.ireturn, .inl (0, 0, []))]
theorem sk_X9_weightAfter_35 : pp_chk mi_X9_weightAfter 50 35 (pp_cnt mi_X9_weightAfter 35) sg_X9_weightAfter_35 = true := by decide +kernel
def sg_X9_weighs_0 : pp_Seg := [(.iconst 0, .inr (.inr (.int 0, 0))), (.istore_n 1, .inl (0, 0, []))]
theorem sk_X9_weighs_0 : pp_chk mi_X9_weighs 2 0 (pp_cnt mi_X9_weighs 0) sg_X9_weighs_0 = true := by decide +kernel
def sg_X9_weighs_2 : pp_Seg := [(.iload_n 1, .inl (0, 0, [])), (.bipush 8, .inr (.inr (.int 8, 0))), (.if_icmp .ge 43, .inl (48, 0, [])), (.aload_n 0, .inl (0, 0, [])), (.getfield 49, .inl (9, 23, [2, 1207])), (.iload_n 1, .inl (0, 0, [])), (.iload_n 1, .inl (0, 0, [])), (.i2l, .inl (0, 0, [])), (.aload_n 0, .inl (0, 0, [])), (.getfield 7, .inl (9, 1, [2, 1185])), (.bipush 7, .inr (.inr (.int 7, 0))), (.laload, .inl (0, 0, [])), (.lcmp, .inl (0, 0, [])), (.ifCond .ge 17, .inl (40, 0, [])), (.aload_n 0, .inl (0, 0, [])), (.iload_n 1, .inl (0, 0, [])), (.aload_n 0, .inl (0, 0, [])), (.getfield 7, .inl (9, 1, [2, 1185])), (.iconst 0, .inr (.inr (.int 0, 0))), (.laload, .inl (0, 0, [])), (.invokevirtual 294, .inr (.inl (mi_X9_weightOn, 9, 1479, [0, 0, 0]))), (.goto 4, .inl (41, 0, []))]
theorem sk_X9_weighs_2 : pp_chk mi_X9_weighs 40 2 (pp_cnt mi_X9_weighs 2) sg_X9_weighs_2 = true := by decide +kernel
def sg_X9_weighs_40 : pp_Seg := [(.iconst 0, .inr (.inr (.int 0, 0)))]
theorem sk_X9_weighs_40 : pp_chk mi_X9_weighs 41 40 (pp_cnt mi_X9_weighs 40) sg_X9_weighs_40 = true := by decide +kernel
def sg_X9_weighs_41 : pp_Seg := [(.iastore, .inl (0, 0, [])), (.iinc 1 1, .inr (.inr (.int 1, 0))), (.goto (-43), .inl (2, 0, []))]
theorem sk_X9_weighs_41 : pp_chk mi_X9_weighs 48 41 (pp_cnt mi_X9_weighs 41) sg_X9_weighs_41 = true := by decide +kernel
def sg_X9_weighs_48 : pp_Seg := [(.return_, .inl (0, 0, []))]
theorem sk_X9_weighs_48 : pp_chk mi_X9_weighs 49 48 (pp_cnt mi_X9_weighs 48) sg_X9_weighs_48 = true := by decide +kernel
def sg_X9_openOnes_0 : pp_Seg := [(.lconst 0, .inr (.inr (.long 0, 0))), (.lstore_n 1, .inl (0, 0, [])), (.iconst 0, .inr (.inr (.int 0, 0))), (.istore_n 3, .inl (0, 0, []))]
theorem sk_X9_openOnes_0 : pp_chk mi_X9_openOnes 4 0 (pp_cnt mi_X9_openOnes 0) sg_X9_openOnes_0 = true := by decide +kernel
def sg_X9_openOnes_4 : pp_Seg := [(.iload_n 3, .inl (0, 0, [])), (.bipush 8, .inr (.inr (.int 8, 0))), (.if_icmp .ge 32, .inl (39, 0, [])), (.lload_n 1, .inl (0, 0, [])), (.aload_n 0, .inl (0, 0, [])), (.getfield 58, .inl (9, 26, [2, 1210])), (.iload_n 3, .inl (0, 0, [])), (.baload, .inl (1, 0, [])), (.ifCond .eq 13, .inl (30, 0, [])), (.aload_n 0, .inl (0, 0, [])), (.getfield 49, .inl (9, 23, [2, 1207])), (.iload_n 3, .inl (0, 0, [])), (.iaload, .inl (0, 0, [])), (.i2l, .inl (0, 0, [])), (.goto 4, .inl (31, 0, []))]
theorem sk_X9_openOnes_4 : pp_chk mi_X9_openOnes 30 4 (pp_cnt mi_X9_openOnes 4) sg_X9_openOnes_4 = true := by decide +kernel
def sg_X9_openOnes_30 : pp_Seg := [(.lconst 0, .inr (.inr (.long 0, 0)))]
theorem sk_X9_openOnes_30 : pp_chk mi_X9_openOnes 31 30 (pp_cnt mi_X9_openOnes 30) sg_X9_openOnes_30 = true := by decide +kernel
def sg_X9_openOnes_31 : pp_Seg := [(.ladd, .inl (0, 0, [])), (.lstore_n 1, .inl (0, 0, [])), (.iinc 3 1, .inr (.inr (.int 1, 0))), (.goto (-32), .inl (4, 0, []))]
theorem sk_X9_openOnes_31 : pp_chk mi_X9_openOnes 39 31 (pp_cnt mi_X9_openOnes 31) sg_X9_openOnes_31 = true := by decide +kernel
def sg_X9_openOnes_39 : pp_Seg := [(.lload_n 1, .inl (0, 0, [])), (.lreturn, .inl (0, 0, []))]
theorem sk_X9_openOnes_39 : pp_chk mi_X9_openOnes 41 39 (pp_cnt mi_X9_openOnes 39) sg_X9_openOnes_39 = true := by decide +kernel
def sg_X9_openAt_0 : pp_Seg := [(.iconst 0, .inr (.inr (.int 0, 0))), (.istore 6, .inl (0, 0, []))]
theorem sk_X9_openAt_0 : pp_chk mi_X9_openAt 3 0 (pp_cnt mi_X9_openAt 0) sg_X9_openAt_0 = true := by decide +kernel
def sg_X9_openAt_3 : pp_Seg := [(.iload 6, .inl (0, 0, [])), (.bipush 8, .inr (.inr (.int 8, 0))), (.if_icmp .ge 133, .inl (140, 0, [])), (.iconst 0, .inr (.inr (.int 0, 0))), (.istore 7, .inl (0, 0, [])), (.iconst 0, .inr (.inr (.int 0, 0))), (.istore 8, .inl (0, 0, []))]
theorem sk_X9_openAt_3 : pp_chk mi_X9_openAt 16 3 (pp_cnt mi_X9_openAt 3) sg_X9_openAt_3 = true := by decide +kernel
def sg_X9_openAt_16 : pp_Seg := [(.iload 8, .inl (0, 0, [])), (.bipush 8, .inr (.inr (.int 8, 0))), (.if_icmp .ge 95, .inl (115, 0, [])), (.aload_n 0, .inl (0, 0, [])), (.getfield 58, .inl (9, 26, [2, 1210])), (.iload 6, .inl (0, 0, [])), (.baload, .inl (1, 0, [])), (.ifCond .eq 85, .inl (115, 0, [])), (.aload_n 0, .inl (0, 0, [])), (.getfield 58, .inl (9, 26, [2, 1210])), (.iload 8, .inl (0, 0, [])), (.baload, .inl (1, 0, [])), (.ifCond .eq 33, .inl (73, 0, [])), (.lload_n 2, .inl (0, 0, [])), (.aload_n 0, .inl (0, 0, [])), (.getfield 49, .inl (9, 23, [2, 1207])), (.iload 8, .inl (0, 0, [])), (.iaload, .inl (0, 0, [])), (.i2l, .inl (0, 0, [])), (.lmul, .inl (0, 0, [])), (.lload 4, .inl (0, 0, [])), (.lrem, .inl (0, 0, [])), (.lload_n 2, .inl (0, 0, [])), (.aload_n 0, .inl (0, 0, [])), (.getfield 49, .inl (9, 23, [2, 1207])), (.iload 6, .inl (0, 0, [])), (.iaload, .inl (0, 0, [])), (.i2l, .inl (0, 0, [])), (.lmul, .inl (0, 0, [])), (.lload 4, .inl (0, 0, [])), (.lrem, .inl (0, 0, [])), (.lsub, .inl (0, 0, [])), (.goto 6, .inl (76, 0, []))]
theorem sk_X9_openAt_16 : pp_chk mi_X9_openAt 73 16 (pp_cnt mi_X9_openAt 16) sg_X9_openAt_16 = true := by decide +kernel
def sg_X9_openAt_73 : pp_Seg := [(.ldc2_w 317, .inr (.inr (.long (-1), 1522)))]
theorem sk_X9_openAt_73 : pp_chk mi_X9_openAt 76 73 (pp_cnt mi_X9_openAt 73) sg_X9_openAt_73 = true := by decide +kernel
def sg_X9_openAt_76 : pp_Seg := [(.lstore 9, .inl (0, 0, [])), (.iload 7, .inl (0, 0, [])), (.lload 9, .inl (0, 0, [])), (.lconst 0, .inr (.inr (.long 0, 0))), (.lcmp, .inl (0, 0, [])), (.ifCond .gt 17, .inl (101, 0, [])), (.lload 9, .inl (0, 0, [])), (.lconst 0, .inr (.inr (.long 0, 0))), (.lcmp, .inl (0, 0, [])), (.ifCond .ne 14, .inl (105, 0, [])), (.iload 8, .inl (0, 0, [])), (.iload 6, .inl (0, 0, [])), (.if_icmp .ge 7, .inl (105, 0, []))]
theorem sk_X9_openAt_76 : pp_chk mi_X9_openAt 101 76 (pp_cnt mi_X9_openAt 76) sg_X9_openAt_76 = true := by decide +kernel
def sg_X9_openAt_101 : pp_Seg := [(.iconst 1, .inr (.inr (.int 1, 0))), (.goto 4, .inl (106, 0, []))]
theorem sk_X9_openAt_101 : pp_chk mi_X9_openAt 105 101 (pp_cnt mi_X9_openAt 101) sg_X9_openAt_101 = true := by decide +kernel
def sg_X9_openAt_105 : pp_Seg := [(.iconst 0, .inr (.inr (.int 0, 0)))]
theorem sk_X9_openAt_105 : pp_chk mi_X9_openAt 106 105 (pp_cnt mi_X9_openAt 105) sg_X9_openAt_105 = true := by decide +kernel
def sg_X9_openAt_106 : pp_Seg := [(.iadd, .inl (0, 0, [])), (.istore 7, .inl (0, 0, [])), (.iinc 8 1, .inr (.inr (.int 1, 0))), (.goto (-96), .inl (16, 0, []))]
theorem sk_X9_openAt_106 : pp_chk mi_X9_openAt 115 106 (pp_cnt mi_X9_openAt 106) sg_X9_openAt_106 = true := by decide +kernel
def sg_X9_openAt_115 : pp_Seg := [(.aload_n 0, .inl (0, 0, [])), (.getfield 58, .inl (9, 26, [2, 1210])), (.iload 6, .inl (0, 0, [])), (.baload, .inl (1, 0, [])), (.ifCond .eq 12, .inl (134, 0, [])), (.iload 7, .inl (0, 0, [])), (.iload_n 1, .inl (0, 0, [])), (.if_icmp .ne 6, .inl (134, 0, [])), (.iload 6, .inl (0, 0, [])), (.ireturn, .inl (0, 0, []))]
theorem sk_X9_openAt_115 : pp_chk mi_X9_openAt 134 115 (pp_cnt mi_X9_openAt 115) sg_X9_openAt_115 = true := by decide +kernel
def sg_X9_openAt_134 : pp_Seg := [(.iinc 6 1, .inr (.inr (.int 1, 0))), (.goto (-134), .inl (3, 0, []))]
theorem sk_X9_openAt_134 : pp_chk mi_X9_openAt 140 134 (pp_cnt mi_X9_openAt 134) sg_X9_openAt_134 = true := by decide +kernel
def sg_X9_openAt_140 : pp_Seg := [(.iconst (-1), .inr (.inr (.int (-1), 0))), (.ireturn, .inl (0, 0, []))]
theorem sk_X9_openAt_140 : pp_chk mi_X9_openAt 142 140 (pp_cnt mi_X9_openAt 140) sg_X9_openAt_140 = true := by decide +kernel
def sg_X9_rounds_0 : pp_Seg := [(.lload_n 1, .inl (0, 0, [])), (.lstore 7, .inl (0, 0, [])), (.iconst 0, .inr (.inr (.int 0, 0))), (.istore 9, .inl (0, 0, []))]
theorem sk_X9_rounds_0 : pp_chk mi_X9_rounds 6 0 (pp_cnt mi_X9_rounds 0) sg_X9_rounds_0 = true := by decide +kernel
def sg_X9_rounds_6 : pp_Seg := [(.iload 9, .inl (0, 0, [])), (.bipush 8, .inr (.inr (.int 8, 0))), (.if_icmp .ge 45, .inl (55, 0, [])), (.aload_n 0, .inl (0, 0, [])), (.getfield 58, .inl (9, 26, [2, 1210])), (.iload 9, .inl (0, 0, [])), (.baload, .inl (1, 0, [])), (.ifCond .eq 29, .inl (49, 0, [])), (.aload_n 0, .inl (0, 0, [])), (.getfield 52, .inl (9, 24, [2, 1208])), (.iload 9, .inl (0, 0, [])), (.aload_n 0, .inl (0, 0, [])), (.getfield 55, .inl (9, 25, [2, 1209])), (.iload 9, .inl (0, 0, [])), (.laload, .inl (0, 0, [])), (.lastore, .inl (0, 0, [])), (.lload 7, .inl (0, 0, [])), (.aload_n 0, .inl (0, 0, [])), (.getfield 55, .inl (9, 25, [2, 1209])), (.iload 9, .inl (0, 0, [])), (.laload, .inl (0, 0, [])), (.lsub, .inl (0, 0, [])), (.lstore 7, .inl (0, 0, []))]
theorem sk_X9_rounds_6 : pp_chk mi_X9_rounds 49 6 (pp_cnt mi_X9_rounds 6) sg_X9_rounds_6 = true := by decide +kernel
def sg_X9_rounds_49 : pp_Seg := [(.iinc 9 1, .inr (.inr (.int 1, 0))), (.goto (-46), .inl (6, 0, []))]
theorem sk_X9_rounds_49 : pp_chk mi_X9_rounds 55 49 (pp_cnt mi_X9_rounds 49) sg_X9_rounds_49 = true := by decide +kernel
def sg_X9_rounds_55 : pp_Seg := [(.iconst 0, .inr (.inr (.int 0, 0))), (.istore 9, .inl (0, 0, []))]
theorem sk_X9_rounds_55 : pp_chk mi_X9_rounds 58 55 (pp_cnt mi_X9_rounds 55) sg_X9_rounds_55 = true := by decide +kernel
def sg_X9_rounds_58 : pp_Seg := [(.iload 9, .inl (0, 0, [])), (.bipush 8, .inr (.inr (.int 8, 0))), (.if_icmp .ge 62, .inl (124, 0, [])), (.aload_n 0, .inl (0, 0, [])), (.iload 9, .inl (0, 0, [])), (.lload_n 1, .inl (0, 0, [])), (.lload_n 3, .inl (0, 0, [])), (.invokevirtual 313, .inr (.inl (mi_X9_openAt, 9, 1518, [0, 0, 0, 0]))), (.istore 10, .inl (0, 0, [])), (.iload 10, .inl (0, 0, [])), (.iconst (-1), .inr (.inr (.int (-1), 0))), (.if_icmp .eq 40, .inl (118, 0, [])), (.lload 7, .inl (0, 0, [])), (.lconst 0, .inr (.inr (.long 0, 0))), (.lcmp, .inl (0, 0, [])), (.ifCond .le 33, .inl (118, 0, [])), (.aload_n 0, .inl (0, 0, [])), (.getfield 52, .inl (9, 24, [2, 1208])), (.iload 10, .inl (0, 0, [])), (.laload, .inl (0, 0, [])), (.lload 5, .inl (0, 0, [])), (.lcmp, .inl (0, 0, [])), (.ifCond .ge 20, .inl (118, 0, [])), (.aload_n 0, .inl (0, 0, [])), (.getfield 52, .inl (9, 24, [2, 1208])), (.iload 10, .inl (0, 0, [])), (.dup2, .inl (0, 0, [])), (.laload, .inl (0, 0, [])), (.lconst 1, .inr (.inr (.long 1, 0))), (.ladd, .inl (0, 0, [])), (.lastore, .inl (0, 0, [])), (.lload 7, .inl (0, 0, [])), (.lconst 1, .inr (.inr (.long 1, 0))), (.lsub, .inl (0, 0, [])), (.lstore 7, .inl (0, 0, []))]
theorem sk_X9_rounds_58 : pp_chk mi_X9_rounds 118 58 (pp_cnt mi_X9_rounds 58) sg_X9_rounds_58 = true := by decide +kernel
def sg_X9_rounds_118 : pp_Seg := [(.iinc 9 1, .inr (.inr (.int 1, 0))), (.goto (-63), .inl (58, 0, []))]
theorem sk_X9_rounds_118 : pp_chk mi_X9_rounds 124 118 (pp_cnt mi_X9_rounds 118) sg_X9_rounds_118 = true := by decide +kernel
def sg_X9_rounds_124 : pp_Seg := [(.lload 7, .inl (0, 0, [])), (.lreturn, .inl (0, 0, []))]
theorem sk_X9_rounds_124 : pp_chk mi_X9_rounds 127 124 (pp_cnt mi_X9_rounds 124) sg_X9_rounds_124 = true := by decide +kernel
def sg_X9_shares_0 : pp_Seg := [(.aload_n 0, .inl (0, 0, [])), (.invokevirtual 300, .inr (.inl (mi_X9_weighs, 9, 1505, [0]))), (.lload_n 1, .inl (0, 0, [])), (.aload_n 0, .inl (0, 0, [])), (.getfield 13, .inl (9, 2, [2, 1186])), (.bipush 6, .inr (.inr (.int 6, 0))), (.iaload, .inl (0, 0, [])), (.i2l, .inl (0, 0, [])), (.lmul, .inl (0, 0, [])), (.ldc2_w 303, .inr (.inr (.long 100, 1509))), (.ldiv, .inl (0, 0, [])), (.lstore_n 3, .inl (0, 0, [])), (.iconst 0, .inr (.inr (.int 0, 0))), (.istore 5, .inl (0, 0, []))]
theorem sk_X9_shares_0 : pp_chk mi_X9_shares 22 0 (pp_cnt mi_X9_shares 0) sg_X9_shares_0 = true := by decide +kernel
def sg_X9_shares_22 : pp_Seg := [(.iload 5, .inl (0, 0, [])), (.bipush 8, .inr (.inr (.int 8, 0))), (.if_icmp .ge 39, .inl (65, 0, [])), (.aload_n 0, .inl (0, 0, [])), (.getfield 52, .inl (9, 24, [2, 1208])), (.iload 5, .inl (0, 0, [])), (.lconst 0, .inr (.inr (.long 0, 0))), (.lastore, .inl (0, 0, [])), (.aload_n 0, .inl (0, 0, [])), (.getfield 58, .inl (9, 26, [2, 1210])), (.iload 5, .inl (0, 0, [])), (.aload_n 0, .inl (0, 0, [])), (.getfield 49, .inl (9, 23, [2, 1207])), (.iload 5, .inl (0, 0, [])), (.iaload, .inl (0, 0, [])), (.ifCond .le 7, .inl (57, 0, [])), (.iconst 1, .inr (.inr (.int 1, 0))), (.goto 4, .inl (58, 0, []))]
theorem sk_X9_shares_22 : pp_chk mi_X9_shares 57 22 (pp_cnt mi_X9_shares 22) sg_X9_shares_22 = true := by decide +kernel
def sg_X9_shares_57 : pp_Seg := [(.iconst 0, .inr (.inr (.int 0, 0)))]
theorem sk_X9_shares_57 : pp_chk mi_X9_shares 58 57 (pp_cnt mi_X9_shares 57) sg_X9_shares_57 = true := by decide +kernel
def sg_X9_shares_58 : pp_Seg := [(.bastore, .inl (1, 0, [])), (.iinc 5 1, .inr (.inr (.int 1, 0))), (.goto (-40), .inl (22, 0, []))]
theorem sk_X9_shares_58 : pp_chk mi_X9_shares 65 58 (pp_cnt mi_X9_shares 58) sg_X9_shares_58 = true := by decide +kernel
def sg_X9_shares_65 : pp_Seg := [(.lload_n 1, .inl (0, 0, [])), (.lstore 5, .inl (0, 0, [])), (.iconst 1, .inr (.inr (.int 1, 0))), (.istore 7, .inl (0, 0, []))]
theorem sk_X9_shares_65 : pp_chk mi_X9_shares 71 65 (pp_cnt mi_X9_shares 65) sg_X9_shares_65 = true := by decide +kernel
def sg_X9_shares_71 : pp_Seg := [(.iload 7, .inl (0, 0, [])), (.ifCond .eq 137, .inl (210, 0, [])), (.iconst 0, .inr (.inr (.int 0, 0))), (.istore 7, .inl (0, 0, [])), (.aload_n 0, .inl (0, 0, [])), (.invokevirtual 305, .inr (.inl (mi_X9_openOnes, 9, 1510, [0]))), (.lstore 8, .inl (0, 0, [])), (.lload 5, .inl (0, 0, [])), (.lstore 10, .inl (0, 0, [])), (.iconst 0, .inr (.inr (.int 0, 0))), (.istore 12, .inl (0, 0, []))]
theorem sk_X9_shares_71 : pp_chk mi_X9_shares 92 71 (pp_cnt mi_X9_shares 71) sg_X9_shares_71 = true := by decide +kernel
def sg_X9_shares_92 : pp_Seg := [(.iload 12, .inl (0, 0, [])), (.bipush 8, .inr (.inr (.int 8, 0))), (.if_icmp .ge 91, .inl (187, 0, [])), (.aload_n 0, .inl (0, 0, [])), (.getfield 55, .inl (9, 25, [2, 1209])), (.iload 12, .inl (0, 0, [])), (.aload_n 0, .inl (0, 0, [])), (.getfield 58, .inl (9, 26, [2, 1210])), (.iload 12, .inl (0, 0, [])), (.baload, .inl (1, 0, [])), (.ifCond .eq 20, .inl (132, 0, [])), (.lload 5, .inl (0, 0, [])), (.aload_n 0, .inl (0, 0, [])), (.getfield 49, .inl (9, 23, [2, 1207])), (.iload 12, .inl (0, 0, [])), (.iaload, .inl (0, 0, [])), (.i2l, .inl (0, 0, [])), (.lmul, .inl (0, 0, [])), (.lload 8, .inl (0, 0, [])), (.ldiv, .inl (0, 0, [])), (.goto 4, .inl (133, 0, []))]
theorem sk_X9_shares_92 : pp_chk mi_X9_shares 132 92 (pp_cnt mi_X9_shares 92) sg_X9_shares_92 = true := by decide +kernel
def sg_X9_shares_132 : pp_Seg := [(.lconst 0, .inr (.inr (.long 0, 0)))]
theorem sk_X9_shares_132 : pp_chk mi_X9_shares 133 132 (pp_cnt mi_X9_shares 132) sg_X9_shares_132 = true := by decide +kernel
def sg_X9_shares_133 : pp_Seg := [(.lastore, .inl (0, 0, [])), (.aload_n 0, .inl (0, 0, [])), (.getfield 58, .inl (9, 26, [2, 1210])), (.iload 12, .inl (0, 0, [])), (.baload, .inl (1, 0, [])), (.ifCond .eq 40, .inl (181, 0, [])), (.aload_n 0, .inl (0, 0, [])), (.getfield 55, .inl (9, 25, [2, 1209])), (.iload 12, .inl (0, 0, [])), (.laload, .inl (0, 0, [])), (.lload_n 3, .inl (0, 0, [])), (.lcmp, .inl (0, 0, [])), (.ifCond .le 28, .inl (181, 0, [])), (.aload_n 0, .inl (0, 0, [])), (.getfield 52, .inl (9, 24, [2, 1208])), (.iload 12, .inl (0, 0, [])), (.lload_n 3, .inl (0, 0, [])), (.lastore, .inl (0, 0, [])), (.aload_n 0, .inl (0, 0, [])), (.getfield 58, .inl (9, 26, [2, 1210])), (.iload 12, .inl (0, 0, [])), (.iconst 0, .inr (.inr (.int 0, 0))), (.bastore, .inl (1, 0, [])), (.lload 10, .inl (0, 0, [])), (.lload_n 3, .inl (0, 0, [])), (.lsub, .inl (0, 0, [])), (.lstore 10, .inl (0, 0, [])), (.iconst 1, .inr (.inr (.int 1, 0))), (.istore 7, .inl (0, 0, []))]
theorem sk_X9_shares_133 : pp_chk mi_X9_shares 181 133 (pp_cnt mi_X9_shares 133) sg_X9_shares_133 = true := by decide +kernel
def sg_X9_shares_181 : pp_Seg := [(.iinc 12 1, .inr (.inr (.int 1, 0))), (.goto (-92), .inl (92, 0, []))]
theorem sk_X9_shares_181 : pp_chk mi_X9_shares 187 181 (pp_cnt mi_X9_shares 181) sg_X9_shares_181 = true := by decide +kernel
def sg_X9_shares_187 : pp_Seg := [(.iload 7, .inl (0, 0, [])), (.ifCond .ne 14, .inl (203, 0, [])), (.aload_n 0, .inl (0, 0, [])), (.lload 5, .inl (0, 0, [])), (.lload 8, .inl (0, 0, [])), (.lload_n 3, .inl (0, 0, [])), (.invokevirtual 309, .inr (.inl (mi_X9_rounds, 9, 1514, [0, 0, 0, 0]))), (.lstore 10, .inl (0, 0, []))]
theorem sk_X9_shares_187 : pp_chk mi_X9_shares 203 187 (pp_cnt mi_X9_shares 187) sg_X9_shares_187 = true := by decide +kernel
def sg_X9_shares_203 : pp_Seg := [(.lload 10, .inl (0, 0, [])), (.lstore 5, .inl (0, 0, [])), (.goto (-136), .inl (71, 0, []))]
theorem sk_X9_shares_203 : pp_chk mi_X9_shares 210 203 (pp_cnt mi_X9_shares 203) sg_X9_shares_203 = true := by decide +kernel
def sg_X9_shares_210 : pp_Seg := [(.lload 5, .inl (0, 0, [])), (.lreturn, .inl (0, 0, []))]
theorem sk_X9_shares_210 : pp_chk mi_X9_shares 213 210 (pp_cnt mi_X9_shares 210) sg_X9_shares_210 = true := by decide +kernel
def sg_X9_shareOf_0 : pp_Seg := [(.aload_n 0, .inl (0, 0, [])), (.iload_n 1, .inl (0, 0, [])), (.invokevirtual 288, .inr (.inl (mi_X9_noMember, 9, 1471, [0, 0]))), (.ifCond .ne 28, .inl (33, 0, [])), (.aload_n 0, .inl (0, 0, [])), (.iload_n 2, .inl (0, 0, [])), (.i2l, .inl (0, 0, [])), (.lconst 0, .inr (.inr (.long 0, 0))), (.ldc2_w 319, .inr (.inr (.long 1000000000, 1500))), (.invokestatic 121, .inr (.inl (mi_X9_within, 0, 1294, [0, 0, 0]))), (.ifCond .ne 7, .inl (25, 0, [])), (.iconst 1, .inr (.inr (.int 1, 0))), (.goto 4, .inl (26, 0, []))]
theorem sk_X9_shareOf_0 : pp_chk mi_X9_shareOf 25 0 (pp_cnt mi_X9_shareOf 0) sg_X9_shareOf_0 = true := by decide +kernel
def sg_X9_shareOf_25 : pp_Seg := [(.iconst 0, .inr (.inr (.int 0, 0)))]
theorem sk_X9_shareOf_25 : pp_chk mi_X9_shareOf 26 25 (pp_cnt mi_X9_shareOf 25) sg_X9_shareOf_25 = true := by decide +kernel
def sg_X9_shareOf_26 : pp_Seg := [(.iconst 2, .inr (.inr (.int 2, 0))), (.invokevirtual 244, .inr (.inl (mi_X9_throwsIf, 9, 1297, [0, 0, 0]))), (.ifCond .eq 5, .inl (35, 0, []))]
theorem sk_X9_shareOf_26 : pp_chk mi_X9_shareOf 33 26 (pp_cnt mi_X9_shareOf 26) sg_X9_shareOf_26 = true := by decide +kernel
def sg_X9_shareOf_33 : pp_Seg := [(.iconst 0, .inr (.inr (.int 0, 0))), (.ireturn, .inl (0, 0, []))]
theorem sk_X9_shareOf_33 : pp_chk mi_X9_shareOf 35 33 (pp_cnt mi_X9_shareOf 33) sg_X9_shareOf_33 = true := by decide +kernel
def sg_X9_shareOf_35 : pp_Seg := [(.aload_n 0, .inl (0, 0, [])), (.iload_n 2, .inl (0, 0, [])), (.i2l, .inl (0, 0, [])), (.invokevirtual 321, .inr (.inl (mi_X9_shares, 9, 1501, [0, 0]))), (.pop2, .inl (0, 0, [])), (.aload_n 0, .inl (0, 0, [])), (.getfield 52, .inl (9, 24, [2, 1208])), (.iload_n 1, .inl (0, 0, [])), (.laload, .inl (0, 0, [])), (.l2i, .inl (0, 0, [])), (.ireturn, .inl (0, 0, []))]
theorem sk_X9_shareOf_35 : pp_chk mi_X9_shareOf 50 35 (pp_cnt mi_X9_shareOf 35) sg_X9_shareOf_35 = true := by decide +kernel
def sg_X9_heaviness_0 : pp_Seg := [(.lconst 0, .inr (.inr (.long 0, 0))), (.lstore_n 2, .inl (0, 0, [])), (.iconst 0, .inr (.inr (.int 0, 0))), (.istore 4, .inl (0, 0, []))]
theorem sk_X9_heaviness_0 : pp_chk mi_X9_heaviness 5 0 (pp_cnt mi_X9_heaviness 0) sg_X9_heaviness_0 = true := by decide +kernel
def sg_X9_heaviness_5 : pp_Seg := [(.iload 4, .inl (0, 0, [])), (.bipush 8, .inr (.inr (.int 8, 0))), (.if_icmp .ge 33, .inl (42, 0, [])), (.lload_n 2, .inl (0, 0, [])), (.iload_n 1, .inl (0, 0, [])), (.iload 4, .inl (0, 0, [])), (.invokestatic 156, .inr (.inl (mi_X9_has, 0, 1363, [0, 0]))), (.ifCond .eq 14, .inl (33, 0, [])), (.aload_n 0, .inl (0, 0, [])), (.getfield 49, .inl (9, 23, [2, 1207])), (.iload 4, .inl (0, 0, [])), (.iaload, .inl (0, 0, [])), (.i2l, .inl (0, 0, [])), (.goto 4, .inl (34, 0, []))]
theorem sk_X9_heaviness_5 : pp_chk mi_X9_heaviness 33 5 (pp_cnt mi_X9_heaviness 5) sg_X9_heaviness_5 = true := by decide +kernel
def sg_X9_heaviness_33 : pp_Seg := [(.lconst 0, .inr (.inr (.long 0, 0)))]
theorem sk_X9_heaviness_33 : pp_chk mi_X9_heaviness 34 33 (pp_cnt mi_X9_heaviness 33) sg_X9_heaviness_33 = true := by decide +kernel
def sg_X9_heaviness_34 : pp_Seg := [(.ladd, .inl (0, 0, [])), (.lstore_n 2, .inl (0, 0, [])), (.iinc 4 1, .inr (.inr (.int 1, 0))), (.goto (-34), .inl (5, 0, []))]
theorem sk_X9_heaviness_34 : pp_chk mi_X9_heaviness 42 34 (pp_cnt mi_X9_heaviness 34) sg_X9_heaviness_34 = true := by decide +kernel
def sg_X9_heaviness_42 : pp_Seg := [(.lload_n 2, .inl (0, 0, [])), (.lreturn, .inl (0, 0, []))]
theorem sk_X9_heaviness_42 : pp_chk mi_X9_heaviness 44 42 (pp_cnt mi_X9_heaviness 42) sg_X9_heaviness_42 = true := by decide +kernel
def sg_X9_isMajority_0 : pp_Seg := [(.ldc2_w 324, .inr (.inr (.long 2, 1531))), (.aload_n 0, .inl (0, 0, [])), (.iload_n 1, .inl (0, 0, [])), (.invokevirtual 326, .inr (.inl (mi_X9_heaviness, 9, 1532, [0, 0]))), (.lmul, .inl (0, 0, [])), (.aload_n 0, .inl (0, 0, [])), (.sipush 255, .inr (.inr (.int 255, 0))), (.invokevirtual 326, .inr (.inl (mi_X9_heaviness, 9, 1532, [0, 0]))), (.lcmp, .inl (0, 0, [])), (.ifCond .le 7, .inl (24, 0, [])), (.iconst 1, .inr (.inr (.int 1, 0))), (.goto 4, .inl (25, 0, []))]
theorem sk_X9_isMajority_0 : pp_chk mi_X9_isMajority 24 0 (pp_cnt mi_X9_isMajority 0) sg_X9_isMajority_0 = true := by decide +kernel
def sg_X9_isMajority_24 : pp_Seg := [(.iconst 0, .inr (.inr (.int 0, 0)))]
theorem sk_X9_isMajority_24 : pp_chk mi_X9_isMajority 25 24 (pp_cnt mi_X9_isMajority 24) sg_X9_isMajority_24 = true := by decide +kernel
def sg_X9_isMajority_25 : pp_Seg := [(.ireturn, .inl (0, 0, []))]
theorem sk_X9_isMajority_25 : pp_chk mi_X9_isMajority 26 25 (pp_cnt mi_X9_isMajority 25) sg_X9_isMajority_25 = true := by decide +kernel
def sg_X9_smallestMajority_0 : pp_Seg := [(.aload_n 0, .inl (0, 0, [])), (.iconst 0, .inr (.inr (.int 0, 0))), (.putfield 80, .inl (9, 0, [0, 1184])), (.aload_n 0, .inl (0, 0, [])), (.invokevirtual 300, .inr (.inl (mi_X9_weighs, 9, 1505, [0]))), (.iconst (-1), .inr (.inr (.int (-1), 0))), (.istore_n 1, .inl (0, 0, [])), (.iconst 0, .inr (.inr (.int 0, 0))), (.istore_n 2, .inl (0, 0, []))]
theorem sk_X9_smallestMajority_0 : pp_chk mi_X9_smallestMajority 13 0 (pp_cnt mi_X9_smallestMajority 0) sg_X9_smallestMajority_0 = true := by decide +kernel
def sg_X9_smallestMajority_13 : pp_Seg := [(.iload_n 2, .inl (0, 0, [])), (.iconst 1, .inr (.inr (.int 1, 0))), (.aload_n 0, .inl (0, 0, [])), (.getfield 7, .inl (9, 1, [2, 1185])), (.bipush 7, .inr (.inr (.int 7, 0))), (.laload, .inl (0, 0, [])), (.l2i, .inl (0, 0, [])), (.ishl, .inl (0, 0, [])), (.if_icmp .ge 41, .inl (65, 0, [])), (.aload_n 0, .inl (0, 0, [])), (.iload_n 2, .inl (0, 0, [])), (.invokevirtual 330, .inr (.inl (mi_X9_isMajority, 9, 1527, [0, 0]))), (.ifCond .eq 25, .inl (57, 0, [])), (.iload_n 1, .inl (0, 0, [])), (.iconst (-1), .inr (.inr (.int (-1), 0))), (.if_icmp .eq 16, .inl (53, 0, [])), (.iload_n 2, .inl (0, 0, [])), (.i2l, .inl (0, 0, [])), (.invokestatic 264, .inr (.inl (mi_X9_bits, 0, 1436, [0]))), (.iload_n 1, .inl (0, 0, [])), (.i2l, .inl (0, 0, [])), (.invokestatic 264, .inr (.inl (mi_X9_bits, 0, 1436, [0]))), (.if_icmp .ge 7, .inl (57, 0, []))]
theorem sk_X9_smallestMajority_13 : pp_chk mi_X9_smallestMajority 53 13 (pp_cnt mi_X9_smallestMajority 13) sg_X9_smallestMajority_13 = true := by decide +kernel
def sg_X9_smallestMajority_53 : pp_Seg := [(.iload_n 2, .inl (0, 0, [])), (.goto 4, .inl (58, 0, []))]
theorem sk_X9_smallestMajority_53 : pp_chk mi_X9_smallestMajority 57 53 (pp_cnt mi_X9_smallestMajority 53) sg_X9_smallestMajority_53 = true := by decide +kernel
def sg_X9_smallestMajority_57 : pp_Seg := [(.iload_n 1, .inl (0, 0, []))]
theorem sk_X9_smallestMajority_57 : pp_chk mi_X9_smallestMajority 58 57 (pp_cnt mi_X9_smallestMajority 57) sg_X9_smallestMajority_57 = true := by decide +kernel
def sg_X9_smallestMajority_58 : pp_Seg := [(.istore_n 1, .inl (0, 0, [])), (.iinc 2 1, .inr (.inr (.int 1, 0))), (.goto (-49), .inl (13, 0, []))]
theorem sk_X9_smallestMajority_58 : pp_chk mi_X9_smallestMajority 65 58 (pp_cnt mi_X9_smallestMajority 58) sg_X9_smallestMajority_58 = true := by decide +kernel
def sg_X9_smallestMajority_65 : pp_Seg := [(.iload_n 1, .inl (0, 0, [])), (.ireturn, .inl (0, 0, []))]
theorem sk_X9_smallestMajority_65 : pp_chk mi_X9_smallestMajority 67 65 (pp_cnt mi_X9_smallestMajority 65) sg_X9_smallestMajority_65 = true := by decide +kernel
def sg_X9_power_0 : pp_Seg := [(.aload_n 0, .inl (0, 0, [])), (.iload_n 1, .inl (0, 0, [])), (.invokevirtual 288, .inr (.inl (mi_X9_noMember, 9, 1471, [0, 0]))), (.ifCond .eq 5, .inl (10, 0, [])), (.iconst 0, .inr (.inr (.int 0, 0))), (.ireturn, .inl (0, 0, []))]
theorem sk_X9_power_0 : pp_chk mi_X9_power 10 0 (pp_cnt mi_X9_power 0) sg_X9_power_0 = true := by decide +kernel
def sg_X9_power_10 : pp_Seg := [(.aload_n 0, .inl (0, 0, [])), (.invokevirtual 300, .inr (.inl (mi_X9_weighs, 9, 1505, [0]))), (.iconst 0, .inr (.inr (.int 0, 0))), (.istore_n 2, .inl (0, 0, [])), (.iconst 0, .inr (.inr (.int 0, 0))), (.istore_n 3, .inl (0, 0, []))]
theorem sk_X9_power_10 : pp_chk mi_X9_power 18 10 (pp_cnt mi_X9_power 10) sg_X9_power_10 = true := by decide +kernel
def sg_X9_power_18 : pp_Seg := [(.iload_n 3, .inl (0, 0, [])), (.iconst 1, .inr (.inr (.int 1, 0))), (.aload_n 0, .inl (0, 0, [])), (.getfield 7, .inl (9, 1, [2, 1185])), (.bipush 7, .inr (.inr (.int 7, 0))), (.laload, .inl (0, 0, [])), (.l2i, .inl (0, 0, [])), (.ishl, .inl (0, 0, [])), (.if_icmp .ge 45, .inl (74, 0, [])), (.iload_n 2, .inl (0, 0, [])), (.iload_n 3, .inl (0, 0, [])), (.iload_n 1, .inl (0, 0, [])), (.invokestatic 156, .inr (.inl (mi_X9_has, 0, 1363, [0, 0]))), (.ifCond .ne 27, .inl (65, 0, [])), (.aload_n 0, .inl (0, 0, [])), (.iload_n 3, .inl (0, 0, [])), (.invokevirtual 330, .inr (.inl (mi_X9_isMajority, 9, 1527, [0, 0]))), (.ifCond .ne 19, .inl (65, 0, [])), (.aload_n 0, .inl (0, 0, [])), (.iload_n 3, .inl (0, 0, [])), (.iconst 1, .inr (.inr (.int 1, 0))), (.iload_n 1, .inl (0, 0, [])), (.ishl, .inl (0, 0, [])), (.ior, .inl (0, 0, [])), (.invokevirtual 330, .inr (.inl (mi_X9_isMajority, 9, 1527, [0, 0]))), (.ifCond .eq 7, .inl (65, 0, [])), (.iconst 1, .inr (.inr (.int 1, 0))), (.goto 4, .inl (66, 0, []))]
theorem sk_X9_power_18 : pp_chk mi_X9_power 65 18 (pp_cnt mi_X9_power 18) sg_X9_power_18 = true := by decide +kernel
def sg_X9_power_65 : pp_Seg := [(.iconst 0, .inr (.inr (.int 0, 0)))]
theorem sk_X9_power_65 : pp_chk mi_X9_power 66 65 (pp_cnt mi_X9_power 65) sg_X9_power_65 = true := by decide +kernel
def sg_X9_power_66 : pp_Seg := [(.iadd, .inl (0, 0, [])), (.istore_n 2, .inl (0, 0, [])), (.iinc 3 1, .inr (.inr (.int 1, 0))), (.goto (-53), .inl (18, 0, []))]
theorem sk_X9_power_66 : pp_chk mi_X9_power 74 66 (pp_cnt mi_X9_power 66) sg_X9_power_66 = true := by decide +kernel
def sg_X9_power_74 : pp_Seg := [(.iload_n 2, .inl (0, 0, [])), (.ireturn, .inl (0, 0, []))]
theorem sk_X9_power_74 : pp_chk mi_X9_power 76 74 (pp_cnt mi_X9_power 74) sg_X9_power_74 = true := by decide +kernel
def sg_X9_noLicensee_0 : pp_Seg := [(.aload_n 0, .inl (0, 0, [])), (.iconst 0, .inr (.inr (.int 0, 0))), (.putfield 80, .inl (9, 0, [0, 1184])), (.aload_n 0, .inl (0, 0, [])), (.iload_n 1, .inl (0, 0, [])), (.i2l, .inl (0, 0, [])), (.aload_n 0, .inl (0, 0, [])), (.getfield 13, .inl (9, 2, [2, 1186])), (.iconst 3, .inr (.inr (.int 3, 0))), (.iaload, .inl (0, 0, [])), (.i2l, .inl (0, 0, [])), (.invokevirtual 256, .inr (.inl (mi_X9_no, 9, 1425, [0, 0, 0]))), (.ireturn, .inl (0, 0, []))]
theorem sk_X9_noLicensee_0 : pp_chk mi_X9_noLicensee 19 0 (pp_cnt mi_X9_noLicensee 0) sg_X9_noLicensee_0 = true := by decide +kernel
def sg_X9_noReport_0 : pp_Seg := [(.aload_n 0, .inl (0, 0, [])), (.iload_n 1, .inl (0, 0, [])), (.invokevirtual 333, .inr (.inl (mi_X9_noLicensee, 9, 1544, [0, 0]))), (.ifCond .ne 19, .inl (24, 0, [])), (.aload_n 0, .inl (0, 0, [])), (.iload_n 2, .inl (0, 0, [])), (.i2l, .inl (0, 0, [])), (.aload_n 0, .inl (0, 0, [])), (.getfield 13, .inl (9, 2, [2, 1186])), (.iconst 1, .inr (.inr (.int 1, 0))), (.iaload, .inl (0, 0, [])), (.i2l, .inl (0, 0, [])), (.invokevirtual 256, .inr (.inl (mi_X9_no, 9, 1425, [0, 0, 0]))), (.ifCond .eq 7, .inl (28, 0, []))]
theorem sk_X9_noReport_0 : pp_chk mi_X9_noReport 24 0 (pp_cnt mi_X9_noReport 0) sg_X9_noReport_0 = true := by decide +kernel
def sg_X9_noReport_24 : pp_Seg := [(.iconst 1, .inr (.inr (.int 1, 0))), (.goto 4, .inl (29, 0, []))]
theorem sk_X9_noReport_24 : pp_chk mi_X9_noReport 28 24 (pp_cnt mi_X9_noReport 24) sg_X9_noReport_24 = true := by decide +kernel
def sg_X9_noReport_28 : pp_Seg := [(.iconst 0, .inr (.inr (.int 0, 0)))]
theorem sk_X9_noReport_28 : pp_chk mi_X9_noReport 29 28 (pp_cnt mi_X9_noReport 28) sg_X9_noReport_28 = true := by decide +kernel
def sg_X9_noReport_29 : pp_Seg := [(.ireturn, .inl (0, 0, []))]
theorem sk_X9_noReport_29 : pp_chk mi_X9_noReport 30 29 (pp_cnt mi_X9_noReport 29) sg_X9_noReport_29 = true := by decide +kernel
def sg_X9_owed_0 : pp_Seg := [(.aload_n 0, .inl (0, 0, [])), (.iload_n 1, .inl (0, 0, [])), (.invokevirtual 333, .inr (.inl (mi_X9_noLicensee, 9, 1544, [0, 0]))), (.ifCond .eq 7, .inl (12, 0, [])), (.lconst 0, .inr (.inr (.long 0, 0))), (.goto 13, .inl (22, 0, []))]
theorem sk_X9_owed_0 : pp_chk mi_X9_owed 12 0 (pp_cnt mi_X9_owed 0) sg_X9_owed_0 = true := by decide +kernel
def sg_X9_owed_12 : pp_Seg := [(.aload_n 0, .inl (0, 0, [])), (.getfield 7, .inl (9, 1, [2, 1185])), (.sipush 177, .inr (.inr (.int 177, 0))), (.iload_n 1, .inl (0, 0, [])), (.iadd, .inl (0, 0, [])), (.laload, .inl (0, 0, []))]
theorem sk_X9_owed_12 : pp_chk mi_X9_owed 22 12 (pp_cnt mi_X9_owed 12) sg_X9_owed_12 = true := by decide +kernel
def sg_X9_owed_22 : pp_Seg := [(.lreturn, .inl (0, 0, []))]
theorem sk_X9_owed_22 : pp_chk mi_X9_owed 23 22 (pp_cnt mi_X9_owed 22) sg_X9_owed_22 = true := by decide +kernel
def sg_X9_reported_0 : pp_Seg := [(.aload_n 0, .inl (0, 0, [])), (.iload_n 1, .inl (0, 0, [])), (.iload_n 2, .inl (0, 0, [])), (.invokevirtual 336, .inr (.inl (mi_X9_noReport, 9, 1552, [0, 0, 0]))), (.ifCond .eq 7, .inl (13, 0, [])), (.iconst 0, .inr (.inr (.int 0, 0))), (.goto 18, .inl (28, 0, []))]
theorem sk_X9_reported_0 : pp_chk mi_X9_reported 13 0 (pp_cnt mi_X9_reported 0) sg_X9_reported_0 = true := by decide +kernel
def sg_X9_reported_13 : pp_Seg := [(.aload_n 0, .inl (0, 0, [])), (.getfield 7, .inl (9, 1, [2, 1185])), (.sipush 183, .inr (.inr (.int 183, 0))), (.iconst 4, .inr (.inr (.int 4, 0))), (.iload_n 1, .inl (0, 0, [])), (.imul, .inl (0, 0, [])), (.iadd, .inl (0, 0, [])), (.iload_n 2, .inl (0, 0, [])), (.iadd, .inl (0, 0, [])), (.laload, .inl (0, 0, [])), (.l2i, .inl (0, 0, []))]
theorem sk_X9_reported_13 : pp_chk mi_X9_reported 28 13 (pp_cnt mi_X9_reported 13) sg_X9_reported_13 = true := by decide +kernel
def sg_X9_reported_28 : pp_Seg := [(.ireturn, .inl (0, 0, []))]
theorem sk_X9_reported_28 : pp_chk mi_X9_reported 29 28 (pp_cnt mi_X9_reported 28) sg_X9_reported_28 = true := by decide +kernel
def sg_X9_account_0 : pp_Seg := [(.aload_n 0, .inl (0, 0, [])), (.iload_n 1, .inl (0, 0, [])), (.invokevirtual 288, .inr (.inl (mi_X9_noMember, 9, 1471, [0, 0]))), (.ifCond .eq 7, .inl (12, 0, [])), (.lconst 0, .inr (.inr (.long 0, 0))), (.goto 13, .inl (22, 0, []))]
theorem sk_X9_account_0 : pp_chk mi_X9_account 12 0 (pp_cnt mi_X9_account 0) sg_X9_account_0 = true := by decide +kernel
def sg_X9_account_12 : pp_Seg := [(.aload_n 0, .inl (0, 0, [])), (.getfield 7, .inl (9, 1, [2, 1185])), (.sipush 213, .inr (.inr (.int 213, 0))), (.iload_n 1, .inl (0, 0, [])), (.iadd, .inl (0, 0, [])), (.laload, .inl (0, 0, []))]
theorem sk_X9_account_12 : pp_chk mi_X9_account 22 12 (pp_cnt mi_X9_account 12) sg_X9_account_12 = true := by decide +kernel
def sg_X9_account_22 : pp_Seg := [(.lreturn, .inl (0, 0, []))]
theorem sk_X9_account_22 : pp_chk mi_X9_account 23 22 (pp_cnt mi_X9_account 22) sg_X9_account_22 = true := by decide +kernel
def sg_X9_latestShare_0 : pp_Seg := [(.aload_n 0, .inl (0, 0, [])), (.iload_n 1, .inl (0, 0, [])), (.invokevirtual 288, .inr (.inl (mi_X9_noMember, 9, 1471, [0, 0]))), (.ifCond .eq 7, .inl (12, 0, [])), (.lconst 0, .inr (.inr (.long 0, 0))), (.goto 13, .inl (22, 0, []))]
theorem sk_X9_latestShare_0 : pp_chk mi_X9_latestShare 12 0 (pp_cnt mi_X9_latestShare 0) sg_X9_latestShare_0 = true := by decide +kernel
def sg_X9_latestShare_12 : pp_Seg := [(.aload_n 0, .inl (0, 0, [])), (.getfield 7, .inl (9, 1, [2, 1185])), (.sipush 221, .inr (.inr (.int 221, 0))), (.iload_n 1, .inl (0, 0, [])), (.iadd, .inl (0, 0, [])), (.laload, .inl (0, 0, []))]
theorem sk_X9_latestShare_12 : pp_chk mi_X9_latestShare 22 12 (pp_cnt mi_X9_latestShare 12) sg_X9_latestShare_12 = true := by decide +kernel
def sg_X9_latestShare_22 : pp_Seg := [(.lreturn, .inl (0, 0, []))]
theorem sk_X9_latestShare_22 : pp_chk mi_X9_latestShare 23 22 (pp_cnt mi_X9_latestShare 22) sg_X9_latestShare_22 = true := by decide +kernel
def sg_X9_total_0 : pp_Seg := [(.aload_n 0, .inl (0, 0, [])), (.iconst 0, .inr (.inr (.int 0, 0))), (.putfield 80, .inl (9, 0, [0, 1184])), (.aload_n 0, .inl (0, 0, [])), (.iload_n 1, .inl (0, 0, [])), (.i2l, .inl (0, 0, [])), (.lconst 0, .inr (.inr (.long 0, 0))), (.ldc2_w 339, .inr (.inr (.long 4, 1568))), (.invokestatic 121, .inr (.inl (mi_X9_within, 0, 1294, [0, 0, 0]))), (.ifCond .ne 7, .inl (22, 0, [])), (.iconst 1, .inr (.inr (.int 1, 0))), (.goto 4, .inl (23, 0, []))]
theorem sk_X9_total_0 : pp_chk mi_X9_total 22 0 (pp_cnt mi_X9_total 0) sg_X9_total_0 = true := by decide +kernel
def sg_X9_total_22 : pp_Seg := [(.iconst 0, .inr (.inr (.int 0, 0)))]
theorem sk_X9_total_22 : pp_chk mi_X9_total 23 22 (pp_cnt mi_X9_total 22) sg_X9_total_22 = true := by decide +kernel
def sg_X9_total_23 : pp_Seg := [(.iconst 1, .inr (.inr (.int 1, 0))), (.invokevirtual 244, .inr (.inl (mi_X9_throwsIf, 9, 1297, [0, 0, 0]))), (.ifCond .eq 7, .inl (34, 0, [])), (.lconst 0, .inr (.inr (.long 0, 0))), (.goto 11, .inl (42, 0, []))]
theorem sk_X9_total_23 : pp_chk mi_X9_total 34 23 (pp_cnt mi_X9_total 23) sg_X9_total_23 = true := by decide +kernel
def sg_X9_total_34 : pp_Seg := [(.aload_n 0, .inl (0, 0, [])), (.getfield 7, .inl (9, 1, [2, 1185])), (.iconst 2, .inr (.inr (.int 2, 0))), (.iload_n 1, .inl (0, 0, [])), (.iadd, .inl (0, 0, [])), (.laload, .inl (0, 0, []))]
theorem sk_X9_total_34 : pp_chk mi_X9_total 42 34 (pp_cnt mi_X9_total 34) sg_X9_total_34 = true := by decide +kernel
def sg_X9_total_42 : pp_Seg := [(.lreturn, .inl (0, 0, []))]
theorem sk_X9_total_42 : pp_chk mi_X9_total 43 42 (pp_cnt mi_X9_total 42) sg_X9_total_42 = true := by decide +kernel
def sg_X9_largestDebtor_0 : pp_Seg := [(.aload_n 0, .inl (0, 0, [])), (.iconst 0, .inr (.inr (.int 0, 0))), (.putfield 80, .inl (9, 0, [0, 1184])), (.iconst (-1), .inr (.inr (.int (-1), 0))), (.istore_n 1, .inl (0, 0, [])), (.iconst 0, .inr (.inr (.int 0, 0))), (.istore_n 2, .inl (0, 0, []))]
theorem sk_X9_largestDebtor_0 : pp_chk mi_X9_largestDebtor 9 0 (pp_cnt mi_X9_largestDebtor 0) sg_X9_largestDebtor_0 = true := by decide +kernel
def sg_X9_largestDebtor_9 : pp_Seg := [(.iload_n 2, .inl (0, 0, [])), (.aload_n 0, .inl (0, 0, [])), (.getfield 13, .inl (9, 2, [2, 1186])), (.iconst 3, .inr (.inr (.int 3, 0))), (.iaload, .inl (0, 0, [])), (.if_icmp .ge 48, .inl (64, 0, [])), (.aload_n 0, .inl (0, 0, [])), (.getfield 7, .inl (9, 1, [2, 1185])), (.sipush 177, .inr (.inr (.int 177, 0))), (.iload_n 2, .inl (0, 0, [])), (.iadd, .inl (0, 0, [])), (.laload, .inl (0, 0, [])), (.iload_n 1, .inl (0, 0, [])), (.iconst (-1), .inr (.inr (.int (-1), 0))), (.if_icmp .ne 7, .inl (38, 0, [])), (.lconst 0, .inr (.inr (.long 0, 0))), (.goto 13, .inl (48, 0, []))]
theorem sk_X9_largestDebtor_9 : pp_chk mi_X9_largestDebtor 38 9 (pp_cnt mi_X9_largestDebtor 9) sg_X9_largestDebtor_9 = true := by decide +kernel
def sg_X9_largestDebtor_38 : pp_Seg := [(.aload_n 0, .inl (0, 0, [])), (.getfield 7, .inl (9, 1, [2, 1185])), (.sipush 177, .inr (.inr (.int 177, 0))), (.iload_n 1, .inl (0, 0, [])), (.iadd, .inl (0, 0, [])), (.laload, .inl (0, 0, []))]
theorem sk_X9_largestDebtor_38 : pp_chk mi_X9_largestDebtor 48 38 (pp_cnt mi_X9_largestDebtor 38) sg_X9_largestDebtor_38 = true := by decide +kernel
def sg_X9_largestDebtor_48 : pp_Seg := [(.lcmp, .inl (0, 0, [])), (.ifCond .le 7, .inl (56, 0, [])), (.iload_n 2, .inl (0, 0, [])), (.goto 4, .inl (57, 0, []))]
theorem sk_X9_largestDebtor_48 : pp_chk mi_X9_largestDebtor 56 48 (pp_cnt mi_X9_largestDebtor 48) sg_X9_largestDebtor_48 = true := by decide +kernel
def sg_X9_largestDebtor_56 : pp_Seg := [(.iload_n 1, .inl (0, 0, []))]
theorem sk_X9_largestDebtor_56 : pp_chk mi_X9_largestDebtor 57 56 (pp_cnt mi_X9_largestDebtor 56) sg_X9_largestDebtor_56 = true := by decide +kernel
def sg_X9_largestDebtor_57 : pp_Seg := [(.istore_n 1, .inl (0, 0, [])), (.iinc 2 1, .inr (.inr (.int 1, 0))), (.goto (-52), .inl (9, 0, []))]
theorem sk_X9_largestDebtor_57 : pp_chk mi_X9_largestDebtor 64 57 (pp_cnt mi_X9_largestDebtor 57) sg_X9_largestDebtor_57 = true := by decide +kernel
def sg_X9_largestDebtor_64 : pp_Seg := [(.iload_n 1, .inl (0, 0, [])), (.ireturn, .inl (0, 0, []))]
theorem sk_X9_largestDebtor_64 : pp_chk mi_X9_largestDebtor 66 64 (pp_cnt mi_X9_largestDebtor 64) sg_X9_largestDebtor_64 = true := by decide +kernel
def sg_X9_copies_0 : pp_Seg := [(.iconst 0, .inr (.inr (.int 0, 0))), (.istore 5, .inl (0, 0, []))]
theorem sk_X9_copies_0 : pp_chk mi_X9_copies 3 0 (pp_cnt mi_X9_copies 0) sg_X9_copies_0 = true := by decide +kernel
def sg_X9_copies_3 : pp_Seg := [(.iload 5, .inl (0, 0, [])), (.iload 4, .inl (0, 0, [])), (.if_icmp .ge 21, .inl (28, 0, [])), (.aload_n 2, .inl (0, 0, [])), (.iload_n 3, .inl (0, 0, [])), (.iload 5, .inl (0, 0, [])), (.iadd, .inl (0, 0, [])), (.aload_n 0, .inl (0, 0, [])), (.iload_n 1, .inl (0, 0, [])), (.iload 5, .inl (0, 0, [])), (.iadd, .inl (0, 0, [])), (.laload, .inl (0, 0, [])), (.lastore, .inl (0, 0, [])), (.iinc 5 1, .inr (.inr (.int 1, 0))), (.goto (-22), .inl (3, 0, []))]
theorem sk_X9_copies_3 : pp_chk mi_X9_copies 28 3 (pp_cnt mi_X9_copies 3) sg_X9_copies_3 = true := by decide +kernel
def sg_X9_copies_28 : pp_Seg := [(.return_, .inl (0, 0, []))]
theorem sk_X9_copies_28 : pp_chk mi_X9_copies 29 28 (pp_cnt mi_X9_copies 28) sg_X9_copies_28 = true := by decide +kernel
def sg_X9_keeps_0 : pp_Seg := [(.aload_n 0, .inl (0, 0, [])), (.getfield 251, .inl (9, 27, [0, 1211])), (.bipush 10, .inr (.inr (.int 10, 0))), (.if_icmp .ne 36, .inl (42, 0, [])), (.aload_n 0, .inl (0, 0, [])), (.dup, .inl (0, 0, [])), (.getfield 251, .inl (9, 27, [0, 1211])), (.iconst 1, .inr (.inr (.int 1, 0))), (.isub, .inl (0, 0, [])), (.putfield 251, .inl (9, 27, [0, 1211])), (.aload_n 0, .inl (0, 0, [])), (.getfield 62, .inl (9, 28, [2, 1212])), (.sipush 229, .inr (.inr (.int 229, 0))), (.aload_n 0, .inl (0, 0, [])), (.getfield 62, .inl (9, 28, [2, 1212])), (.iconst 0, .inr (.inr (.int 0, 0))), (.sipush 229, .inr (.inr (.int 229, 0))), (.aload_n 0, .inl (0, 0, [])), (.getfield 251, .inl (9, 27, [0, 1211])), (.imul, .inl (0, 0, [])), (.invokestatic 356, .inr (.inl (mi_X9_copies, 0, 1581, [0, 0, 0, 0, 0])))]
theorem sk_X9_keeps_0 : pp_chk mi_X9_keeps 42 0 (pp_cnt mi_X9_keeps 0) sg_X9_keeps_0 = true := by decide +kernel
def sg_X9_keeps_42 : pp_Seg := [(.aload_n 0, .inl (0, 0, [])), (.getfield 7, .inl (9, 1, [2, 1185])), (.iconst 0, .inr (.inr (.int 0, 0))), (.aload_n 0, .inl (0, 0, [])), (.getfield 62, .inl (9, 28, [2, 1212])), (.sipush 229, .inr (.inr (.int 229, 0))), (.aload_n 0, .inl (0, 0, [])), (.getfield 251, .inl (9, 27, [0, 1211])), (.imul, .inl (0, 0, [])), (.sipush 229, .inr (.inr (.int 229, 0))), (.invokestatic 356, .inr (.inl (mi_X9_copies, 0, 1581, [0, 0, 0, 0, 0]))), (.aload_n 0, .inl (0, 0, [])), (.dup, .inl (0, 0, [])), (.getfield 251, .inl (9, 27, [0, 1211])), (.iconst 1, .inr (.inr (.int 1, 0))), (.iadd, .inl (0, 0, [])), (.putfield 251, .inl (9, 27, [0, 1211])), (.return_, .inl (0, 0, []))]
theorem sk_X9_keeps_42 : pp_chk mi_X9_keeps 76 42 (pp_cnt mi_X9_keeps 42) sg_X9_keeps_42 = true := by decide +kernel
def sg_X9_advance__0 : pp_Seg := [(.aload_n 0, .inl (0, 0, [])), (.iconst 0, .inr (.inr (.int 0, 0))), (.putfield 80, .inl (9, 0, [0, 1184])), (.aload_n 0, .inl (0, 0, [])), (.iload_n 1, .inl (0, 0, [])), (.i2l, .inl (0, 0, [])), (.lconst 1, .inr (.inr (.long 1, 0))), (.ldc2_w 298, .inr (.inr (.long 9999, 1495))), (.invokestatic 121, .inr (.inl (mi_X9_within, 0, 1294, [0, 0, 0]))), (.ifCond .ne 7, .inl (22, 0, [])), (.iconst 1, .inr (.inr (.int 1, 0))), (.goto 4, .inl (23, 0, []))]
theorem sk_X9_advance__0 : pp_chk mi_X9_advance_ 22 0 (pp_cnt mi_X9_advance_ 0) sg_X9_advance__0 = true := by decide +kernel
def sg_X9_advance__22 : pp_Seg := [(.iconst 0, .inr (.inr (.int 0, 0)))]
theorem sk_X9_advance__22 : pp_chk mi_X9_advance_ 23 22 (pp_cnt mi_X9_advance_ 22) sg_X9_advance__22 = true := by decide +kernel
def sg_X9_advance__23 : pp_Seg := [(.iconst 1, .inr (.inr (.int 1, 0))), (.invokevirtual 244, .inr (.inl (mi_X9_throwsIf, 9, 1297, [0, 0, 0]))), (.ifCond .ne 32, .inl (59, 0, [])), (.aload_n 0, .inl (0, 0, [])), (.aload_n 0, .inl (0, 0, [])), (.getfield 7, .inl (9, 1, [2, 1185])), (.iconst 0, .inr (.inr (.int 0, 0))), (.laload, .inl (0, 0, [])), (.iload_n 1, .inl (0, 0, [])), (.i2l, .inl (0, 0, [])), (.ladd, .inl (0, 0, [])), (.ldc2_w 298, .inr (.inr (.long 9999, 1495))), (.lcmp, .inl (0, 0, [])), (.ifCond .le 7, .inl (51, 0, [])), (.iconst 1, .inr (.inr (.int 1, 0))), (.goto 4, .inl (52, 0, []))]
theorem sk_X9_advance__23 : pp_chk mi_X9_advance_ 51 23 (pp_cnt mi_X9_advance_ 23) sg_X9_advance__23 = true := by decide +kernel
def sg_X9_advance__51 : pp_Seg := [(.iconst 0, .inr (.inr (.int 0, 0)))]
theorem sk_X9_advance__51 : pp_chk mi_X9_advance_ 52 51 (pp_cnt mi_X9_advance_ 51) sg_X9_advance__51 = true := by decide +kernel
def sg_X9_advance__52 : pp_Seg := [(.iconst 2, .inr (.inr (.int 2, 0))), (.invokevirtual 244, .inr (.inl (mi_X9_throwsIf, 9, 1297, [0, 0, 0]))), (.ifCond .eq 5, .inl (61, 0, []))]
theorem sk_X9_advance__52 : pp_chk mi_X9_advance_ 59 52 (pp_cnt mi_X9_advance_ 52) sg_X9_advance__52 = true := by decide +kernel
def sg_X9_advance__59 : pp_Seg := [(.iconst 0, .inr (.inr (.int 0, 0))), (.ireturn, .inl (0, 0, []))]
theorem sk_X9_advance__59 : pp_chk mi_X9_advance_ 61 59 (pp_cnt mi_X9_advance_ 59) sg_X9_advance__59 = true := by decide +kernel
def sg_X9_advance__61 : pp_Seg := [(.aload_n 0, .inl (0, 0, [])), (.invokevirtual 341, .inr (.inl (mi_X9_keeps, 9, 1577, [0]))), (.aload_n 0, .inl (0, 0, [])), (.getfield 7, .inl (9, 1, [2, 1185])), (.iconst 0, .inr (.inr (.int 0, 0))), (.dup2, .inl (0, 0, [])), (.laload, .inl (0, 0, [])), (.iload_n 1, .inl (0, 0, [])), (.i2l, .inl (0, 0, [])), (.ladd, .inl (0, 0, [])), (.lastore, .inl (0, 0, [])), (.aload_n 0, .inl (0, 0, [])), (.getfield 7, .inl (9, 1, [2, 1185])), (.iconst 0, .inr (.inr (.int 0, 0))), (.laload, .inl (0, 0, [])), (.l2i, .inl (0, 0, [])), (.ireturn, .inl (0, 0, []))]
theorem sk_X9_advance__61 : pp_chk mi_X9_advance_ 84 61 (pp_cnt mi_X9_advance_ 61) sg_X9_advance__61 = true := by decide +kernel
def sg_X9_join_0 : pp_Seg := [(.aload_n 0, .inl (0, 0, [])), (.iconst 0, .inr (.inr (.int 0, 0))), (.putfield 80, .inl (9, 0, [0, 1184])), (.aload_n 0, .inl (0, 0, [])), (.aload_n 0, .inl (0, 0, [])), (.getfield 7, .inl (9, 1, [2, 1185])), (.bipush 7, .inr (.inr (.int 7, 0))), (.laload, .inl (0, 0, [])), (.ldc2_w 344, .inr (.inr (.long 8, 1588))), (.lcmp, .inl (0, 0, [])), (.ifCond .ne 7, .inl (24, 0, [])), (.iconst 1, .inr (.inr (.int 1, 0))), (.goto 4, .inl (25, 0, []))]
theorem sk_X9_join_0 : pp_chk mi_X9_join 24 0 (pp_cnt mi_X9_join 0) sg_X9_join_0 = true := by decide +kernel
def sg_X9_join_24 : pp_Seg := [(.iconst 0, .inr (.inr (.int 0, 0)))]
theorem sk_X9_join_24 : pp_chk mi_X9_join 25 24 (pp_cnt mi_X9_join 24) sg_X9_join_24 = true := by decide +kernel
def sg_X9_join_25 : pp_Seg := [(.iconst 1, .inr (.inr (.int 1, 0))), (.invokevirtual 244, .inr (.inl (mi_X9_throwsIf, 9, 1297, [0, 0, 0]))), (.ifCond .eq 5, .inl (34, 0, [])), (.iconst 0, .inr (.inr (.int 0, 0))), (.ireturn, .inl (0, 0, []))]
theorem sk_X9_join_25 : pp_chk mi_X9_join 34 25 (pp_cnt mi_X9_join 25) sg_X9_join_25 = true := by decide +kernel
def sg_X9_join_34 : pp_Seg := [(.aload_n 0, .inl (0, 0, [])), (.invokevirtual 341, .inr (.inl (mi_X9_keeps, 9, 1577, [0]))), (.aload_n 0, .inl (0, 0, [])), (.getfield 7, .inl (9, 1, [2, 1185])), (.bipush 7, .inr (.inr (.int 7, 0))), (.laload, .inl (0, 0, [])), (.l2i, .inl (0, 0, [])), (.istore_n 1, .inl (0, 0, [])), (.aload_n 0, .inl (0, 0, [])), (.getfield 7, .inl (9, 1, [2, 1185])), (.bipush 9, .inr (.inr (.int 9, 0))), (.iload_n 1, .inl (0, 0, [])), (.iadd, .inl (0, 0, [])), (.aload_n 0, .inl (0, 0, [])), (.getfield 7, .inl (9, 1, [2, 1185])), (.iconst 0, .inr (.inr (.int 0, 0))), (.laload, .inl (0, 0, [])), (.lastore, .inl (0, 0, [])), (.aload_n 0, .inl (0, 0, [])), (.getfield 7, .inl (9, 1, [2, 1185])), (.bipush 7, .inr (.inr (.int 7, 0))), (.dup2, .inl (0, 0, [])), (.laload, .inl (0, 0, [])), (.lconst 1, .inr (.inr (.long 1, 0))), (.ladd, .inl (0, 0, [])), (.lastore, .inl (0, 0, [])), (.iload_n 1, .inl (0, 0, [])), (.ireturn, .inl (0, 0, []))]
theorem sk_X9_join_34 : pp_chk mi_X9_join 75 34 (pp_cnt mi_X9_join 34) sg_X9_join_34 = true := by decide +kernel
def sg_X9_declare_0 : pp_Seg := [(.aload_n 0, .inl (0, 0, [])), (.iload_n 1, .inl (0, 0, [])), (.invokevirtual 288, .inr (.inl (mi_X9_noMember, 9, 1471, [0, 0]))), (.ifCond .ne 62, .inl (67, 0, [])), (.aload_n 0, .inl (0, 0, [])), (.iload_n 2, .inl (0, 0, [])), (.i2l, .inl (0, 0, [])), (.aload_n 0, .inl (0, 0, [])), (.getfield 7, .inl (9, 1, [2, 1185])), (.iconst 0, .inr (.inr (.int 0, 0))), (.laload, .inl (0, 0, [])), (.lconst 1, .inr (.inr (.long 1, 0))), (.ladd, .inl (0, 0, [])), (.ldc2_w 298, .inr (.inr (.long 9999, 1495))), (.invokestatic 121, .inr (.inl (mi_X9_within, 0, 1294, [0, 0, 0]))), (.ifCond .ne 7, .inl (32, 0, [])), (.iconst 1, .inr (.inr (.int 1, 0))), (.goto 4, .inl (33, 0, []))]
theorem sk_X9_declare_0 : pp_chk mi_X9_declare 32 0 (pp_cnt mi_X9_declare 0) sg_X9_declare_0 = true := by decide +kernel
def sg_X9_declare_32 : pp_Seg := [(.iconst 0, .inr (.inr (.int 0, 0)))]
theorem sk_X9_declare_32 : pp_chk mi_X9_declare 33 32 (pp_cnt mi_X9_declare 32) sg_X9_declare_32 = true := by decide +kernel
def sg_X9_declare_33 : pp_Seg := [(.iconst 2, .inr (.inr (.int 2, 0))), (.invokevirtual 244, .inr (.inl (mi_X9_throwsIf, 9, 1297, [0, 0, 0]))), (.ifCond .ne 30, .inl (67, 0, [])), (.aload_n 0, .inl (0, 0, [])), (.aload_n 0, .inl (0, 0, [])), (.getfield 7, .inl (9, 1, [2, 1185])), (.bipush 8, .inr (.inr (.int 8, 0))), (.laload, .inl (0, 0, [])), (.ldc2_w 346, .inr (.inr (.long 16, 1593))), (.lcmp, .inl (0, 0, [])), (.ifCond .ne 7, .inl (59, 0, [])), (.iconst 1, .inr (.inr (.int 1, 0))), (.goto 4, .inl (60, 0, []))]
theorem sk_X9_declare_33 : pp_chk mi_X9_declare 59 33 (pp_cnt mi_X9_declare 33) sg_X9_declare_33 = true := by decide +kernel
def sg_X9_declare_59 : pp_Seg := [(.iconst 0, .inr (.inr (.int 0, 0)))]
theorem sk_X9_declare_59 : pp_chk mi_X9_declare 60 59 (pp_cnt mi_X9_declare 59) sg_X9_declare_59 = true := by decide +kernel
def sg_X9_declare_60 : pp_Seg := [(.iconst 3, .inr (.inr (.int 3, 0))), (.invokevirtual 244, .inr (.inl (mi_X9_throwsIf, 9, 1297, [0, 0, 0]))), (.ifCond .eq 5, .inl (69, 0, []))]
theorem sk_X9_declare_60 : pp_chk mi_X9_declare 67 60 (pp_cnt mi_X9_declare 60) sg_X9_declare_60 = true := by decide +kernel
def sg_X9_declare_67 : pp_Seg := [(.iconst 0, .inr (.inr (.int 0, 0))), (.ireturn, .inl (0, 0, []))]
theorem sk_X9_declare_67 : pp_chk mi_X9_declare 69 67 (pp_cnt mi_X9_declare 67) sg_X9_declare_67 = true := by decide +kernel
def sg_X9_declare_69 : pp_Seg := [(.aload_n 0, .inl (0, 0, [])), (.invokevirtual 341, .inr (.inl (mi_X9_keeps, 9, 1577, [0]))), (.aload_n 0, .inl (0, 0, [])), (.getfield 7, .inl (9, 1, [2, 1185])), (.bipush 8, .inr (.inr (.int 8, 0))), (.laload, .inl (0, 0, [])), (.l2i, .inl (0, 0, [])), (.istore_n 3, .inl (0, 0, [])), (.aload_n 0, .inl (0, 0, [])), (.getfield 7, .inl (9, 1, [2, 1185])), (.bipush 17, .inr (.inr (.int 17, 0))), (.iload_n 3, .inl (0, 0, [])), (.iadd, .inl (0, 0, [])), (.iload_n 1, .inl (0, 0, [])), (.i2l, .inl (0, 0, [])), (.lastore, .inl (0, 0, [])), (.aload_n 0, .inl (0, 0, [])), (.getfield 7, .inl (9, 1, [2, 1185])), (.bipush 33, .inr (.inr (.int 33, 0))), (.iload_n 3, .inl (0, 0, [])), (.iadd, .inl (0, 0, [])), (.iload_n 2, .inl (0, 0, [])), (.i2l, .inl (0, 0, [])), (.lastore, .inl (0, 0, [])), (.aload_n 0, .inl (0, 0, [])), (.getfield 7, .inl (9, 1, [2, 1185])), (.bipush 8, .inr (.inr (.int 8, 0))), (.dup2, .inl (0, 0, [])), (.laload, .inl (0, 0, [])), (.lconst 1, .inr (.inr (.long 1, 0))), (.ladd, .inl (0, 0, [])), (.lastore, .inl (0, 0, [])), (.iload_n 3, .inl (0, 0, [])), (.ireturn, .inl (0, 0, []))]
theorem sk_X9_declare_69 : pp_chk mi_X9_declare 117 69 (pp_cnt mi_X9_declare 69) sg_X9_declare_69 = true := by decide +kernel
def sg_X9_vote_0 : pp_Seg := [(.aload_n 0, .inl (0, 0, [])), (.iconst 0, .inr (.inr (.int 0, 0))), (.putfield 80, .inl (9, 0, [0, 1184])), (.aload_n 0, .inl (0, 0, [])), (.iload_n 1, .inl (0, 0, [])), (.i2l, .inl (0, 0, [])), (.ldc2_w 348, .inr (.inr (.long 5, 1598))), (.invokevirtual 256, .inr (.inl (mi_X9_no, 9, 1425, [0, 0, 0]))), (.ifCond .ne 53, .inl (67, 0, [])), (.aload_n 0, .inl (0, 0, [])), (.iload_n 2, .inl (0, 0, [])), (.iload_n 3, .inl (0, 0, [])), (.invokevirtual 271, .inr (.inl (mi_X9_noPair, 9, 1421, [0, 0, 0]))), (.ifCond .ne 44, .inl (67, 0, [])), (.aload_n 0, .inl (0, 0, [])), (.aload_n 0, .inl (0, 0, [])), (.iload_n 3, .inl (0, 0, [])), (.aload_n 0, .inl (0, 0, [])), (.getfield 7, .inl (9, 1, [2, 1185])), (.iconst 0, .inr (.inr (.int 0, 0))), (.laload, .inl (0, 0, [])), (.invokevirtual 277, .inr (.inl (mi_X9_isReleased, 9, 1459, [0, 0, 0]))), (.ifCond .eq 17, .inl (55, 0, [])), (.aload_n 0, .inl (0, 0, [])), (.iload_n 2, .inl (0, 0, [])), (.aload_n 0, .inl (0, 0, [])), (.getfield 7, .inl (9, 1, [2, 1185])), (.iconst 0, .inr (.inr (.int 0, 0))), (.laload, .inl (0, 0, [])), (.invokevirtual 281, .inr (.inl (mi_X9_isInForce, 9, 1463, [0, 0, 0]))), (.ifCond .ne 7, .inl (59, 0, []))]
theorem sk_X9_vote_0 : pp_chk mi_X9_vote 55 0 (pp_cnt mi_X9_vote 0) sg_X9_vote_0 = true := by decide +kernel
def sg_X9_vote_55 : pp_Seg := [(.iconst 1, .inr (.inr (.int 1, 0))), (.goto 4, .inl (60, 0, []))]
theorem sk_X9_vote_55 : pp_chk mi_X9_vote 59 55 (pp_cnt mi_X9_vote 55) sg_X9_vote_55 = true := by decide +kernel
def sg_X9_vote_59 : pp_Seg := [(.iconst 0, .inr (.inr (.int 0, 0)))]
theorem sk_X9_vote_59 : pp_chk mi_X9_vote 60 59 (pp_cnt mi_X9_vote 59) sg_X9_vote_59 = true := by decide +kernel
def sg_X9_vote_60 : pp_Seg := [(.iconst 2, .inr (.inr (.int 2, 0))), (.invokevirtual 244, .inr (.inl (mi_X9_throwsIf, 9, 1297, [0, 0, 0]))), (.ifCond .eq 5, .inl (69, 0, []))]
theorem sk_X9_vote_60 : pp_chk mi_X9_vote 67 60 (pp_cnt mi_X9_vote 60) sg_X9_vote_60 = true := by decide +kernel
def sg_X9_vote_67 : pp_Seg := [(.iconst 0, .inr (.inr (.int 0, 0))), (.ireturn, .inl (0, 0, []))]
theorem sk_X9_vote_67 : pp_chk mi_X9_vote 69 67 (pp_cnt mi_X9_vote 67) sg_X9_vote_67 = true := by decide +kernel
def sg_X9_vote_69 : pp_Seg := [(.aload_n 0, .inl (0, 0, [])), (.invokevirtual 341, .inr (.inl (mi_X9_keeps, 9, 1577, [0]))), (.iload_n 2, .inl (0, 0, [])), (.iload_n 3, .inl (0, 0, [])), (.invokestatic 260, .inr (.inl (mi_X9_pair, 0, 1433, [0, 0]))), (.istore 5, .inl (0, 0, [])), (.lconst 1, .inr (.inr (.long 1, 0))), (.iload_n 1, .inl (0, 0, [])), (.lshl, .inl (0, 0, [])), (.lstore 6, .inl (0, 0, [])), (.aload_n 0, .inl (0, 0, [])), (.getfield 7, .inl (9, 1, [2, 1185])), (.bipush 49, .inr (.inr (.int 49, 0))), (.iload 5, .inl (0, 0, [])), (.iadd, .inl (0, 0, [])), (.iload 4, .inl (0, 0, [])), (.ifCond .eq 19, .inl (115, 0, [])), (.aload_n 0, .inl (0, 0, [])), (.getfield 7, .inl (9, 1, [2, 1185])), (.bipush 49, .inr (.inr (.int 49, 0))), (.iload 5, .inl (0, 0, [])), (.iadd, .inl (0, 0, [])), (.laload, .inl (0, 0, [])), (.lload 6, .inl (0, 0, [])), (.lor, .inl (0, 0, [])), (.goto 20, .inl (132, 0, []))]
theorem sk_X9_vote_69 : pp_chk mi_X9_vote 115 69 (pp_cnt mi_X9_vote 69) sg_X9_vote_69 = true := by decide +kernel
def sg_X9_vote_115 : pp_Seg := [(.aload_n 0, .inl (0, 0, [])), (.getfield 7, .inl (9, 1, [2, 1185])), (.bipush 49, .inr (.inr (.int 49, 0))), (.iload 5, .inl (0, 0, [])), (.iadd, .inl (0, 0, [])), (.laload, .inl (0, 0, [])), (.lload 6, .inl (0, 0, [])), (.ldc2_w 317, .inr (.inr (.long (-1), 1522))), (.lxor, .inl (0, 0, [])), (.land, .inl (0, 0, []))]
theorem sk_X9_vote_115 : pp_chk mi_X9_vote 132 115 (pp_cnt mi_X9_vote 115) sg_X9_vote_115 = true := by decide +kernel
def sg_X9_vote_132 : pp_Seg := [(.lastore, .inl (0, 0, [])), (.aload_n 0, .inl (0, 0, [])), (.getfield 7, .inl (9, 1, [2, 1185])), (.bipush 113, .inr (.inr (.int 113, 0))), (.iload 5, .inl (0, 0, [])), (.iadd, .inl (0, 0, [])), (.iload 4, .inl (0, 0, [])), (.ifCond .eq 23, .inl (167, 0, [])), (.aload_n 0, .inl (0, 0, [])), (.getfield 7, .inl (9, 1, [2, 1185])), (.bipush 113, .inr (.inr (.int 113, 0))), (.iload 5, .inl (0, 0, [])), (.iadd, .inl (0, 0, [])), (.laload, .inl (0, 0, [])), (.lload 6, .inl (0, 0, [])), (.ldc2_w 317, .inr (.inr (.long (-1), 1522))), (.lxor, .inl (0, 0, [])), (.land, .inl (0, 0, [])), (.goto 16, .inl (180, 0, []))]
theorem sk_X9_vote_132 : pp_chk mi_X9_vote 167 132 (pp_cnt mi_X9_vote 132) sg_X9_vote_132 = true := by decide +kernel
def sg_X9_vote_167 : pp_Seg := [(.aload_n 0, .inl (0, 0, [])), (.getfield 7, .inl (9, 1, [2, 1185])), (.bipush 113, .inr (.inr (.int 113, 0))), (.iload 5, .inl (0, 0, [])), (.iadd, .inl (0, 0, [])), (.laload, .inl (0, 0, [])), (.lload 6, .inl (0, 0, [])), (.lor, .inl (0, 0, []))]
theorem sk_X9_vote_167 : pp_chk mi_X9_vote 180 167 (pp_cnt mi_X9_vote 167) sg_X9_vote_167 = true := by decide +kernel
def sg_X9_vote_180 : pp_Seg := [(.lastore, .inl (0, 0, [])), (.aload_n 0, .inl (0, 0, [])), (.iload_n 2, .inl (0, 0, [])), (.iload_n 3, .inl (0, 0, [])), (.invokevirtual 274, .inr (.inl (mi_X9_decided, 9, 1429, [0, 0, 0]))), (.ireturn, .inl (0, 0, []))]
theorem sk_X9_vote_180 : pp_chk mi_X9_vote 188 180 (pp_cnt mi_X9_vote 180) sg_X9_vote_180 = true := by decide +kernel
def sg_X9_reopen_0 : pp_Seg := [(.aload_n 0, .inl (0, 0, [])), (.iload_n 1, .inl (0, 0, [])), (.iload_n 2, .inl (0, 0, [])), (.invokevirtual 271, .inr (.inl (mi_X9_noPair, 9, 1421, [0, 0, 0]))), (.ifCond .eq 5, .inl (11, 0, [])), (.iconst 0, .inr (.inr (.int 0, 0))), (.ireturn, .inl (0, 0, []))]
theorem sk_X9_reopen_0 : pp_chk mi_X9_reopen 11 0 (pp_cnt mi_X9_reopen 0) sg_X9_reopen_0 = true := by decide +kernel
def sg_X9_reopen_11 : pp_Seg := [(.iload_n 1, .inl (0, 0, [])), (.iload_n 2, .inl (0, 0, [])), (.invokestatic 260, .inr (.inl (mi_X9_pair, 0, 1433, [0, 0]))), (.istore_n 3, .inl (0, 0, [])), (.aload_n 0, .inl (0, 0, [])), (.getfield 7, .inl (9, 1, [2, 1185])), (.bipush 49, .inr (.inr (.int 49, 0))), (.iload_n 3, .inl (0, 0, [])), (.iadd, .inl (0, 0, [])), (.laload, .inl (0, 0, [])), (.invokestatic 264, .inr (.inl (mi_X9_bits, 0, 1436, [0]))), (.aload_n 0, .inl (0, 0, [])), (.getfield 7, .inl (9, 1, [2, 1185])), (.bipush 113, .inr (.inr (.int 113, 0))), (.iload_n 3, .inl (0, 0, [])), (.iadd, .inl (0, 0, [])), (.laload, .inl (0, 0, [])), (.invokestatic 264, .inr (.inl (mi_X9_bits, 0, 1436, [0]))), (.iadd, .inl (0, 0, [])), (.istore 4, .inl (0, 0, [])), (.aload_n 0, .inl (0, 0, [])), (.iload 4, .inl (0, 0, [])), (.ifCond .ne 7, .inl (54, 0, [])), (.iconst 1, .inr (.inr (.int 1, 0))), (.goto 4, .inl (55, 0, []))]
theorem sk_X9_reopen_11 : pp_chk mi_X9_reopen 54 11 (pp_cnt mi_X9_reopen 11) sg_X9_reopen_11 = true := by decide +kernel
def sg_X9_reopen_54 : pp_Seg := [(.iconst 0, .inr (.inr (.int 0, 0)))]
theorem sk_X9_reopen_54 : pp_chk mi_X9_reopen 55 54 (pp_cnt mi_X9_reopen 54) sg_X9_reopen_54 = true := by decide +kernel
def sg_X9_reopen_55 : pp_Seg := [(.iconst 2, .inr (.inr (.int 2, 0))), (.invokevirtual 244, .inr (.inl (mi_X9_throwsIf, 9, 1297, [0, 0, 0]))), (.ifCond .eq 5, .inl (64, 0, [])), (.iconst 0, .inr (.inr (.int 0, 0))), (.ireturn, .inl (0, 0, []))]
theorem sk_X9_reopen_55 : pp_chk mi_X9_reopen 64 55 (pp_cnt mi_X9_reopen 55) sg_X9_reopen_55 = true := by decide +kernel
def sg_X9_reopen_64 : pp_Seg := [(.aload_n 0, .inl (0, 0, [])), (.invokevirtual 341, .inr (.inl (mi_X9_keeps, 9, 1577, [0]))), (.aload_n 0, .inl (0, 0, [])), (.getfield 7, .inl (9, 1, [2, 1185])), (.bipush 49, .inr (.inr (.int 49, 0))), (.iload_n 3, .inl (0, 0, [])), (.iadd, .inl (0, 0, [])), (.lconst 0, .inr (.inr (.long 0, 0))), (.lastore, .inl (0, 0, [])), (.aload_n 0, .inl (0, 0, [])), (.getfield 7, .inl (9, 1, [2, 1185])), (.bipush 113, .inr (.inr (.int 113, 0))), (.iload_n 3, .inl (0, 0, [])), (.iadd, .inl (0, 0, [])), (.lconst 0, .inr (.inr (.long 0, 0))), (.lastore, .inl (0, 0, [])), (.iload 4, .inl (0, 0, [])), (.ireturn, .inl (0, 0, []))]
theorem sk_X9_reopen_64 : pp_chk mi_X9_reopen 91 64 (pp_cnt mi_X9_reopen 64) sg_X9_reopen_64 = true := by decide +kernel
def sg_X9_royalty_0 : pp_Seg := [(.lload_n 3, .inl (0, 0, [])), (.aload_n 0, .inl (0, 0, [])), (.getfield 20, .inl (9, 4, [2, 1188])), (.iconst 2, .inr (.inr (.int 2, 0))), (.iload_n 2, .inl (0, 0, [])), (.imul, .inl (0, 0, [])), (.iconst 1, .inr (.inr (.int 1, 0))), (.iadd, .inl (0, 0, [])), (.iaload, .inl (0, 0, [])), (.i2l, .inl (0, 0, [])), (.lmul, .inl (0, 0, [])), (.bipush 100, .inr (.inr (.int 100, 0))), (.aload_n 0, .inl (0, 0, [])), (.getfield 26, .inl (9, 6, [2, 1190])), (.iload_n 1, .inl (0, 0, [])), (.iaload, .inl (0, 0, [])), (.isub, .inl (0, 0, [])), (.i2l, .inl (0, 0, [])), (.lmul, .inl (0, 0, [])), (.ldc2_w 303, .inr (.inr (.long 100, 1509))), (.ldiv, .inl (0, 0, [])), (.lreturn, .inl (0, 0, []))]
theorem sk_X9_royalty_0 : pp_chk mi_X9_royalty 29 0 (pp_cnt mi_X9_royalty 0) sg_X9_royalty_0 = true := by decide +kernel
def sg_X9_report_0 : pp_Seg := [(.aload_n 0, .inl (0, 0, [])), (.iload_n 1, .inl (0, 0, [])), (.iload_n 2, .inl (0, 0, [])), (.invokevirtual 336, .inr (.inl (mi_X9_noReport, 9, 1552, [0, 0, 0]))), (.ifCond .ne 55, .inl (61, 0, [])), (.aload_n 0, .inl (0, 0, [])), (.iload_n 3, .inl (0, 0, [])), (.i2l, .inl (0, 0, [])), (.lconst 1, .inr (.inr (.long 1, 0))), (.ldc2_w 298, .inr (.inr (.long 9999, 1495))), (.invokestatic 121, .inr (.inl (mi_X9_within, 0, 1294, [0, 0, 0]))), (.ifCond .ne 7, .inl (26, 0, [])), (.iconst 1, .inr (.inr (.int 1, 0))), (.goto 4, .inl (27, 0, []))]
theorem sk_X9_report_0 : pp_chk mi_X9_report 26 0 (pp_cnt mi_X9_report 0) sg_X9_report_0 = true := by decide +kernel
def sg_X9_report_26 : pp_Seg := [(.iconst 0, .inr (.inr (.int 0, 0)))]
theorem sk_X9_report_26 : pp_chk mi_X9_report 27 26 (pp_cnt mi_X9_report 26) sg_X9_report_26 = true := by decide +kernel
def sg_X9_report_27 : pp_Seg := [(.iconst 2, .inr (.inr (.int 2, 0))), (.invokevirtual 244, .inr (.inl (mi_X9_throwsIf, 9, 1297, [0, 0, 0]))), (.ifCond .ne 30, .inl (61, 0, [])), (.aload_n 0, .inl (0, 0, [])), (.aload_n 0, .inl (0, 0, [])), (.iload_n 2, .inl (0, 0, [])), (.aload_n 0, .inl (0, 0, [])), (.getfield 7, .inl (9, 1, [2, 1185])), (.iconst 0, .inr (.inr (.int 0, 0))), (.laload, .inl (0, 0, [])), (.invokevirtual 277, .inr (.inl (mi_X9_isReleased, 9, 1459, [0, 0, 0]))), (.ifCond .ne 7, .inl (53, 0, [])), (.iconst 1, .inr (.inr (.int 1, 0))), (.goto 4, .inl (54, 0, []))]
theorem sk_X9_report_27 : pp_chk mi_X9_report 53 27 (pp_cnt mi_X9_report 27) sg_X9_report_27 = true := by decide +kernel
def sg_X9_report_53 : pp_Seg := [(.iconst 0, .inr (.inr (.int 0, 0)))]
theorem sk_X9_report_53 : pp_chk mi_X9_report 54 53 (pp_cnt mi_X9_report 53) sg_X9_report_53 = true := by decide +kernel
def sg_X9_report_54 : pp_Seg := [(.iconst 3, .inr (.inr (.int 3, 0))), (.invokevirtual 244, .inr (.inl (mi_X9_throwsIf, 9, 1297, [0, 0, 0]))), (.ifCond .eq 5, .inl (63, 0, []))]
theorem sk_X9_report_54 : pp_chk mi_X9_report 61 54 (pp_cnt mi_X9_report 54) sg_X9_report_54 = true := by decide +kernel
def sg_X9_report_61 : pp_Seg := [(.iconst 0, .inr (.inr (.int 0, 0))), (.ireturn, .inl (0, 0, []))]
theorem sk_X9_report_61 : pp_chk mi_X9_report 63 61 (pp_cnt mi_X9_report 61) sg_X9_report_61 = true := by decide +kernel
def sg_X9_report_63 : pp_Seg := [(.aload_n 0, .inl (0, 0, [])), (.invokevirtual 341, .inr (.inl (mi_X9_keeps, 9, 1577, [0]))), (.aload_n 0, .inl (0, 0, [])), (.iload_n 1, .inl (0, 0, [])), (.iload_n 2, .inl (0, 0, [])), (.iload_n 3, .inl (0, 0, [])), (.i2l, .inl (0, 0, [])), (.invokevirtual 350, .inr (.inl (mi_X9_royalty, 9, 1607, [0, 0, 0, 0]))), (.lstore 4, .inl (0, 0, [])), (.aload_n 0, .inl (0, 0, [])), (.getfield 7, .inl (9, 1, [2, 1185])), (.sipush 177, .inr (.inr (.int 177, 0))), (.iload_n 1, .inl (0, 0, [])), (.iadd, .inl (0, 0, [])), (.dup2, .inl (0, 0, [])), (.laload, .inl (0, 0, [])), (.lload 4, .inl (0, 0, [])), (.ladd, .inl (0, 0, [])), (.lastore, .inl (0, 0, [])), (.aload_n 0, .inl (0, 0, [])), (.getfield 7, .inl (9, 1, [2, 1185])), (.sipush 183, .inr (.inr (.int 183, 0))), (.iconst 4, .inr (.inr (.int 4, 0))), (.iload_n 1, .inl (0, 0, [])), (.imul, .inl (0, 0, [])), (.iadd, .inl (0, 0, [])), (.iload_n 2, .inl (0, 0, [])), (.iadd, .inl (0, 0, [])), (.dup2, .inl (0, 0, [])), (.laload, .inl (0, 0, [])), (.iload_n 3, .inl (0, 0, [])), (.i2l, .inl (0, 0, [])), (.ladd, .inl (0, 0, [])), (.lastore, .inl (0, 0, [])), (.lload 4, .inl (0, 0, [])), (.l2i, .inl (0, 0, [])), (.ireturn, .inl (0, 0, []))]
theorem sk_X9_report_63 : pp_chk mi_X9_report 115 63 (pp_cnt mi_X9_report 63) sg_X9_report_63 = true := by decide +kernel
def sg_X9_grantBack_0 : pp_Seg := [(.aload_n 0, .inl (0, 0, [])), (.iload_n 1, .inl (0, 0, [])), (.invokevirtual 333, .inr (.inl (mi_X9_noLicensee, 9, 1544, [0, 0]))), (.ifCond .eq 5, .inl (10, 0, [])), (.iconst 0, .inr (.inr (.int 0, 0))), (.ireturn, .inl (0, 0, []))]
theorem sk_X9_grantBack_0 : pp_chk mi_X9_grantBack 10 0 (pp_cnt mi_X9_grantBack 0) sg_X9_grantBack_0 = true := by decide +kernel
def sg_X9_grantBack_10 : pp_Seg := [(.aload_n 0, .inl (0, 0, [])), (.getfield 7, .inl (9, 1, [2, 1185])), (.sipush 177, .inr (.inr (.int 177, 0))), (.iload_n 1, .inl (0, 0, [])), (.iadd, .inl (0, 0, [])), (.laload, .inl (0, 0, [])), (.aload_n 0, .inl (0, 0, [])), (.getfield 13, .inl (9, 2, [2, 1186])), (.bipush 12, .inr (.inr (.int 12, 0))), (.iaload, .inl (0, 0, [])), (.i2l, .inl (0, 0, [])), (.lmul, .inl (0, 0, [])), (.ldc2_w 303, .inr (.inr (.long 100, 1509))), (.ldiv, .inl (0, 0, [])), (.lstore_n 2, .inl (0, 0, [])), (.lload_n 2, .inl (0, 0, [])), (.aload_n 0, .inl (0, 0, [])), (.getfield 13, .inl (9, 2, [2, 1186])), (.bipush 11, .inr (.inr (.int 11, 0))), (.iaload, .inl (0, 0, [])), (.i2l, .inl (0, 0, [])), (.lcmp, .inl (0, 0, [])), (.ifCond .ge 7, .inl (51, 0, [])), (.lload_n 2, .inl (0, 0, [])), (.goto 11, .inl (59, 0, []))]
theorem sk_X9_grantBack_10 : pp_chk mi_X9_grantBack 51 10 (pp_cnt mi_X9_grantBack 10) sg_X9_grantBack_10 = true := by decide +kernel
def sg_X9_grantBack_51 : pp_Seg := [(.aload_n 0, .inl (0, 0, [])), (.getfield 13, .inl (9, 2, [2, 1186])), (.bipush 11, .inr (.inr (.int 11, 0))), (.iaload, .inl (0, 0, [])), (.i2l, .inl (0, 0, []))]
theorem sk_X9_grantBack_51 : pp_chk mi_X9_grantBack 59 51 (pp_cnt mi_X9_grantBack 51) sg_X9_grantBack_51 = true := by decide +kernel
def sg_X9_grantBack_59 : pp_Seg := [(.lstore 4, .inl (0, 0, [])), (.aload_n 0, .inl (0, 0, [])), (.aload_n 0, .inl (0, 0, [])), (.getfield 7, .inl (9, 1, [2, 1185])), (.sipush 207, .inr (.inr (.int 207, 0))), (.iload_n 1, .inl (0, 0, [])), (.iadd, .inl (0, 0, [])), (.laload, .inl (0, 0, [])), (.lconst 1, .inr (.inr (.long 1, 0))), (.lcmp, .inl (0, 0, [])), (.ifCond .eq 10, .inl (84, 0, [])), (.lload 4, .inl (0, 0, [])), (.lconst 0, .inr (.inr (.long 0, 0))), (.lcmp, .inl (0, 0, [])), (.ifCond .ne 7, .inl (88, 0, []))]
theorem sk_X9_grantBack_59 : pp_chk mi_X9_grantBack 84 59 (pp_cnt mi_X9_grantBack 59) sg_X9_grantBack_59 = true := by decide +kernel
def sg_X9_grantBack_84 : pp_Seg := [(.iconst 1, .inr (.inr (.int 1, 0))), (.goto 4, .inl (89, 0, []))]
theorem sk_X9_grantBack_84 : pp_chk mi_X9_grantBack 88 84 (pp_cnt mi_X9_grantBack 84) sg_X9_grantBack_84 = true := by decide +kernel
def sg_X9_grantBack_88 : pp_Seg := [(.iconst 0, .inr (.inr (.int 0, 0)))]
theorem sk_X9_grantBack_88 : pp_chk mi_X9_grantBack 89 88 (pp_cnt mi_X9_grantBack 88) sg_X9_grantBack_88 = true := by decide +kernel
def sg_X9_grantBack_89 : pp_Seg := [(.iconst 2, .inr (.inr (.int 2, 0))), (.invokevirtual 244, .inr (.inl (mi_X9_throwsIf, 9, 1297, [0, 0, 0]))), (.ifCond .eq 5, .inl (98, 0, [])), (.iconst 0, .inr (.inr (.int 0, 0))), (.ireturn, .inl (0, 0, []))]
theorem sk_X9_grantBack_89 : pp_chk mi_X9_grantBack 98 89 (pp_cnt mi_X9_grantBack 89) sg_X9_grantBack_89 = true := by decide +kernel
def sg_X9_grantBack_98 : pp_Seg := [(.aload_n 0, .inl (0, 0, [])), (.invokevirtual 341, .inr (.inl (mi_X9_keeps, 9, 1577, [0]))), (.aload_n 0, .inl (0, 0, [])), (.getfield 7, .inl (9, 1, [2, 1185])), (.sipush 207, .inr (.inr (.int 207, 0))), (.iload_n 1, .inl (0, 0, [])), (.iadd, .inl (0, 0, [])), (.lconst 1, .inr (.inr (.long 1, 0))), (.lastore, .inl (0, 0, [])), (.aload_n 0, .inl (0, 0, [])), (.getfield 7, .inl (9, 1, [2, 1185])), (.sipush 177, .inr (.inr (.int 177, 0))), (.iload_n 1, .inl (0, 0, [])), (.iadd, .inl (0, 0, [])), (.dup2, .inl (0, 0, [])), (.laload, .inl (0, 0, [])), (.lload 4, .inl (0, 0, [])), (.lsub, .inl (0, 0, [])), (.lastore, .inl (0, 0, [])), (.lload 4, .inl (0, 0, [])), (.l2i, .inl (0, 0, [])), (.ireturn, .inl (0, 0, []))]
theorem sk_X9_grantBack_98 : pp_chk mi_X9_grantBack 132 98 (pp_cnt mi_X9_grantBack 98) sg_X9_grantBack_98 = true := by decide +kernel
def sg_X9_pay_0 : pp_Seg := [(.aload_n 0, .inl (0, 0, [])), (.iload_n 1, .inl (0, 0, [])), (.invokevirtual 333, .inr (.inl (mi_X9_noLicensee, 9, 1544, [0, 0]))), (.ifCond .ne 35, .inl (40, 0, [])), (.aload_n 0, .inl (0, 0, [])), (.iload_n 2, .inl (0, 0, [])), (.i2l, .inl (0, 0, [])), (.lconst 1, .inr (.inr (.long 1, 0))), (.aload_n 0, .inl (0, 0, [])), (.getfield 7, .inl (9, 1, [2, 1185])), (.sipush 177, .inr (.inr (.int 177, 0))), (.iload_n 1, .inl (0, 0, [])), (.iadd, .inl (0, 0, [])), (.laload, .inl (0, 0, [])), (.invokestatic 121, .inr (.inl (mi_X9_within, 0, 1294, [0, 0, 0]))), (.ifCond .ne 7, .inl (32, 0, [])), (.iconst 1, .inr (.inr (.int 1, 0))), (.goto 4, .inl (33, 0, []))]
theorem sk_X9_pay_0 : pp_chk mi_X9_pay 32 0 (pp_cnt mi_X9_pay 0) sg_X9_pay_0 = true := by decide +kernel
def sg_X9_pay_32 : pp_Seg := [(.iconst 0, .inr (.inr (.int 0, 0)))]
theorem sk_X9_pay_32 : pp_chk mi_X9_pay 33 32 (pp_cnt mi_X9_pay 32) sg_X9_pay_32 = true := by decide +kernel
def sg_X9_pay_33 : pp_Seg := [(.iconst 2, .inr (.inr (.int 2, 0))), (.invokevirtual 244, .inr (.inl (mi_X9_throwsIf, 9, 1297, [0, 0, 0]))), (.ifCond .eq 5, .inl (42, 0, []))]
theorem sk_X9_pay_33 : pp_chk mi_X9_pay 40 33 (pp_cnt mi_X9_pay 33) sg_X9_pay_33 = true := by decide +kernel
def sg_X9_pay_40 : pp_Seg := [(.lconst 0, .inr (.inr (.long 0, 0))), (.lreturn, .inl (0, 0, []))]
theorem sk_X9_pay_40 : pp_chk mi_X9_pay 42 40 (pp_cnt mi_X9_pay 40) sg_X9_pay_40 = true := by decide +kernel
def sg_X9_pay_42 : pp_Seg := [(.aload_n 0, .inl (0, 0, [])), (.invokevirtual 341, .inr (.inl (mi_X9_keeps, 9, 1577, [0]))), (.aload_n 0, .inl (0, 0, [])), (.getfield 7, .inl (9, 1, [2, 1185])), (.sipush 177, .inr (.inr (.int 177, 0))), (.iload_n 1, .inl (0, 0, [])), (.iadd, .inl (0, 0, [])), (.dup2, .inl (0, 0, [])), (.laload, .inl (0, 0, [])), (.iload_n 2, .inl (0, 0, [])), (.i2l, .inl (0, 0, [])), (.lsub, .inl (0, 0, [])), (.lastore, .inl (0, 0, [])), (.aload_n 0, .inl (0, 0, [])), (.getfield 7, .inl (9, 1, [2, 1185])), (.iconst 2, .inr (.inr (.int 2, 0))), (.dup2, .inl (0, 0, [])), (.laload, .inl (0, 0, [])), (.iload_n 2, .inl (0, 0, [])), (.i2l, .inl (0, 0, [])), (.ladd, .inl (0, 0, [])), (.lastore, .inl (0, 0, [])), (.aload_n 0, .inl (0, 0, [])), (.getfield 7, .inl (9, 1, [2, 1185])), (.iconst 5, .inr (.inr (.int 5, 0))), (.dup2, .inl (0, 0, [])), (.laload, .inl (0, 0, [])), (.iload_n 2, .inl (0, 0, [])), (.i2l, .inl (0, 0, [])), (.ladd, .inl (0, 0, [])), (.lastore, .inl (0, 0, [])), (.aload_n 0, .inl (0, 0, [])), (.getfield 7, .inl (9, 1, [2, 1185])), (.sipush 177, .inr (.inr (.int 177, 0))), (.iload_n 1, .inl (0, 0, [])), (.iadd, .inl (0, 0, [])), (.laload, .inl (0, 0, [])), (.lreturn, .inl (0, 0, []))]
theorem sk_X9_pay_42 : pp_chk mi_X9_pay 94 42 (pp_cnt mi_X9_pay 42) sg_X9_pay_42 = true := by decide +kernel
def sg_X9_audit_0 : pp_Seg := [(.aload_n 0, .inl (0, 0, [])), (.iload_n 1, .inl (0, 0, [])), (.iload_n 2, .inl (0, 0, [])), (.invokevirtual 336, .inr (.inl (mi_X9_noReport, 9, 1552, [0, 0, 0]))), (.ifCond .ne 28, .inl (34, 0, [])), (.aload_n 0, .inl (0, 0, [])), (.iload_n 3, .inl (0, 0, [])), (.i2l, .inl (0, 0, [])), (.lconst 0, .inr (.inr (.long 0, 0))), (.ldc2_w 354, .inr (.inr (.long 99999, 1623))), (.invokestatic 121, .inr (.inl (mi_X9_within, 0, 1294, [0, 0, 0]))), (.ifCond .ne 7, .inl (26, 0, [])), (.iconst 1, .inr (.inr (.int 1, 0))), (.goto 4, .inl (27, 0, []))]
theorem sk_X9_audit_0 : pp_chk mi_X9_audit 26 0 (pp_cnt mi_X9_audit 0) sg_X9_audit_0 = true := by decide +kernel
def sg_X9_audit_26 : pp_Seg := [(.iconst 0, .inr (.inr (.int 0, 0)))]
theorem sk_X9_audit_26 : pp_chk mi_X9_audit 27 26 (pp_cnt mi_X9_audit 26) sg_X9_audit_26 = true := by decide +kernel
def sg_X9_audit_27 : pp_Seg := [(.iconst 2, .inr (.inr (.int 2, 0))), (.invokevirtual 244, .inr (.inl (mi_X9_throwsIf, 9, 1297, [0, 0, 0]))), (.ifCond .eq 5, .inl (36, 0, []))]
theorem sk_X9_audit_27 : pp_chk mi_X9_audit 34 27 (pp_cnt mi_X9_audit 27) sg_X9_audit_27 = true := by decide +kernel
def sg_X9_audit_34 : pp_Seg := [(.lconst 0, .inr (.inr (.long 0, 0))), (.lreturn, .inl (0, 0, []))]
theorem sk_X9_audit_34 : pp_chk mi_X9_audit 36 34 (pp_cnt mi_X9_audit 34) sg_X9_audit_34 = true := by decide +kernel
def sg_X9_audit_36 : pp_Seg := [(.aload_n 0, .inl (0, 0, [])), (.invokevirtual 341, .inr (.inl (mi_X9_keeps, 9, 1577, [0]))), (.sipush 183, .inr (.inr (.int 183, 0))), (.iconst 4, .inr (.inr (.int 4, 0))), (.iload_n 1, .inl (0, 0, [])), (.imul, .inl (0, 0, [])), (.iadd, .inl (0, 0, [])), (.iload_n 2, .inl (0, 0, [])), (.iadd, .inl (0, 0, [])), (.istore 4, .inl (0, 0, [])), (.iload_n 3, .inl (0, 0, [])), (.i2l, .inl (0, 0, [])), (.aload_n 0, .inl (0, 0, [])), (.getfield 7, .inl (9, 1, [2, 1185])), (.iload 4, .inl (0, 0, [])), (.laload, .inl (0, 0, [])), (.lcmp, .inl (0, 0, [])), (.ifCond .gt 5, .inl (66, 0, [])), (.lconst 0, .inr (.inr (.long 0, 0))), (.lreturn, .inl (0, 0, []))]
theorem sk_X9_audit_36 : pp_chk mi_X9_audit 66 36 (pp_cnt mi_X9_audit 36) sg_X9_audit_36 = true := by decide +kernel
def sg_X9_audit_66 : pp_Seg := [(.aload_n 0, .inl (0, 0, [])), (.iload_n 1, .inl (0, 0, [])), (.iload_n 2, .inl (0, 0, [])), (.iload_n 3, .inl (0, 0, [])), (.i2l, .inl (0, 0, [])), (.aload_n 0, .inl (0, 0, [])), (.getfield 7, .inl (9, 1, [2, 1185])), (.iload 4, .inl (0, 0, [])), (.laload, .inl (0, 0, [])), (.lsub, .inl (0, 0, [])), (.invokevirtual 350, .inr (.inl (mi_X9_royalty, 9, 1607, [0, 0, 0, 0]))), (.lstore 5, .inl (0, 0, [])), (.lload 5, .inl (0, 0, [])), (.lload 5, .inl (0, 0, [])), (.aload_n 0, .inl (0, 0, [])), (.getfield 13, .inl (9, 2, [2, 1186])), (.bipush 13, .inr (.inr (.int 13, 0))), (.iaload, .inl (0, 0, [])), (.i2l, .inl (0, 0, [])), (.lmul, .inl (0, 0, [])), (.ldc2_w 303, .inr (.inr (.long 100, 1509))), (.ldiv, .inl (0, 0, [])), (.ladd, .inl (0, 0, [])), (.lstore 5, .inl (0, 0, [])), (.aload_n 0, .inl (0, 0, [])), (.getfield 7, .inl (9, 1, [2, 1185])), (.iload 4, .inl (0, 0, [])), (.iload_n 3, .inl (0, 0, [])), (.i2l, .inl (0, 0, [])), (.lastore, .inl (0, 0, [])), (.aload_n 0, .inl (0, 0, [])), (.getfield 7, .inl (9, 1, [2, 1185])), (.sipush 177, .inr (.inr (.int 177, 0))), (.iload_n 1, .inl (0, 0, [])), (.iadd, .inl (0, 0, [])), (.dup2, .inl (0, 0, [])), (.laload, .inl (0, 0, [])), (.lload 5, .inl (0, 0, [])), (.ladd, .inl (0, 0, [])), (.lastore, .inl (0, 0, [])), (.lload 5, .inl (0, 0, [])), (.lreturn, .inl (0, 0, []))]
theorem sk_X9_audit_66 : pp_chk mi_X9_audit 131 66 (pp_cnt mi_X9_audit 66) sg_X9_audit_66 = true := by decide +kernel
def sg_X9_close_0 : pp_Seg := [(.aload_n 0, .inl (0, 0, [])), (.iconst 0, .inr (.inr (.int 0, 0))), (.putfield 80, .inl (9, 0, [0, 1184])), (.aload_n 0, .inl (0, 0, [])), (.aload_n 0, .inl (0, 0, [])), (.getfield 7, .inl (9, 1, [2, 1185])), (.iconst 2, .inr (.inr (.int 2, 0))), (.laload, .inl (0, 0, [])), (.lconst 0, .inr (.inr (.long 0, 0))), (.lcmp, .inl (0, 0, [])), (.ifCond .ne 7, .inl (21, 0, [])), (.iconst 1, .inr (.inr (.int 1, 0))), (.goto 4, .inl (22, 0, []))]
theorem sk_X9_close_0 : pp_chk mi_X9_close 21 0 (pp_cnt mi_X9_close 0) sg_X9_close_0 = true := by decide +kernel
def sg_X9_close_21 : pp_Seg := [(.iconst 0, .inr (.inr (.int 0, 0)))]
theorem sk_X9_close_21 : pp_chk mi_X9_close 22 21 (pp_cnt mi_X9_close 21) sg_X9_close_21 = true := by decide +kernel
def sg_X9_close_22 : pp_Seg := [(.iconst 1, .inr (.inr (.int 1, 0))), (.invokevirtual 244, .inr (.inl (mi_X9_throwsIf, 9, 1297, [0, 0, 0]))), (.ifCond .eq 5, .inl (31, 0, [])), (.lconst 0, .inr (.inr (.long 0, 0))), (.lreturn, .inl (0, 0, []))]
theorem sk_X9_close_22 : pp_chk mi_X9_close 31 22 (pp_cnt mi_X9_close 22) sg_X9_close_22 = true := by decide +kernel
def sg_X9_close_31 : pp_Seg := [(.aload_n 0, .inl (0, 0, [])), (.invokevirtual 341, .inr (.inl (mi_X9_keeps, 9, 1577, [0]))), (.aload_n 0, .inl (0, 0, [])), (.getfield 7, .inl (9, 1, [2, 1185])), (.iconst 2, .inr (.inr (.int 2, 0))), (.laload, .inl (0, 0, [])), (.aload_n 0, .inl (0, 0, [])), (.getfield 13, .inl (9, 2, [2, 1186])), (.bipush 7, .inr (.inr (.int 7, 0))), (.iaload, .inl (0, 0, [])), (.i2l, .inl (0, 0, [])), (.lmul, .inl (0, 0, [])), (.ldc2_w 303, .inr (.inr (.long 100, 1509))), (.ldiv, .inl (0, 0, [])), (.lstore_n 1, .inl (0, 0, [])), (.aload_n 0, .inl (0, 0, [])), (.getfield 7, .inl (9, 1, [2, 1185])), (.iconst 2, .inr (.inr (.int 2, 0))), (.laload, .inl (0, 0, [])), (.aload_n 0, .inl (0, 0, [])), (.getfield 13, .inl (9, 2, [2, 1186])), (.bipush 8, .inr (.inr (.int 8, 0))), (.iaload, .inl (0, 0, [])), (.i2l, .inl (0, 0, [])), (.lmul, .inl (0, 0, [])), (.ldc2_w 303, .inr (.inr (.long 100, 1509))), (.ldiv, .inl (0, 0, [])), (.lstore_n 3, .inl (0, 0, [])), (.aload_n 0, .inl (0, 0, [])), (.getfield 7, .inl (9, 1, [2, 1185])), (.iconst 2, .inr (.inr (.int 2, 0))), (.laload, .inl (0, 0, [])), (.lload_n 1, .inl (0, 0, [])), (.lsub, .inl (0, 0, [])), (.lload_n 3, .inl (0, 0, [])), (.lsub, .inl (0, 0, [])), (.lstore 5, .inl (0, 0, [])), (.aload_n 0, .inl (0, 0, [])), (.lload 5, .inl (0, 0, [])), (.invokevirtual 321, .inr (.inl (mi_X9_shares, 9, 1501, [0, 0]))), (.lstore 7, .inl (0, 0, [])), (.aload_n 0, .inl (0, 0, [])), (.getfield 7, .inl (9, 1, [2, 1185])), (.iconst 3, .inr (.inr (.int 3, 0))), (.dup2, .inl (0, 0, [])), (.laload, .inl (0, 0, [])), (.lload_n 1, .inl (0, 0, [])), (.ladd, .inl (0, 0, [])), (.lastore, .inl (0, 0, [])), (.aload_n 0, .inl (0, 0, [])), (.getfield 7, .inl (9, 1, [2, 1185])), (.iconst 4, .inr (.inr (.int 4, 0))), (.dup2, .inl (0, 0, [])), (.laload, .inl (0, 0, [])), (.lload_n 3, .inl (0, 0, [])), (.lload 7, .inl (0, 0, [])), (.ladd, .inl (0, 0, [])), (.ladd, .inl (0, 0, [])), (.lastore, .inl (0, 0, [])), (.aload_n 0, .inl (0, 0, [])), (.getfield 7, .inl (9, 1, [2, 1185])), (.iconst 2, .inr (.inr (.int 2, 0))), (.lconst 0, .inr (.inr (.long 0, 0))), (.lastore, .inl (0, 0, [])), (.aload_n 0, .inl (0, 0, [])), (.getfield 7, .inl (9, 1, [2, 1185])), (.iconst 1, .inr (.inr (.int 1, 0))), (.dup2, .inl (0, 0, [])), (.laload, .inl (0, 0, [])), (.lconst 1, .inr (.inr (.long 1, 0))), (.ladd, .inl (0, 0, [])), (.lastore, .inl (0, 0, [])), (.iconst 0, .inr (.inr (.int 0, 0))), (.istore 9, .inl (0, 0, []))]
theorem sk_X9_close_31 : pp_chk mi_X9_close 138 31 (pp_cnt mi_X9_close 31) sg_X9_close_31 = true := by decide +kernel
def sg_X9_close_138 : pp_Seg := [(.iload 9, .inl (0, 0, [])), (.bipush 8, .inr (.inr (.int 8, 0))), (.if_icmp .ge 48, .inl (190, 0, [])), (.aload_n 0, .inl (0, 0, [])), (.getfield 7, .inl (9, 1, [2, 1185])), (.sipush 213, .inr (.inr (.int 213, 0))), (.iload 9, .inl (0, 0, [])), (.iadd, .inl (0, 0, [])), (.dup2, .inl (0, 0, [])), (.laload, .inl (0, 0, [])), (.aload_n 0, .inl (0, 0, [])), (.getfield 52, .inl (9, 24, [2, 1208])), (.iload 9, .inl (0, 0, [])), (.laload, .inl (0, 0, [])), (.ladd, .inl (0, 0, [])), (.lastore, .inl (0, 0, [])), (.aload_n 0, .inl (0, 0, [])), (.getfield 7, .inl (9, 1, [2, 1185])), (.sipush 221, .inr (.inr (.int 221, 0))), (.iload 9, .inl (0, 0, [])), (.iadd, .inl (0, 0, [])), (.aload_n 0, .inl (0, 0, [])), (.getfield 52, .inl (9, 24, [2, 1208])), (.iload 9, .inl (0, 0, [])), (.laload, .inl (0, 0, [])), (.lastore, .inl (0, 0, [])), (.iinc 9 1, .inr (.inr (.int 1, 0))), (.goto (-49), .inl (138, 0, []))]
theorem sk_X9_close_138 : pp_chk mi_X9_close 190 138 (pp_cnt mi_X9_close 138) sg_X9_close_138 = true := by decide +kernel
def sg_X9_close_190 : pp_Seg := [(.sipush 183, .inr (.inr (.int 183, 0))), (.istore 9, .inl (0, 0, []))]
theorem sk_X9_close_190 : pp_chk mi_X9_close 195 190 (pp_cnt mi_X9_close 190) sg_X9_close_190 = true := by decide +kernel
def sg_X9_close_195 : pp_Seg := [(.iload 9, .inl (0, 0, [])), (.sipush 213, .inr (.inr (.int 213, 0))), (.if_icmp .ge 17, .inl (217, 0, [])), (.aload_n 0, .inl (0, 0, [])), (.getfield 7, .inl (9, 1, [2, 1185])), (.iload 9, .inl (0, 0, [])), (.lconst 0, .inr (.inr (.long 0, 0))), (.lastore, .inl (0, 0, [])), (.iinc 9 1, .inr (.inr (.int 1, 0))), (.goto (-19), .inl (195, 0, []))]
theorem sk_X9_close_195 : pp_chk mi_X9_close 217 195 (pp_cnt mi_X9_close 195) sg_X9_close_195 = true := by decide +kernel
def sg_X9_close_217 : pp_Seg := [(.lload 5, .inl (0, 0, [])), (.lload 7, .inl (0, 0, [])), (.lsub, .inl (0, 0, [])), (.lreturn, .inl (0, 0, []))]
theorem sk_X9_close_217 : pp_chk mi_X9_close 223 217 (pp_cnt mi_X9_close 217) sg_X9_close_217 = true := by decide +kernel
def sg_X9_payOut_0 : pp_Seg := [(.aload_n 0, .inl (0, 0, [])), (.iload_n 1, .inl (0, 0, [])), (.invokevirtual 288, .inr (.inl (mi_X9_noMember, 9, 1471, [0, 0]))), (.ifCond .ne 31, .inl (36, 0, [])), (.aload_n 0, .inl (0, 0, [])), (.aload_n 0, .inl (0, 0, [])), (.getfield 7, .inl (9, 1, [2, 1185])), (.sipush 213, .inr (.inr (.int 213, 0))), (.iload_n 1, .inl (0, 0, [])), (.iadd, .inl (0, 0, [])), (.laload, .inl (0, 0, [])), (.lconst 0, .inr (.inr (.long 0, 0))), (.lcmp, .inl (0, 0, [])), (.ifCond .ne 7, .inl (28, 0, [])), (.iconst 1, .inr (.inr (.int 1, 0))), (.goto 4, .inl (29, 0, []))]
theorem sk_X9_payOut_0 : pp_chk mi_X9_payOut 28 0 (pp_cnt mi_X9_payOut 0) sg_X9_payOut_0 = true := by decide +kernel
def sg_X9_payOut_28 : pp_Seg := [(.iconst 0, .inr (.inr (.int 0, 0)))]
theorem sk_X9_payOut_28 : pp_chk mi_X9_payOut 29 28 (pp_cnt mi_X9_payOut 28) sg_X9_payOut_28 = true := by decide +kernel
def sg_X9_payOut_29 : pp_Seg := [(.iconst 2, .inr (.inr (.int 2, 0))), (.invokevirtual 244, .inr (.inl (mi_X9_throwsIf, 9, 1297, [0, 0, 0]))), (.ifCond .eq 5, .inl (38, 0, []))]
theorem sk_X9_payOut_29 : pp_chk mi_X9_payOut 36 29 (pp_cnt mi_X9_payOut 29) sg_X9_payOut_29 = true := by decide +kernel
def sg_X9_payOut_36 : pp_Seg := [(.lconst 0, .inr (.inr (.long 0, 0))), (.lreturn, .inl (0, 0, []))]
theorem sk_X9_payOut_36 : pp_chk mi_X9_payOut 38 36 (pp_cnt mi_X9_payOut 36) sg_X9_payOut_36 = true := by decide +kernel
def sg_X9_payOut_38 : pp_Seg := [(.aload_n 0, .inl (0, 0, [])), (.invokevirtual 341, .inr (.inl (mi_X9_keeps, 9, 1577, [0]))), (.aload_n 0, .inl (0, 0, [])), (.getfield 7, .inl (9, 1, [2, 1185])), (.sipush 213, .inr (.inr (.int 213, 0))), (.iload_n 1, .inl (0, 0, [])), (.iadd, .inl (0, 0, [])), (.laload, .inl (0, 0, [])), (.lstore_n 2, .inl (0, 0, [])), (.aload_n 0, .inl (0, 0, [])), (.getfield 7, .inl (9, 1, [2, 1185])), (.sipush 213, .inr (.inr (.int 213, 0))), (.iload_n 1, .inl (0, 0, [])), (.iadd, .inl (0, 0, [])), (.lconst 0, .inr (.inr (.long 0, 0))), (.lastore, .inl (0, 0, [])), (.aload_n 0, .inl (0, 0, [])), (.getfield 7, .inl (9, 1, [2, 1185])), (.bipush 6, .inr (.inr (.int 6, 0))), (.dup2, .inl (0, 0, [])), (.laload, .inl (0, 0, [])), (.lload_n 2, .inl (0, 0, [])), (.ladd, .inl (0, 0, [])), (.lastore, .inl (0, 0, [])), (.lload_n 2, .inl (0, 0, [])), (.lreturn, .inl (0, 0, []))]
theorem sk_X9_payOut_38 : pp_chk mi_X9_payOut 77 38 (pp_cnt mi_X9_payOut 38) sg_X9_payOut_38 = true := by decide +kernel
def sg_X9_undo_0 : pp_Seg := [(.aload_n 0, .inl (0, 0, [])), (.iconst 0, .inr (.inr (.int 0, 0))), (.putfield 80, .inl (9, 0, [0, 1184])), (.aload_n 0, .inl (0, 0, [])), (.getfield 251, .inl (9, 27, [0, 1211])), (.ifCond .ne 5, .inl (14, 0, [])), (.iconst (-1), .inr (.inr (.int (-1), 0))), (.ireturn, .inl (0, 0, []))]
theorem sk_X9_undo_0 : pp_chk mi_X9_undo 14 0 (pp_cnt mi_X9_undo 0) sg_X9_undo_0 = true := by decide +kernel
def sg_X9_undo_14 : pp_Seg := [(.aload_n 0, .inl (0, 0, [])), (.dup, .inl (0, 0, [])), (.getfield 251, .inl (9, 27, [0, 1211])), (.iconst 1, .inr (.inr (.int 1, 0))), (.isub, .inl (0, 0, [])), (.putfield 251, .inl (9, 27, [0, 1211])), (.aload_n 0, .inl (0, 0, [])), (.getfield 62, .inl (9, 28, [2, 1212])), (.sipush 229, .inr (.inr (.int 229, 0))), (.aload_n 0, .inl (0, 0, [])), (.getfield 251, .inl (9, 27, [0, 1211])), (.imul, .inl (0, 0, [])), (.aload_n 0, .inl (0, 0, [])), (.getfield 7, .inl (9, 1, [2, 1185])), (.iconst 0, .inr (.inr (.int 0, 0))), (.sipush 229, .inr (.inr (.int 229, 0))), (.invokestatic 356, .inr (.inl (mi_X9_copies, 0, 1581, [0, 0, 0, 0, 0]))), (.aload_n 0, .inl (0, 0, [])), (.getfield 251, .inl (9, 27, [0, 1211])), (.ireturn, .inl (0, 0, []))]
theorem sk_X9_undo_14 : pp_chk mi_X9_undo 52 14 (pp_cnt mi_X9_undo 14) sg_X9_undo_14 = true := by decide +kernel
def sg_X9_noSlot_0 : pp_Seg := [(.aload_n 0, .inl (0, 0, [])), (.iconst 0, .inr (.inr (.int 0, 0))), (.putfield 80, .inl (9, 0, [0, 1184])), (.aload_n 0, .inl (0, 0, [])), (.iload_n 1, .inl (0, 0, [])), (.i2l, .inl (0, 0, [])), (.ldc2_w 324, .inr (.inr (.long 2, 1531))), (.invokevirtual 256, .inr (.inl (mi_X9_no, 9, 1425, [0, 0, 0]))), (.ireturn, .inl (0, 0, []))]
theorem sk_X9_noSlot_0 : pp_chk mi_X9_noSlot 15 0 (pp_cnt mi_X9_noSlot 0) sg_X9_noSlot_0 = true := by decide +kernel
def sg_X9_saveSnapshot_0 : pp_Seg := [(.aload_n 0, .inl (0, 0, [])), (.iload_n 1, .inl (0, 0, [])), (.invokevirtual 360, .inr (.inl (mi_X9_noSlot, 9, 1640, [0, 0]))), (.ifCond .eq 5, .inl (10, 0, [])), (.iconst 0, .inr (.inr (.int 0, 0))), (.ireturn, .inl (0, 0, []))]
theorem sk_X9_saveSnapshot_0 : pp_chk mi_X9_saveSnapshot 10 0 (pp_cnt mi_X9_saveSnapshot 0) sg_X9_saveSnapshot_0 = true := by decide +kernel
def sg_X9_saveSnapshot_10 : pp_Seg := [(.aload_n 0, .inl (0, 0, [])), (.getfield 68, .inl (9, 30, [2, 1214])), (.iload_n 1, .inl (0, 0, [])), (.baload, .inl (1, 0, [])), (.istore_n 2, .inl (0, 0, [])), (.aload_n 0, .inl (0, 0, [])), (.getfield 7, .inl (9, 1, [2, 1185])), (.iconst 0, .inr (.inr (.int 0, 0))), (.aload_n 0, .inl (0, 0, [])), (.getfield 65, .inl (9, 29, [2, 1213])), (.sipush 229, .inr (.inr (.int 229, 0))), (.iload_n 1, .inl (0, 0, [])), (.imul, .inl (0, 0, [])), (.sipush 229, .inr (.inr (.int 229, 0))), (.invokestatic 356, .inr (.inl (mi_X9_copies, 0, 1581, [0, 0, 0, 0, 0]))), (.aload_n 0, .inl (0, 0, [])), (.getfield 68, .inl (9, 30, [2, 1214])), (.iload_n 1, .inl (0, 0, [])), (.iconst 1, .inr (.inr (.int 1, 0))), (.bastore, .inl (1, 0, [])), (.iload_n 2, .inl (0, 0, [])), (.ireturn, .inl (0, 0, []))]
theorem sk_X9_saveSnapshot_10 : pp_chk mi_X9_saveSnapshot 46 10 (pp_cnt mi_X9_saveSnapshot 10) sg_X9_saveSnapshot_10 = true := by decide +kernel
def sg_X9_restoreSnapshot_0 : pp_Seg := [(.aload_n 0, .inl (0, 0, [])), (.iload_n 1, .inl (0, 0, [])), (.invokevirtual 360, .inr (.inl (mi_X9_noSlot, 9, 1640, [0, 0]))), (.ifCond .ne 25, .inl (30, 0, [])), (.aload_n 0, .inl (0, 0, [])), (.aload_n 0, .inl (0, 0, [])), (.getfield 68, .inl (9, 30, [2, 1214])), (.iload_n 1, .inl (0, 0, [])), (.baload, .inl (1, 0, [])), (.ifCond .ne 7, .inl (22, 0, [])), (.iconst 1, .inr (.inr (.int 1, 0))), (.goto 4, .inl (23, 0, []))]
theorem sk_X9_restoreSnapshot_0 : pp_chk mi_X9_restoreSnapshot 22 0 (pp_cnt mi_X9_restoreSnapshot 0) sg_X9_restoreSnapshot_0 = true := by decide +kernel
def sg_X9_restoreSnapshot_22 : pp_Seg := [(.iconst 0, .inr (.inr (.int 0, 0)))]
theorem sk_X9_restoreSnapshot_22 : pp_chk mi_X9_restoreSnapshot 23 22 (pp_cnt mi_X9_restoreSnapshot 22) sg_X9_restoreSnapshot_22 = true := by decide +kernel
def sg_X9_restoreSnapshot_23 : pp_Seg := [(.iconst 2, .inr (.inr (.int 2, 0))), (.invokevirtual 244, .inr (.inl (mi_X9_throwsIf, 9, 1297, [0, 0, 0]))), (.ifCond .eq 5, .inl (32, 0, []))]
theorem sk_X9_restoreSnapshot_23 : pp_chk mi_X9_restoreSnapshot 30 23 (pp_cnt mi_X9_restoreSnapshot 23) sg_X9_restoreSnapshot_23 = true := by decide +kernel
def sg_X9_restoreSnapshot_30 : pp_Seg := [(.iconst 0, .inr (.inr (.int 0, 0))), (.ireturn, .inl (0, 0, []))]
theorem sk_X9_restoreSnapshot_30 : pp_chk mi_X9_restoreSnapshot 32 30 (pp_cnt mi_X9_restoreSnapshot 30) sg_X9_restoreSnapshot_30 = true := by decide +kernel
def sg_X9_restoreSnapshot_32 : pp_Seg := [(.aload_n 0, .inl (0, 0, [])), (.getfield 65, .inl (9, 29, [2, 1213])), (.sipush 229, .inr (.inr (.int 229, 0))), (.iload_n 1, .inl (0, 0, [])), (.imul, .inl (0, 0, [])), (.aload_n 0, .inl (0, 0, [])), (.getfield 7, .inl (9, 1, [2, 1185])), (.iconst 0, .inr (.inr (.int 0, 0))), (.sipush 229, .inr (.inr (.int 229, 0))), (.invokestatic 356, .inr (.inl (mi_X9_copies, 0, 1581, [0, 0, 0, 0, 0]))), (.aload_n 0, .inl (0, 0, [])), (.iconst 0, .inr (.inr (.int 0, 0))), (.putfield 251, .inl (9, 27, [0, 1211])), (.aload_n 0, .inl (0, 0, [])), (.getfield 7, .inl (9, 1, [2, 1185])), (.iconst 0, .inr (.inr (.int 0, 0))), (.laload, .inl (0, 0, [])), (.l2i, .inl (0, 0, [])), (.ireturn, .inl (0, 0, []))]
theorem sk_X9_restoreSnapshot_32 : pp_chk mi_X9_restoreSnapshot 65 32 (pp_cnt mi_X9_restoreSnapshot 32) sg_X9_restoreSnapshot_32 = true := by decide +kernel
end
section
/-! printed by wip/gencode.py: listings -/
def sg_J0_coder_7d493_0 : pp_Seg := [(.getstatic 38, .inl (0, 690, [])), (.ifCond .eq 10, .inl (13, 0, [])), (.aload_n 0, .inl (0, 0, [])), (.getfield 15, .inl (0, 0, [4, 1650])), (.goto 4, .inl (14, 0, []))]
theorem sk_J0_coder_7d493_0 : pp_chk mi_J0_coder_7d493 13 0 (pp_cnt mi_J0_coder_7d493 0) sg_J0_coder_7d493_0 = true := by decide +kernel
def sg_J0_coder_7d493_13 : pp_Seg := [(.iconst 1, .inr (.inr (.int 1, 0)))]
theorem sk_J0_coder_7d493_13 : pp_chk mi_J0_coder_7d493 14 13 (pp_cnt mi_J0_coder_7d493 13) sg_J0_coder_7d493_13 = true := by decide +kernel
def sg_J0_coder_7d493_14 : pp_Seg := [(.ireturn, .inl (0, 0, []))]
theorem sk_J0_coder_7d493_14 : pp_chk mi_J0_coder_7d493 15 14 (pp_cnt mi_J0_coder_7d493 14) sg_J0_coder_7d493_14 = true := by decide +kernel
def sg_J0_length_8abf5_0 : pp_Seg := [(.aload_n 0, .inl (0, 0, [])), (.getfield 9, .inl (0, 0, [3, 1649])), (.arraylength, .inl (2, 0, [])), (.aload_n 0, .inl (0, 0, [])), (.invokevirtual 335, .inr (.inl (mi_J0_coder_7d493, 0, 686, [1]))), (.ishr, .inl (0, 0, [])), (.ireturn, .inl (0, 0, []))]
theorem sk_J0_length_8abf5_0 : pp_chk mi_J0_length_8abf5 11 0 (pp_cnt mi_J0_length_8abf5 0) sg_J0_length_8abf5_0 = true := by decide +kernel
def sg_J0_isLatin1_aae02_0 : pp_Seg := [(.getstatic 38, .inl (0, 690, [])), (.ifCond .eq 14, .inl (17, 0, [])), (.aload_n 0, .inl (0, 0, [])), (.getfield 15, .inl (0, 0, [4, 1650])), (.ifCond .ne 7, .inl (17, 0, [])), (.iconst 1, .inr (.inr (.int 1, 0))), (.goto 4, .inl (18, 0, []))]
theorem sk_J0_isLatin1_aae02_0 : pp_chk mi_J0_isLatin1_aae02 17 0 (pp_cnt mi_J0_isLatin1_aae02 0) sg_J0_isLatin1_aae02_0 = true := by decide +kernel
def sg_J0_isLatin1_aae02_17 : pp_Seg := [(.iconst 0, .inr (.inr (.int 0, 0)))]
theorem sk_J0_isLatin1_aae02_17 : pp_chk mi_J0_isLatin1_aae02 18 17 (pp_cnt mi_J0_isLatin1_aae02 17) sg_J0_isLatin1_aae02_17 = true := by decide +kernel
def sg_J0_isLatin1_aae02_18 : pp_Seg := [(.ireturn, .inl (0, 0, []))]
theorem sk_J0_isLatin1_aae02_18 : pp_chk mi_J0_isLatin1_aae02 19 18 (pp_cnt mi_J0_isLatin1_aae02 18) sg_J0_isLatin1_aae02_18 = true := by decide +kernel
def sg_J3_checkIndex_8e157_0 : pp_Seg := [(.iload_n 0, .inl (0, 0, [])), (.ifCond .lt 8, .inl (9, 0, [])), (.iload_n 0, .inl (0, 0, [])), (.iload_n 1, .inl (0, 0, [])), (.if_icmp .lt 10, .inl (16, 0, []))]
theorem sk_J3_checkIndex_8e157_0 : pp_chk mi_J3_checkIndex_8e157 9 0 (pp_cnt mi_J3_checkIndex_8e157 0) sg_J3_checkIndex_8e157_0 = true := by decide +kernel
def sg_J3_checkIndex_8e157_16 : pp_Seg := [(.iload_n 0, .inl (0, 0, [])), (.ireturn, .inl (0, 0, []))]
theorem sk_J3_checkIndex_8e157_16 : pp_chk mi_J3_checkIndex_8e157 18 16 (pp_cnt mi_J3_checkIndex_8e157 16) sg_J3_checkIndex_8e157_16 = true := by decide +kernel
def sg_J0_checkIndex_df160_0 : pp_Seg := [(.iload_n 0, .inl (0, 0, [])), (.iload_n 1, .inl (0, 0, [])), (.getstatic 1053, .inl (1, 706, [])), (.invokestatic 1059, .inr (.inl (mi_J3_checkIndex_8e157, 0, 708, [0, 0, 0]))), (.pop, .inl (0, 0, [])), (.return_, .inl (0, 0, []))]
theorem sk_J0_checkIndex_df160_0 : pp_chk mi_J0_checkIndex_df160 10 0 (pp_cnt mi_J0_checkIndex_df160 0) sg_J0_checkIndex_df160_0 = true := by decide +kernel
def sg_J1_charAt_3b067_0 : pp_Seg := [(.iload_n 1, .inl (0, 0, [])), (.aload_n 0, .inl (0, 0, [])), (.arraylength, .inl (2, 0, [])), (.invokestatic 9, .inr (.inl (mi_J0_checkIndex_df160, 0, 703, [0, 0]))), (.aload_n 0, .inl (0, 0, [])), (.iload_n 1, .inl (0, 0, [])), (.baload, .inl (2, 0, [])), (.sipush 255, .inr (.inr (.int 255, 0))), (.iand, .inl (0, 0, [])), (.i2c, .inl (0, 0, [])), (.ireturn, .inl (0, 0, []))]
theorem sk_J1_charAt_3b067_0 : pp_chk mi_J1_charAt_3b067 15 0 (pp_cnt mi_J1_charAt_3b067 0) sg_J1_charAt_3b067_0 = true := by decide +kernel
def sg_J0_charAt_5068e_0 : pp_Seg := [(.aload_n 0, .inl (0, 0, [])), (.invokevirtual 492, .inr (.inl (mi_J0_isLatin1_aae02, 0, 696, [1]))), (.ifCond .eq 12, .inl (16, 0, [])), (.aload_n 0, .inl (0, 0, [])), (.getfield 9, .inl (0, 0, [3, 1649])), (.iload_n 1, .inl (0, 0, [])), (.invokestatic 495, .inr (.inl (mi_J1_charAt_3b067, 0, 700, [0, 0]))), (.ireturn, .inl (0, 0, []))]
theorem sk_J0_charAt_5068e_0 : pp_chk mi_J0_charAt_5068e 16 0 (pp_cnt mi_J0_charAt_5068e 0) sg_J0_charAt_5068e_0 = true := by decide +kernel
def sg_J6_bitCount_0f7a4_0 : pp_Seg := [(.iload_n 0, .inl (0, 0, [])), (.iload_n 0, .inl (0, 0, [])), (.iconst 1, .inr (.inr (.int 1, 0))), (.iushr, .inl (0, 0, [])), (.ldc_w 265, .inr (.inr (.int 1431655765, 523))), (.iand, .inl (0, 0, [])), (.isub, .inl (0, 0, [])), (.istore_n 0, .inl (0, 0, [])), (.iload_n 0, .inl (0, 0, [])), (.ldc_w 266, .inr (.inr (.int 858993459, 524))), (.iand, .inl (0, 0, [])), (.iload_n 0, .inl (0, 0, [])), (.iconst 2, .inr (.inr (.int 2, 0))), (.iushr, .inl (0, 0, [])), (.ldc_w 266, .inr (.inr (.int 858993459, 524))), (.iand, .inl (0, 0, [])), (.iadd, .inl (0, 0, [])), (.istore_n 0, .inl (0, 0, [])), (.iload_n 0, .inl (0, 0, [])), (.iload_n 0, .inl (0, 0, [])), (.iconst 4, .inr (.inr (.int 4, 0))), (.iushr, .inl (0, 0, [])), (.iadd, .inl (0, 0, [])), (.ldc_w 267, .inr (.inr (.int 252645135, 525))), (.iand, .inl (0, 0, [])), (.istore_n 0, .inl (0, 0, [])), (.iload_n 0, .inl (0, 0, [])), (.iload_n 0, .inl (0, 0, [])), (.bipush 8, .inr (.inr (.int 8, 0))), (.iushr, .inl (0, 0, [])), (.iadd, .inl (0, 0, [])), (.istore_n 0, .inl (0, 0, [])), (.iload_n 0, .inl (0, 0, [])), (.iload_n 0, .inl (0, 0, [])), (.bipush 16, .inr (.inr (.int 16, 0))), (.iushr, .inl (0, 0, [])), (.iadd, .inl (0, 0, [])), (.istore_n 0, .inl (0, 0, [])), (.iload_n 0, .inl (0, 0, [])), (.bipush 63, .inr (.inr (.int 63, 0))), (.iand, .inl (0, 0, [])), (.ireturn, .inl (0, 0, []))]
theorem sk_J6_bitCount_0f7a4_0 : pp_chk mi_J6_bitCount_0f7a4 53 0 (pp_cnt mi_J6_bitCount_0f7a4 0) sg_J6_bitCount_0f7a4_0 = true := by decide +kernel
def sg_J7_fill_53178_0 : pp_Seg := [(.iconst 0, .inr (.inr (.int 0, 0))), (.istore_n 2, .inl (0, 0, [])), (.aload_n 0, .inl (0, 0, [])), (.arraylength, .inl (0, 0, [])), (.istore_n 3, .inl (0, 0, []))]
theorem sk_J7_fill_53178_0 : pp_chk mi_J7_fill_53178 5 0 (pp_cnt mi_J7_fill_53178 0) sg_J7_fill_53178_0 = true := by decide +kernel
def sg_J7_fill_53178_5 : pp_Seg := [(.iload_n 2, .inl (0, 0, [])), (.iload_n 3, .inl (0, 0, [])), (.if_icmp .ge 13, .inl (20, 0, [])), (.aload_n 0, .inl (0, 0, [])), (.iload_n 2, .inl (0, 0, [])), (.iload_n 1, .inl (0, 0, [])), (.iastore, .inl (0, 0, [])), (.iinc 2 1, .inr (.inr (.int 1, 0))), (.goto (-12), .inl (5, 0, []))]
theorem sk_J7_fill_53178_5 : pp_chk mi_J7_fill_53178 20 5 (pp_cnt mi_J7_fill_53178 5) sg_J7_fill_53178_5 = true := by decide +kernel
def sg_J7_fill_53178_20 : pp_Seg := [(.return_, .inl (0, 0, []))]
theorem sk_J7_fill_53178_20 : pp_chk mi_J7_fill_53178 21 20 (pp_cnt mi_J7_fill_53178 20) sg_J7_fill_53178_20 = true := by decide +kernel
end
section
/-! printed by wip/gencode.py: listings -/
def sg_L_parse_0 : pp_Seg := [(.aload_n 2, .inl (0, 0, [])), (.iconst 0, .inr (.inr (.int 0, 0))), (.aload_n 0, .inl (0, 0, [])), (.iload_n 1, .inl (0, 0, [])), (.invokevirtual 7, .inr (.inl (mi_X8_parse, 8, 575, [0, 0]))), (.i2l, .inl (0, 0, [])), (.lastore, .inl (0, 0, [])), (.goto 6, .inl (15, 0, []))]
theorem sk_L_parse_0 : pp_chk mi_L_parse 12 0 (pp_cnt mi_L_parse 0) sg_L_parse_0 = true := by decide +kernel
def sg_L_parse_12 : pp_Seg := [(.astore_n 3, .inl (0, 0, [])), (.iconst 1, .inr (.inr (.int 1, 0))), (.ireturn, .inl (0, 0, []))]
theorem sk_L_parse_12 : pp_chk mi_L_parse 15 12 (pp_cnt mi_L_parse 12) sg_L_parse_12 = true := by decide +kernel
def sg_L_parse_15 : pp_Seg := [(.iconst 0, .inr (.inr (.int 0, 0))), (.ireturn, .inl (0, 0, []))]
theorem sk_L_parse_15 : pp_chk mi_L_parse 17 15 (pp_cnt mi_L_parse 15) sg_L_parse_15 = true := by decide +kernel
def sg_L_size_0 : pp_Seg := [(.aload_n 2, .inl (0, 0, [])), (.iconst 0, .inr (.inr (.int 0, 0))), (.aload_n 0, .inl (0, 0, [])), (.iload_n 1, .inl (0, 0, [])), (.invokevirtual 15, .inr (.inl (mi_X8_size, 8, 829, [0, 0]))), (.i2l, .inl (0, 0, [])), (.lastore, .inl (0, 0, [])), (.goto 6, .inl (15, 0, []))]
theorem sk_L_size_0 : pp_chk mi_L_size 12 0 (pp_cnt mi_L_size 0) sg_L_size_0 = true := by decide +kernel
def sg_L_size_12 : pp_Seg := [(.astore_n 3, .inl (0, 0, [])), (.iconst 1, .inr (.inr (.int 1, 0))), (.ireturn, .inl (0, 0, []))]
theorem sk_L_size_12 : pp_chk mi_L_size 15 12 (pp_cnt mi_L_size 12) sg_L_size_12 = true := by decide +kernel
def sg_L_size_15 : pp_Seg := [(.iconst 0, .inr (.inr (.int 0, 0))), (.ireturn, .inl (0, 0, []))]
theorem sk_L_size_15 : pp_chk mi_L_size 17 15 (pp_cnt mi_L_size 15) sg_L_size_15 = true := by decide +kernel
def sg_L_decision_0 : pp_Seg := [(.aload_n 3, .inl (0, 0, [])), (.iconst 0, .inr (.inr (.int 0, 0))), (.aload_n 0, .inl (0, 0, [])), (.iload_n 1, .inl (0, 0, [])), (.iload_n 2, .inl (0, 0, [])), (.invokevirtual 18, .inr (.inl (mi_X8_decision, 8, 838, [0, 0, 0]))), (.i2l, .inl (0, 0, [])), (.lastore, .inl (0, 0, [])), (.goto 7, .inl (17, 0, []))]
theorem sk_L_decision_0 : pp_chk mi_L_decision 13 0 (pp_cnt mi_L_decision 0) sg_L_decision_0 = true := by decide +kernel
def sg_L_decision_13 : pp_Seg := [(.astore 4, .inl (0, 0, [])), (.iconst 1, .inr (.inr (.int 1, 0))), (.ireturn, .inl (0, 0, []))]
theorem sk_L_decision_13 : pp_chk mi_L_decision 17 13 (pp_cnt mi_L_decision 13) sg_L_decision_13 = true := by decide +kernel
def sg_L_decision_17 : pp_Seg := [(.iconst 0, .inr (.inr (.int 0, 0))), (.ireturn, .inl (0, 0, []))]
theorem sk_L_decision_17 : pp_chk mi_L_decision 19 17 (pp_cnt mi_L_decision 17) sg_L_decision_17 = true := by decide +kernel
def sg_L_voters_0 : pp_Seg := [(.aload 4, .inl (0, 0, [])), (.iconst 0, .inr (.inr (.int 0, 0))), (.aload_n 0, .inl (0, 0, [])), (.iload_n 1, .inl (0, 0, [])), (.iload_n 2, .inl (0, 0, [])), (.iload_n 3, .inl (0, 0, [])), (.invokevirtual 24, .inr (.inl (mi_X8_voters, 8, 871, [0, 0, 0, 0]))), (.i2l, .inl (0, 0, [])), (.lastore, .inl (0, 0, [])), (.goto 7, .inl (19, 0, []))]
theorem sk_L_voters_0 : pp_chk mi_L_voters 15 0 (pp_cnt mi_L_voters 0) sg_L_voters_0 = true := by decide +kernel
def sg_L_voters_15 : pp_Seg := [(.astore 5, .inl (0, 0, [])), (.iconst 1, .inr (.inr (.int 1, 0))), (.ireturn, .inl (0, 0, []))]
theorem sk_L_voters_15 : pp_chk mi_L_voters 19 15 (pp_cnt mi_L_voters 15) sg_L_voters_15 = true := by decide +kernel
def sg_L_voters_19 : pp_Seg := [(.iconst 0, .inr (.inr (.int 0, 0))), (.ireturn, .inl (0, 0, []))]
theorem sk_L_voters_19 : pp_chk mi_L_voters 21 19 (pp_cnt mi_L_voters 19) sg_L_voters_19 = true := by decide +kernel
def sg_L_votesNeeded_0 : pp_Seg := [(.aload_n 3, .inl (0, 0, [])), (.iconst 0, .inr (.inr (.int 0, 0))), (.aload_n 0, .inl (0, 0, [])), (.iload_n 1, .inl (0, 0, [])), (.iload_n 2, .inl (0, 0, [])), (.invokevirtual 28, .inr (.inl (mi_X8_votesNeeded, 8, 879, [0, 0, 0]))), (.i2l, .inl (0, 0, [])), (.lastore, .inl (0, 0, [])), (.goto 7, .inl (17, 0, []))]
theorem sk_L_votesNeeded_0 : pp_chk mi_L_votesNeeded 13 0 (pp_cnt mi_L_votesNeeded 0) sg_L_votesNeeded_0 = true := by decide +kernel
def sg_L_votesNeeded_13 : pp_Seg := [(.astore 4, .inl (0, 0, [])), (.iconst 1, .inr (.inr (.int 1, 0))), (.ireturn, .inl (0, 0, []))]
theorem sk_L_votesNeeded_13 : pp_chk mi_L_votesNeeded 17 13 (pp_cnt mi_L_votesNeeded 13) sg_L_votesNeeded_13 = true := by decide +kernel
def sg_L_votesNeeded_17 : pp_Seg := [(.iconst 0, .inr (.inr (.int 0, 0))), (.ireturn, .inl (0, 0, []))]
theorem sk_L_votesNeeded_17 : pp_chk mi_L_votesNeeded 19 17 (pp_cnt mi_L_votesNeeded 17) sg_L_votesNeeded_17 = true := by decide +kernel
def sg_L_counts_0 : pp_Seg := [(.aload_n 3, .inl (0, 0, [])), (.iconst 0, .inr (.inr (.int 0, 0))), (.aload_n 0, .inl (0, 0, [])), (.iload_n 1, .inl (0, 0, [])), (.iload_n 2, .inl (0, 0, [])), (.invokevirtual 31, .inr (.inl (mi_X8_counts, 8, 890, [0, 0, 0]))), (.ifCond .eq 7, .inl (15, 0, [])), (.lconst 1, .inr (.inr (.long 1, 0))), (.goto 4, .inl (16, 0, []))]
theorem sk_L_counts_0 : pp_chk mi_L_counts 15 0 (pp_cnt mi_L_counts 0) sg_L_counts_0 = true := by decide +kernel
def sg_L_counts_15 : pp_Seg := [(.lconst 0, .inr (.inr (.long 0, 0)))]
theorem sk_L_counts_15 : pp_chk mi_L_counts 16 15 (pp_cnt mi_L_counts 15) sg_L_counts_15 = true := by decide +kernel
def sg_L_counts_16 : pp_Seg := [(.lastore, .inl (0, 0, [])), (.goto 7, .inl (24, 0, []))]
theorem sk_L_counts_16 : pp_chk mi_L_counts 20 16 (pp_cnt mi_L_counts 16) sg_L_counts_16 = true := by decide +kernel
def sg_L_counts_20 : pp_Seg := [(.astore 4, .inl (0, 0, [])), (.iconst 1, .inr (.inr (.int 1, 0))), (.ireturn, .inl (0, 0, []))]
theorem sk_L_counts_20 : pp_chk mi_L_counts 24 20 (pp_cnt mi_L_counts 20) sg_L_counts_20 = true := by decide +kernel
def sg_L_counts_24 : pp_Seg := [(.iconst 0, .inr (.inr (.int 0, 0))), (.ireturn, .inl (0, 0, []))]
theorem sk_L_counts_24 : pp_chk mi_L_counts 26 24 (pp_cnt mi_L_counts 24) sg_L_counts_24 = true := by decide +kernel
def sg_L_firstToExpire_0 : pp_Seg := [(.aload_n 2, .inl (0, 0, [])), (.iconst 0, .inr (.inr (.int 0, 0))), (.aload_n 0, .inl (0, 0, [])), (.iload_n 1, .inl (0, 0, [])), (.invokevirtual 35, .inr (.inl (mi_X8_firstToExpire, 8, 898, [0, 0]))), (.i2l, .inl (0, 0, [])), (.lastore, .inl (0, 0, [])), (.goto 6, .inl (15, 0, []))]
theorem sk_L_firstToExpire_0 : pp_chk mi_L_firstToExpire 12 0 (pp_cnt mi_L_firstToExpire 0) sg_L_firstToExpire_0 = true := by decide +kernel
def sg_L_firstToExpire_12 : pp_Seg := [(.astore_n 3, .inl (0, 0, [])), (.iconst 1, .inr (.inr (.int 1, 0))), (.ireturn, .inl (0, 0, []))]
theorem sk_L_firstToExpire_12 : pp_chk mi_L_firstToExpire 15 12 (pp_cnt mi_L_firstToExpire 12) sg_L_firstToExpire_12 = true := by decide +kernel
def sg_L_firstToExpire_15 : pp_Seg := [(.iconst 0, .inr (.inr (.int 0, 0))), (.ireturn, .inl (0, 0, []))]
theorem sk_L_firstToExpire_15 : pp_chk mi_L_firstToExpire 17 15 (pp_cnt mi_L_firstToExpire 15) sg_L_firstToExpire_15 = true := by decide +kernel
def sg_L_weight_0 : pp_Seg := [(.aload_n 2, .inl (0, 0, [])), (.iconst 0, .inr (.inr (.int 0, 0))), (.aload_n 0, .inl (0, 0, [])), (.iload_n 1, .inl (0, 0, [])), (.invokevirtual 38, .inr (.inl (mi_X8_weight, 8, 911, [0, 0]))), (.i2l, .inl (0, 0, [])), (.lastore, .inl (0, 0, [])), (.goto 6, .inl (15, 0, []))]
theorem sk_L_weight_0 : pp_chk mi_L_weight 12 0 (pp_cnt mi_L_weight 0) sg_L_weight_0 = true := by decide +kernel
def sg_L_weight_12 : pp_Seg := [(.astore_n 3, .inl (0, 0, [])), (.iconst 1, .inr (.inr (.int 1, 0))), (.ireturn, .inl (0, 0, []))]
theorem sk_L_weight_12 : pp_chk mi_L_weight 15 12 (pp_cnt mi_L_weight 12) sg_L_weight_12 = true := by decide +kernel
def sg_L_weight_15 : pp_Seg := [(.iconst 0, .inr (.inr (.int 0, 0))), (.ireturn, .inl (0, 0, []))]
theorem sk_L_weight_15 : pp_chk mi_L_weight 17 15 (pp_cnt mi_L_weight 15) sg_L_weight_15 = true := by decide +kernel
def sg_L_weightAfter_0 : pp_Seg := [(.aload_n 3, .inl (0, 0, [])), (.iconst 0, .inr (.inr (.int 0, 0))), (.aload_n 0, .inl (0, 0, [])), (.iload_n 1, .inl (0, 0, [])), (.iload_n 2, .inl (0, 0, [])), (.invokevirtual 41, .inr (.inl (mi_X8_weightAfter, 8, 918, [0, 0, 0]))), (.i2l, .inl (0, 0, [])), (.lastore, .inl (0, 0, [])), (.goto 11, .inl (21, 0, []))]
theorem sk_L_weightAfter_0 : pp_chk mi_L_weightAfter 13 0 (pp_cnt mi_L_weightAfter 0) sg_L_weightAfter_0 = true := by decide +kernel
def sg_L_weightAfter_13 : pp_Seg := [(.astore 4, .inl (0, 0, [])), (.iconst 1, .inr (.inr (.int 1, 0))), (.ireturn, .inl (0, 0, []))]
theorem sk_L_weightAfter_13 : pp_chk mi_L_weightAfter 17 13 (pp_cnt mi_L_weightAfter 13) sg_L_weightAfter_13 = true := by decide +kernel
def sg_L_weightAfter_17 : pp_Seg := [(.astore 4, .inl (0, 0, [])), (.iconst 2, .inr (.inr (.int 2, 0))), (.ireturn, .inl (0, 0, []))]
theorem sk_L_weightAfter_17 : pp_chk mi_L_weightAfter 21 17 (pp_cnt mi_L_weightAfter 17) sg_L_weightAfter_17 = true := by decide +kernel
def sg_L_weightAfter_21 : pp_Seg := [(.iconst 0, .inr (.inr (.int 0, 0))), (.ireturn, .inl (0, 0, []))]
theorem sk_L_weightAfter_21 : pp_chk mi_L_weightAfter 23 21 (pp_cnt mi_L_weightAfter 21) sg_L_weightAfter_21 = true := by decide +kernel
def sg_L_shareOf_0 : pp_Seg := [(.aload_n 3, .inl (0, 0, [])), (.iconst 0, .inr (.inr (.int 0, 0))), (.aload_n 0, .inl (0, 0, [])), (.iload_n 1, .inl (0, 0, [])), (.iload_n 2, .inl (0, 0, [])), (.invokevirtual 44, .inr (.inl (mi_X8_shareOf, 8, 926, [0, 0, 0]))), (.i2l, .inl (0, 0, [])), (.lastore, .inl (0, 0, [])), (.goto 11, .inl (21, 0, []))]
theorem sk_L_shareOf_0 : pp_chk mi_L_shareOf 13 0 (pp_cnt mi_L_shareOf 0) sg_L_shareOf_0 = true := by decide +kernel
def sg_L_shareOf_13 : pp_Seg := [(.astore 4, .inl (0, 0, [])), (.iconst 1, .inr (.inr (.int 1, 0))), (.ireturn, .inl (0, 0, []))]
theorem sk_L_shareOf_13 : pp_chk mi_L_shareOf 17 13 (pp_cnt mi_L_shareOf 13) sg_L_shareOf_13 = true := by decide +kernel
def sg_L_shareOf_17 : pp_Seg := [(.astore 4, .inl (0, 0, [])), (.iconst 2, .inr (.inr (.int 2, 0))), (.ireturn, .inl (0, 0, []))]
theorem sk_L_shareOf_17 : pp_chk mi_L_shareOf 21 17 (pp_cnt mi_L_shareOf 17) sg_L_shareOf_17 = true := by decide +kernel
def sg_L_shareOf_21 : pp_Seg := [(.iconst 0, .inr (.inr (.int 0, 0))), (.ireturn, .inl (0, 0, []))]
theorem sk_L_shareOf_21 : pp_chk mi_L_shareOf 23 21 (pp_cnt mi_L_shareOf 21) sg_L_shareOf_21 = true := by decide +kernel
def sg_L_power_0 : pp_Seg := [(.aload_n 2, .inl (0, 0, [])), (.iconst 0, .inr (.inr (.int 0, 0))), (.aload_n 0, .inl (0, 0, [])), (.iload_n 1, .inl (0, 0, [])), (.invokevirtual 47, .inr (.inl (mi_X8_power, 8, 960, [0, 0]))), (.i2l, .inl (0, 0, [])), (.lastore, .inl (0, 0, [])), (.goto 6, .inl (15, 0, []))]
theorem sk_L_power_0 : pp_chk mi_L_power 12 0 (pp_cnt mi_L_power 0) sg_L_power_0 = true := by decide +kernel
def sg_L_power_12 : pp_Seg := [(.astore_n 3, .inl (0, 0, [])), (.iconst 1, .inr (.inr (.int 1, 0))), (.ireturn, .inl (0, 0, []))]
theorem sk_L_power_12 : pp_chk mi_L_power 15 12 (pp_cnt mi_L_power 12) sg_L_power_12 = true := by decide +kernel
def sg_L_power_15 : pp_Seg := [(.iconst 0, .inr (.inr (.int 0, 0))), (.ireturn, .inl (0, 0, []))]
theorem sk_L_power_15 : pp_chk mi_L_power 17 15 (pp_cnt mi_L_power 15) sg_L_power_15 = true := by decide +kernel
def sg_L_owed_0 : pp_Seg := [(.aload_n 2, .inl (0, 0, [])), (.iconst 0, .inr (.inr (.int 0, 0))), (.aload_n 0, .inl (0, 0, [])), (.iload_n 1, .inl (0, 0, [])), (.invokevirtual 50, .inr (.inl (mi_X8_owed, 8, 967, [0, 0]))), (.lastore, .inl (0, 0, [])), (.goto 6, .inl (14, 0, []))]
theorem sk_L_owed_0 : pp_chk mi_L_owed 11 0 (pp_cnt mi_L_owed 0) sg_L_owed_0 = true := by decide +kernel
def sg_L_owed_11 : pp_Seg := [(.astore_n 3, .inl (0, 0, [])), (.iconst 1, .inr (.inr (.int 1, 0))), (.ireturn, .inl (0, 0, []))]
theorem sk_L_owed_11 : pp_chk mi_L_owed 14 11 (pp_cnt mi_L_owed 11) sg_L_owed_11 = true := by decide +kernel
def sg_L_owed_14 : pp_Seg := [(.iconst 0, .inr (.inr (.int 0, 0))), (.ireturn, .inl (0, 0, []))]
theorem sk_L_owed_14 : pp_chk mi_L_owed 16 14 (pp_cnt mi_L_owed 14) sg_L_owed_14 = true := by decide +kernel
def sg_L_reported_0 : pp_Seg := [(.aload_n 3, .inl (0, 0, [])), (.iconst 0, .inr (.inr (.int 0, 0))), (.aload_n 0, .inl (0, 0, [])), (.iload_n 1, .inl (0, 0, [])), (.iload_n 2, .inl (0, 0, [])), (.invokevirtual 54, .inr (.inl (mi_X8_reported, 8, 979, [0, 0, 0]))), (.i2l, .inl (0, 0, [])), (.lastore, .inl (0, 0, [])), (.goto 7, .inl (17, 0, []))]
theorem sk_L_reported_0 : pp_chk mi_L_reported 13 0 (pp_cnt mi_L_reported 0) sg_L_reported_0 = true := by decide +kernel
def sg_L_reported_13 : pp_Seg := [(.astore 4, .inl (0, 0, [])), (.iconst 1, .inr (.inr (.int 1, 0))), (.ireturn, .inl (0, 0, []))]
theorem sk_L_reported_13 : pp_chk mi_L_reported 17 13 (pp_cnt mi_L_reported 13) sg_L_reported_13 = true := by decide +kernel
def sg_L_reported_17 : pp_Seg := [(.iconst 0, .inr (.inr (.int 0, 0))), (.ireturn, .inl (0, 0, []))]
theorem sk_L_reported_17 : pp_chk mi_L_reported 19 17 (pp_cnt mi_L_reported 17) sg_L_reported_17 = true := by decide +kernel
def sg_L_account_0 : pp_Seg := [(.aload_n 2, .inl (0, 0, [])), (.iconst 0, .inr (.inr (.int 0, 0))), (.aload_n 0, .inl (0, 0, [])), (.iload_n 1, .inl (0, 0, [])), (.invokevirtual 57, .inr (.inl (mi_X8_account, 8, 986, [0, 0]))), (.lastore, .inl (0, 0, [])), (.goto 6, .inl (14, 0, []))]
theorem sk_L_account_0 : pp_chk mi_L_account 11 0 (pp_cnt mi_L_account 0) sg_L_account_0 = true := by decide +kernel
def sg_L_account_11 : pp_Seg := [(.astore_n 3, .inl (0, 0, [])), (.iconst 1, .inr (.inr (.int 1, 0))), (.ireturn, .inl (0, 0, []))]
theorem sk_L_account_11 : pp_chk mi_L_account 14 11 (pp_cnt mi_L_account 11) sg_L_account_11 = true := by decide +kernel
def sg_L_account_14 : pp_Seg := [(.iconst 0, .inr (.inr (.int 0, 0))), (.ireturn, .inl (0, 0, []))]
theorem sk_L_account_14 : pp_chk mi_L_account 16 14 (pp_cnt mi_L_account 14) sg_L_account_14 = true := by decide +kernel
def sg_L_latestShare_0 : pp_Seg := [(.aload_n 2, .inl (0, 0, [])), (.iconst 0, .inr (.inr (.int 0, 0))), (.aload_n 0, .inl (0, 0, [])), (.iload_n 1, .inl (0, 0, [])), (.invokevirtual 60, .inr (.inl (mi_X8_latestShare, 8, 993, [0, 0]))), (.lastore, .inl (0, 0, [])), (.goto 6, .inl (14, 0, []))]
theorem sk_L_latestShare_0 : pp_chk mi_L_latestShare 11 0 (pp_cnt mi_L_latestShare 0) sg_L_latestShare_0 = true := by decide +kernel
def sg_L_latestShare_11 : pp_Seg := [(.astore_n 3, .inl (0, 0, [])), (.iconst 1, .inr (.inr (.int 1, 0))), (.ireturn, .inl (0, 0, []))]
theorem sk_L_latestShare_11 : pp_chk mi_L_latestShare 14 11 (pp_cnt mi_L_latestShare 11) sg_L_latestShare_11 = true := by decide +kernel
def sg_L_latestShare_14 : pp_Seg := [(.iconst 0, .inr (.inr (.int 0, 0))), (.ireturn, .inl (0, 0, []))]
theorem sk_L_latestShare_14 : pp_chk mi_L_latestShare 16 14 (pp_cnt mi_L_latestShare 14) sg_L_latestShare_14 = true := by decide +kernel
def sg_L_total_0 : pp_Seg := [(.aload_n 2, .inl (0, 0, [])), (.iconst 0, .inr (.inr (.int 0, 0))), (.aload_n 0, .inl (0, 0, [])), (.iload_n 1, .inl (0, 0, [])), (.invokevirtual 63, .inr (.inl (mi_X8_total, 8, 1000, [0, 0]))), (.lastore, .inl (0, 0, [])), (.goto 6, .inl (14, 0, []))]
theorem sk_L_total_0 : pp_chk mi_L_total 11 0 (pp_cnt mi_L_total 0) sg_L_total_0 = true := by decide +kernel
def sg_L_total_11 : pp_Seg := [(.astore_n 3, .inl (0, 0, [])), (.iconst 1, .inr (.inr (.int 1, 0))), (.ireturn, .inl (0, 0, []))]
theorem sk_L_total_11 : pp_chk mi_L_total 14 11 (pp_cnt mi_L_total 11) sg_L_total_11 = true := by decide +kernel
def sg_L_total_14 : pp_Seg := [(.iconst 0, .inr (.inr (.int 0, 0))), (.ireturn, .inl (0, 0, []))]
theorem sk_L_total_14 : pp_chk mi_L_total 16 14 (pp_cnt mi_L_total 14) sg_L_total_14 = true := by decide +kernel
def sg_L_advance_0 : pp_Seg := [(.aload_n 2, .inl (0, 0, [])), (.iconst 0, .inr (.inr (.int 0, 0))), (.aload_n 0, .inl (0, 0, [])), (.iload_n 1, .inl (0, 0, [])), (.invokevirtual 66, .inr (.inl (mi_X8_advance, 8, 1008, [0, 0]))), (.i2l, .inl (0, 0, [])), (.lastore, .inl (0, 0, [])), (.goto 9, .inl (18, 0, []))]
theorem sk_L_advance_0 : pp_chk mi_L_advance 12 0 (pp_cnt mi_L_advance 0) sg_L_advance_0 = true := by decide +kernel
def sg_L_advance_12 : pp_Seg := [(.astore_n 3, .inl (0, 0, [])), (.iconst 1, .inr (.inr (.int 1, 0))), (.ireturn, .inl (0, 0, []))]
theorem sk_L_advance_12 : pp_chk mi_L_advance 15 12 (pp_cnt mi_L_advance 12) sg_L_advance_12 = true := by decide +kernel
def sg_L_advance_15 : pp_Seg := [(.astore_n 3, .inl (0, 0, [])), (.iconst 2, .inr (.inr (.int 2, 0))), (.ireturn, .inl (0, 0, []))]
theorem sk_L_advance_15 : pp_chk mi_L_advance 18 15 (pp_cnt mi_L_advance 15) sg_L_advance_15 = true := by decide +kernel
def sg_L_advance_18 : pp_Seg := [(.iconst 0, .inr (.inr (.int 0, 0))), (.ireturn, .inl (0, 0, []))]
theorem sk_L_advance_18 : pp_chk mi_L_advance 20 18 (pp_cnt mi_L_advance 18) sg_L_advance_18 = true := by decide +kernel
def sg_L_join_0 : pp_Seg := [(.aload_n 1, .inl (0, 0, [])), (.iconst 0, .inr (.inr (.int 0, 0))), (.aload_n 0, .inl (0, 0, [])), (.invokevirtual 71, .inr (.inl (mi_X8_join, 8, 1037, [0]))), (.i2l, .inl (0, 0, [])), (.lastore, .inl (0, 0, [])), (.goto 6, .inl (14, 0, []))]
theorem sk_L_join_0 : pp_chk mi_L_join 11 0 (pp_cnt mi_L_join 0) sg_L_join_0 = true := by decide +kernel
def sg_L_join_11 : pp_Seg := [(.astore_n 2, .inl (0, 0, [])), (.iconst 1, .inr (.inr (.int 1, 0))), (.ireturn, .inl (0, 0, []))]
theorem sk_L_join_11 : pp_chk mi_L_join 14 11 (pp_cnt mi_L_join 11) sg_L_join_11 = true := by decide +kernel
def sg_L_join_14 : pp_Seg := [(.iconst 0, .inr (.inr (.int 0, 0))), (.ireturn, .inl (0, 0, []))]
theorem sk_L_join_14 : pp_chk mi_L_join 16 14 (pp_cnt mi_L_join 14) sg_L_join_14 = true := by decide +kernel
def sg_L_declare_0 : pp_Seg := [(.aload_n 3, .inl (0, 0, [])), (.iconst 0, .inr (.inr (.int 0, 0))), (.aload_n 0, .inl (0, 0, [])), (.iload_n 1, .inl (0, 0, [])), (.iload_n 2, .inl (0, 0, [])), (.invokevirtual 75, .inr (.inl (mi_X8_declare, 8, 1046, [0, 0, 0]))), (.i2l, .inl (0, 0, [])), (.lastore, .inl (0, 0, [])), (.goto 15, .inl (25, 0, []))]
theorem sk_L_declare_0 : pp_chk mi_L_declare 13 0 (pp_cnt mi_L_declare 0) sg_L_declare_0 = true := by decide +kernel
def sg_L_declare_13 : pp_Seg := [(.astore 4, .inl (0, 0, [])), (.iconst 1, .inr (.inr (.int 1, 0))), (.ireturn, .inl (0, 0, []))]
theorem sk_L_declare_13 : pp_chk mi_L_declare 17 13 (pp_cnt mi_L_declare 13) sg_L_declare_13 = true := by decide +kernel
def sg_L_declare_17 : pp_Seg := [(.astore 4, .inl (0, 0, [])), (.iconst 2, .inr (.inr (.int 2, 0))), (.ireturn, .inl (0, 0, []))]
theorem sk_L_declare_17 : pp_chk mi_L_declare 21 17 (pp_cnt mi_L_declare 17) sg_L_declare_17 = true := by decide +kernel
def sg_L_declare_21 : pp_Seg := [(.astore 4, .inl (0, 0, [])), (.iconst 3, .inr (.inr (.int 3, 0))), (.ireturn, .inl (0, 0, []))]
theorem sk_L_declare_21 : pp_chk mi_L_declare 25 21 (pp_cnt mi_L_declare 21) sg_L_declare_21 = true := by decide +kernel
def sg_L_declare_25 : pp_Seg := [(.iconst 0, .inr (.inr (.int 0, 0))), (.ireturn, .inl (0, 0, []))]
theorem sk_L_declare_25 : pp_chk mi_L_declare 27 25 (pp_cnt mi_L_declare 25) sg_L_declare_25 = true := by decide +kernel
def sg_L_vote_0 : pp_Seg := [(.aload 5, .inl (0, 0, [])), (.iconst 0, .inr (.inr (.int 0, 0))), (.aload_n 0, .inl (0, 0, [])), (.iload_n 1, .inl (0, 0, [])), (.iload_n 2, .inl (0, 0, [])), (.iload_n 3, .inl (0, 0, [])), (.iload 4, .inl (0, 0, [])), (.invokevirtual 78, .inr (.inl (mi_X8_vote, 8, 1056, [0, 0, 0, 0, 0]))), (.i2l, .inl (0, 0, [])), (.lastore, .inl (0, 0, [])), (.goto 11, .inl (25, 0, []))]
theorem sk_L_vote_0 : pp_chk mi_L_vote 17 0 (pp_cnt mi_L_vote 0) sg_L_vote_0 = true := by decide +kernel
def sg_L_vote_17 : pp_Seg := [(.astore 6, .inl (0, 0, [])), (.iconst 1, .inr (.inr (.int 1, 0))), (.ireturn, .inl (0, 0, []))]
theorem sk_L_vote_17 : pp_chk mi_L_vote 21 17 (pp_cnt mi_L_vote 17) sg_L_vote_17 = true := by decide +kernel
def sg_L_vote_21 : pp_Seg := [(.astore 6, .inl (0, 0, [])), (.iconst 2, .inr (.inr (.int 2, 0))), (.ireturn, .inl (0, 0, []))]
theorem sk_L_vote_21 : pp_chk mi_L_vote 25 21 (pp_cnt mi_L_vote 21) sg_L_vote_21 = true := by decide +kernel
def sg_L_vote_25 : pp_Seg := [(.iconst 0, .inr (.inr (.int 0, 0))), (.ireturn, .inl (0, 0, []))]
theorem sk_L_vote_25 : pp_chk mi_L_vote 27 25 (pp_cnt mi_L_vote 25) sg_L_vote_25 = true := by decide +kernel
def sg_L_reopen_0 : pp_Seg := [(.aload_n 3, .inl (0, 0, [])), (.iconst 0, .inr (.inr (.int 0, 0))), (.aload_n 0, .inl (0, 0, [])), (.iload_n 1, .inl (0, 0, [])), (.iload_n 2, .inl (0, 0, [])), (.invokevirtual 82, .inr (.inl (mi_X8_reopen, 8, 1066, [0, 0, 0]))), (.i2l, .inl (0, 0, [])), (.lastore, .inl (0, 0, [])), (.goto 11, .inl (21, 0, []))]
theorem sk_L_reopen_0 : pp_chk mi_L_reopen 13 0 (pp_cnt mi_L_reopen 0) sg_L_reopen_0 = true := by decide +kernel
def sg_L_reopen_13 : pp_Seg := [(.astore 4, .inl (0, 0, [])), (.iconst 1, .inr (.inr (.int 1, 0))), (.ireturn, .inl (0, 0, []))]
theorem sk_L_reopen_13 : pp_chk mi_L_reopen 17 13 (pp_cnt mi_L_reopen 13) sg_L_reopen_13 = true := by decide +kernel
def sg_L_reopen_17 : pp_Seg := [(.astore 4, .inl (0, 0, [])), (.iconst 2, .inr (.inr (.int 2, 0))), (.ireturn, .inl (0, 0, []))]
theorem sk_L_reopen_17 : pp_chk mi_L_reopen 21 17 (pp_cnt mi_L_reopen 17) sg_L_reopen_17 = true := by decide +kernel
def sg_L_reopen_21 : pp_Seg := [(.iconst 0, .inr (.inr (.int 0, 0))), (.ireturn, .inl (0, 0, []))]
theorem sk_L_reopen_21 : pp_chk mi_L_reopen 23 21 (pp_cnt mi_L_reopen 21) sg_L_reopen_21 = true := by decide +kernel
def sg_L_report_0 : pp_Seg := [(.aload 4, .inl (0, 0, [])), (.iconst 0, .inr (.inr (.int 0, 0))), (.aload_n 0, .inl (0, 0, [])), (.iload_n 1, .inl (0, 0, [])), (.iload_n 2, .inl (0, 0, [])), (.iload_n 3, .inl (0, 0, [])), (.invokevirtual 85, .inr (.inl (mi_X8_report, 8, 1074, [0, 0, 0, 0]))), (.i2l, .inl (0, 0, [])), (.lastore, .inl (0, 0, [])), (.goto 15, .inl (27, 0, []))]
theorem sk_L_report_0 : pp_chk mi_L_report 15 0 (pp_cnt mi_L_report 0) sg_L_report_0 = true := by decide +kernel
def sg_L_report_15 : pp_Seg := [(.astore 5, .inl (0, 0, [])), (.iconst 1, .inr (.inr (.int 1, 0))), (.ireturn, .inl (0, 0, []))]
theorem sk_L_report_15 : pp_chk mi_L_report 19 15 (pp_cnt mi_L_report 15) sg_L_report_15 = true := by decide +kernel
def sg_L_report_19 : pp_Seg := [(.astore 5, .inl (0, 0, [])), (.iconst 2, .inr (.inr (.int 2, 0))), (.ireturn, .inl (0, 0, []))]
theorem sk_L_report_19 : pp_chk mi_L_report 23 19 (pp_cnt mi_L_report 19) sg_L_report_19 = true := by decide +kernel
def sg_L_report_23 : pp_Seg := [(.astore 5, .inl (0, 0, [])), (.iconst 3, .inr (.inr (.int 3, 0))), (.ireturn, .inl (0, 0, []))]
theorem sk_L_report_23 : pp_chk mi_L_report 27 23 (pp_cnt mi_L_report 23) sg_L_report_23 = true := by decide +kernel
def sg_L_report_27 : pp_Seg := [(.iconst 0, .inr (.inr (.int 0, 0))), (.ireturn, .inl (0, 0, []))]
theorem sk_L_report_27 : pp_chk mi_L_report 29 27 (pp_cnt mi_L_report 27) sg_L_report_27 = true := by decide +kernel
def sg_L_grantBack_0 : pp_Seg := [(.aload_n 2, .inl (0, 0, [])), (.iconst 0, .inr (.inr (.int 0, 0))), (.aload_n 0, .inl (0, 0, [])), (.iload_n 1, .inl (0, 0, [])), (.invokevirtual 89, .inr (.inl (mi_X8_grantBack, 8, 1088, [0, 0]))), (.i2l, .inl (0, 0, [])), (.lastore, .inl (0, 0, [])), (.goto 9, .inl (18, 0, []))]
theorem sk_L_grantBack_0 : pp_chk mi_L_grantBack 12 0 (pp_cnt mi_L_grantBack 0) sg_L_grantBack_0 = true := by decide +kernel
def sg_L_grantBack_12 : pp_Seg := [(.astore_n 3, .inl (0, 0, [])), (.iconst 1, .inr (.inr (.int 1, 0))), (.ireturn, .inl (0, 0, []))]
theorem sk_L_grantBack_12 : pp_chk mi_L_grantBack 15 12 (pp_cnt mi_L_grantBack 12) sg_L_grantBack_12 = true := by decide +kernel
def sg_L_grantBack_15 : pp_Seg := [(.astore_n 3, .inl (0, 0, [])), (.iconst 2, .inr (.inr (.int 2, 0))), (.ireturn, .inl (0, 0, []))]
theorem sk_L_grantBack_15 : pp_chk mi_L_grantBack 18 15 (pp_cnt mi_L_grantBack 15) sg_L_grantBack_15 = true := by decide +kernel
def sg_L_grantBack_18 : pp_Seg := [(.iconst 0, .inr (.inr (.int 0, 0))), (.ireturn, .inl (0, 0, []))]
theorem sk_L_grantBack_18 : pp_chk mi_L_grantBack 20 18 (pp_cnt mi_L_grantBack 18) sg_L_grantBack_18 = true := by decide +kernel
def sg_L_pay_0 : pp_Seg := [(.aload_n 3, .inl (0, 0, [])), (.iconst 0, .inr (.inr (.int 0, 0))), (.aload_n 0, .inl (0, 0, [])), (.iload_n 1, .inl (0, 0, [])), (.iload_n 2, .inl (0, 0, [])), (.invokevirtual 92, .inr (.inl (mi_X8_pay, 8, 1100, [0, 0, 0]))), (.lastore, .inl (0, 0, [])), (.goto 11, .inl (20, 0, []))]
theorem sk_L_pay_0 : pp_chk mi_L_pay 12 0 (pp_cnt mi_L_pay 0) sg_L_pay_0 = true := by decide +kernel
def sg_L_pay_12 : pp_Seg := [(.astore 4, .inl (0, 0, [])), (.iconst 1, .inr (.inr (.int 1, 0))), (.ireturn, .inl (0, 0, []))]
theorem sk_L_pay_12 : pp_chk mi_L_pay 16 12 (pp_cnt mi_L_pay 12) sg_L_pay_12 = true := by decide +kernel
def sg_L_pay_16 : pp_Seg := [(.astore 4, .inl (0, 0, [])), (.iconst 2, .inr (.inr (.int 2, 0))), (.ireturn, .inl (0, 0, []))]
theorem sk_L_pay_16 : pp_chk mi_L_pay 20 16 (pp_cnt mi_L_pay 16) sg_L_pay_16 = true := by decide +kernel
def sg_L_pay_20 : pp_Seg := [(.iconst 0, .inr (.inr (.int 0, 0))), (.ireturn, .inl (0, 0, []))]
theorem sk_L_pay_20 : pp_chk mi_L_pay 22 20 (pp_cnt mi_L_pay 20) sg_L_pay_20 = true := by decide +kernel
def sg_L_audit_0 : pp_Seg := [(.aload 4, .inl (0, 0, [])), (.iconst 0, .inr (.inr (.int 0, 0))), (.aload_n 0, .inl (0, 0, [])), (.iload_n 1, .inl (0, 0, [])), (.iload_n 2, .inl (0, 0, [])), (.iload_n 3, .inl (0, 0, [])), (.invokevirtual 96, .inr (.inl (mi_X8_audit, 8, 1107, [0, 0, 0, 0]))), (.lastore, .inl (0, 0, [])), (.goto 11, .inl (22, 0, []))]
theorem sk_L_audit_0 : pp_chk mi_L_audit 14 0 (pp_cnt mi_L_audit 0) sg_L_audit_0 = true := by decide +kernel
def sg_L_audit_14 : pp_Seg := [(.astore 5, .inl (0, 0, [])), (.iconst 1, .inr (.inr (.int 1, 0))), (.ireturn, .inl (0, 0, []))]
theorem sk_L_audit_14 : pp_chk mi_L_audit 18 14 (pp_cnt mi_L_audit 14) sg_L_audit_14 = true := by decide +kernel
def sg_L_audit_18 : pp_Seg := [(.astore 5, .inl (0, 0, [])), (.iconst 2, .inr (.inr (.int 2, 0))), (.ireturn, .inl (0, 0, []))]
theorem sk_L_audit_18 : pp_chk mi_L_audit 22 18 (pp_cnt mi_L_audit 18) sg_L_audit_18 = true := by decide +kernel
def sg_L_audit_22 : pp_Seg := [(.iconst 0, .inr (.inr (.int 0, 0))), (.ireturn, .inl (0, 0, []))]
theorem sk_L_audit_22 : pp_chk mi_L_audit 24 22 (pp_cnt mi_L_audit 22) sg_L_audit_22 = true := by decide +kernel
def sg_L_close_0 : pp_Seg := [(.aload_n 1, .inl (0, 0, [])), (.iconst 0, .inr (.inr (.int 0, 0))), (.aload_n 0, .inl (0, 0, [])), (.invokevirtual 100, .inr (.inl (mi_X8_close, 8, 1115, [0]))), (.lastore, .inl (0, 0, [])), (.goto 6, .inl (13, 0, []))]
theorem sk_L_close_0 : pp_chk mi_L_close 10 0 (pp_cnt mi_L_close 0) sg_L_close_0 = true := by decide +kernel
def sg_L_close_10 : pp_Seg := [(.astore_n 2, .inl (0, 0, [])), (.iconst 1, .inr (.inr (.int 1, 0))), (.ireturn, .inl (0, 0, []))]
theorem sk_L_close_10 : pp_chk mi_L_close 13 10 (pp_cnt mi_L_close 10) sg_L_close_10 = true := by decide +kernel
def sg_L_close_13 : pp_Seg := [(.iconst 0, .inr (.inr (.int 0, 0))), (.ireturn, .inl (0, 0, []))]
theorem sk_L_close_13 : pp_chk mi_L_close 15 13 (pp_cnt mi_L_close 13) sg_L_close_13 = true := by decide +kernel
def sg_L_payOut_0 : pp_Seg := [(.aload_n 2, .inl (0, 0, [])), (.iconst 0, .inr (.inr (.int 0, 0))), (.aload_n 0, .inl (0, 0, [])), (.iload_n 1, .inl (0, 0, [])), (.invokevirtual 104, .inr (.inl (mi_X8_payOut, 8, 1134, [0, 0]))), (.lastore, .inl (0, 0, [])), (.goto 9, .inl (17, 0, []))]
theorem sk_L_payOut_0 : pp_chk mi_L_payOut 11 0 (pp_cnt mi_L_payOut 0) sg_L_payOut_0 = true := by decide +kernel
def sg_L_payOut_11 : pp_Seg := [(.astore_n 3, .inl (0, 0, [])), (.iconst 1, .inr (.inr (.int 1, 0))), (.ireturn, .inl (0, 0, []))]
theorem sk_L_payOut_11 : pp_chk mi_L_payOut 14 11 (pp_cnt mi_L_payOut 11) sg_L_payOut_11 = true := by decide +kernel
def sg_L_payOut_14 : pp_Seg := [(.astore_n 3, .inl (0, 0, [])), (.iconst 2, .inr (.inr (.int 2, 0))), (.ireturn, .inl (0, 0, []))]
theorem sk_L_payOut_14 : pp_chk mi_L_payOut 17 14 (pp_cnt mi_L_payOut 14) sg_L_payOut_14 = true := by decide +kernel
def sg_L_payOut_17 : pp_Seg := [(.iconst 0, .inr (.inr (.int 0, 0))), (.ireturn, .inl (0, 0, []))]
theorem sk_L_payOut_17 : pp_chk mi_L_payOut 19 17 (pp_cnt mi_L_payOut 17) sg_L_payOut_17 = true := by decide +kernel
def sg_L_saveSnapshot_0 : pp_Seg := [(.aload_n 2, .inl (0, 0, [])), (.iconst 0, .inr (.inr (.int 0, 0))), (.aload_n 0, .inl (0, 0, [])), (.iload_n 1, .inl (0, 0, [])), (.invokevirtual 107, .inr (.inl (mi_X8_saveSnapshot, 8, 1142, [0, 0]))), (.ifCond .eq 7, .inl (14, 0, [])), (.lconst 1, .inr (.inr (.long 1, 0))), (.goto 4, .inl (15, 0, []))]
theorem sk_L_saveSnapshot_0 : pp_chk mi_L_saveSnapshot 14 0 (pp_cnt mi_L_saveSnapshot 0) sg_L_saveSnapshot_0 = true := by decide +kernel
def sg_L_saveSnapshot_14 : pp_Seg := [(.lconst 0, .inr (.inr (.long 0, 0)))]
theorem sk_L_saveSnapshot_14 : pp_chk mi_L_saveSnapshot 15 14 (pp_cnt mi_L_saveSnapshot 14) sg_L_saveSnapshot_14 = true := by decide +kernel
def sg_L_saveSnapshot_15 : pp_Seg := [(.lastore, .inl (0, 0, [])), (.goto 6, .inl (22, 0, []))]
theorem sk_L_saveSnapshot_15 : pp_chk mi_L_saveSnapshot 19 15 (pp_cnt mi_L_saveSnapshot 15) sg_L_saveSnapshot_15 = true := by decide +kernel
def sg_L_saveSnapshot_19 : pp_Seg := [(.astore_n 3, .inl (0, 0, [])), (.iconst 1, .inr (.inr (.int 1, 0))), (.ireturn, .inl (0, 0, []))]
theorem sk_L_saveSnapshot_19 : pp_chk mi_L_saveSnapshot 22 19 (pp_cnt mi_L_saveSnapshot 19) sg_L_saveSnapshot_19 = true := by decide +kernel
def sg_L_saveSnapshot_22 : pp_Seg := [(.iconst 0, .inr (.inr (.int 0, 0))), (.ireturn, .inl (0, 0, []))]
theorem sk_L_saveSnapshot_22 : pp_chk mi_L_saveSnapshot 24 22 (pp_cnt mi_L_saveSnapshot 22) sg_L_saveSnapshot_22 = true := by decide +kernel
def sg_L_restoreSnapshot_0 : pp_Seg := [(.aload_n 2, .inl (0, 0, [])), (.iconst 0, .inr (.inr (.int 0, 0))), (.aload_n 0, .inl (0, 0, [])), (.iload_n 1, .inl (0, 0, [])), (.invokevirtual 111, .inr (.inl (mi_X8_restoreSnapshot, 8, 1154, [0, 0]))), (.i2l, .inl (0, 0, [])), (.lastore, .inl (0, 0, [])), (.goto 9, .inl (18, 0, []))]
theorem sk_L_restoreSnapshot_0 : pp_chk mi_L_restoreSnapshot 12 0 (pp_cnt mi_L_restoreSnapshot 0) sg_L_restoreSnapshot_0 = true := by decide +kernel
def sg_L_restoreSnapshot_12 : pp_Seg := [(.astore_n 3, .inl (0, 0, [])), (.iconst 1, .inr (.inr (.int 1, 0))), (.ireturn, .inl (0, 0, []))]
theorem sk_L_restoreSnapshot_12 : pp_chk mi_L_restoreSnapshot 15 12 (pp_cnt mi_L_restoreSnapshot 12) sg_L_restoreSnapshot_12 = true := by decide +kernel
def sg_L_restoreSnapshot_15 : pp_Seg := [(.astore_n 3, .inl (0, 0, [])), (.iconst 2, .inr (.inr (.int 2, 0))), (.ireturn, .inl (0, 0, []))]
theorem sk_L_restoreSnapshot_15 : pp_chk mi_L_restoreSnapshot 18 15 (pp_cnt mi_L_restoreSnapshot 15) sg_L_restoreSnapshot_15 = true := by decide +kernel
def sg_L_restoreSnapshot_18 : pp_Seg := [(.iconst 0, .inr (.inr (.int 0, 0))), (.ireturn, .inl (0, 0, []))]
theorem sk_L_restoreSnapshot_18 : pp_chk mi_L_restoreSnapshot 20 18 (pp_cnt mi_L_restoreSnapshot 18) sg_L_restoreSnapshot_18 = true := by decide +kernel
end
section
/-! what the instructions ask, as equations -/
section Sx
variable (g : pp_G) (h : Nat) (ret : Option FieldType) (P : pp_R → pp_W → Prop) (Y : String → pp_W → Prop) (X : Nat → pp_St)
theorem sx_0 : (∀  (lk : pp_Lk) (L : List (Nat × Value)) (st : List Value) (w : pp_W) (K : pp_St), pp_sp g h ret P Y X (.aconst_null) (lk) L st w K = (K L (.null :: st) w)) := by
  intros
  rfl
theorem sx_1 : (∀ (n9 : Int) (v : Value) (z1 : Nat) (L : List (Nat × Value)) (st : List Value) (w : pp_W) (K : pp_St), pp_sp g h ret P Y X (.iconst n9) (.inr (.inr (v, z1))) L st w K = (K L (v :: st) w)) := by
  intros
  rfl
theorem sx_2 : (∀ (n9 : Int) (v : Value) (z1 : Nat) (L : List (Nat × Value)) (st : List Value) (w : pp_W) (K : pp_St), pp_sp g h ret P Y X (.bipush n9) (.inr (.inr (v, z1))) L st w K = (K L (v :: st) w)) := by
  intros
  rfl
theorem sx_3 : (∀ (n9 : Int) (v : Value) (z1 : Nat) (L : List (Nat × Value)) (st : List Value) (w : pp_W) (K : pp_St), pp_sp g h ret P Y X (.sipush n9) (.inr (.inr (v, z1))) L st w K = (K L (v :: st) w)) := by
  intros
  rfl
theorem sx_4 : (∀ (n9 : Fin 2) (v : Value) (z1 : Nat) (L : List (Nat × Value)) (st : List Value) (w : pp_W) (K : pp_St), pp_sp g h ret P Y X (.lconst n9) (.inr (.inr (v, z1))) L st w K = (K L (v :: st) w)) := by
  intros
  rfl
theorem sx_5 : (∀ (n9 : Nat) (v : Value) (z1 : Nat) (L : List (Nat × Value)) (st : List Value) (w : pp_W) (K : pp_St), pp_sp g h ret P Y X (.ldc n9) (.inr (.inr (v, z1))) L st w K = (K L (v :: st) w)) := by
  intros
  rfl
theorem sx_6 : (∀ (n9 : Nat) (v : Value) (z1 : Nat) (L : List (Nat × Value)) (st : List Value) (w : pp_W) (K : pp_St), pp_sp g h ret P Y X (.ldc_w n9) (.inr (.inr (v, z1))) L st w K = (K L (v :: st) w)) := by
  intros
  rfl
theorem sx_7 : (∀ (n9 : Nat) (v : Value) (z1 : Nat) (L : List (Nat × Value)) (st : List Value) (w : pp_W) (K : pp_St), pp_sp g h ret P Y X (.ldc2_w n9) (.inr (.inr (v, z1))) L st w K = (K L (v :: st) w)) := by
  intros
  rfl
theorem sx_8 : (∀ (k : Nat) (lk : pp_Lk) (L : List (Nat × Value)) (st : List Value) (w : pp_W) (K : pp_St), pp_sp g h ret P Y X (.iload k) (lk) L st w K = (pp_li L k (fun x => K L (.int x :: st) w))) := by
  intros
  rfl
theorem sx_9 : (∀ (k : Fin 4) (lk : pp_Lk) (L : List (Nat × Value)) (st : List Value) (w : pp_W) (K : pp_St), pp_sp g h ret P Y X (.iload_n k) (lk) L st w K = (pp_li L k.val (fun x => K L (.int x :: st) w))) := by
  intros
  rfl
theorem sx_10 : (∀ (k : Nat) (lk : pp_Lk) (L : List (Nat × Value)) (st : List Value) (w : pp_W) (K : pp_St), pp_sp g h ret P Y X (.lload k) (lk) L st w K = (pp_lj L k (fun x => K L (.long x :: st) w))) := by
  intros
  rfl
theorem sx_11 : (∀ (k : Fin 4) (lk : pp_Lk) (L : List (Nat × Value)) (st : List Value) (w : pp_W) (K : pp_St), pp_sp g h ret P Y X (.lload_n k) (lk) L st w K = (pp_lj L k.val (fun x => K L (.long x :: st) w))) := by
  intros
  rfl
theorem sx_12 : (∀ (k : Nat) (lk : pp_Lk) (L : List (Nat × Value)) (st : List Value) (w : pp_W) (K : pp_St), pp_sp g h ret P Y X (.aload k) (lk) L st w K = (pp_la L k (fun v => K L (v :: st) w))) := by
  intros
  rfl
theorem sx_13 : (∀ (k : Fin 4) (lk : pp_Lk) (L : List (Nat × Value)) (st : List Value) (w : pp_W) (K : pp_St), pp_sp g h ret P Y X (.aload_n k) (lk) L st w K = (pp_la L k.val (fun v => K L (v :: st) w))) := by
  intros
  rfl
theorem sx_14 : (∀ (k : Nat) (lk : pp_Lk) (L : List (Nat × Value)) (st : List Value) (w : pp_W) (K : pp_St), pp_sp g h ret P Y X (.istore k) (lk) L st w K = (pp_i st (fun x st => K (pp_put1 k (.int x) L) st w))) := by
  intros
  rfl
theorem sx_15 : (∀ (k : Fin 4) (lk : pp_Lk) (L : List (Nat × Value)) (st : List Value) (w : pp_W) (K : pp_St), pp_sp g h ret P Y X (.istore_n k) (lk) L st w K = (pp_i st (fun x st => K (pp_put1 k.val (.int x) L) st w))) := by
  intros
  rfl
theorem sx_16 : (∀ (k : Nat) (lk : pp_Lk) (L : List (Nat × Value)) (st : List Value) (w : pp_W) (K : pp_St), pp_sp g h ret P Y X (.lstore k) (lk) L st w K = (pp_j st (fun x st => K (pp_put2 k (.long x) L) st w))) := by
  intros
  rfl
theorem sx_17 : (∀ (k : Fin 4) (lk : pp_Lk) (L : List (Nat × Value)) (st : List Value) (w : pp_W) (K : pp_St), pp_sp g h ret P Y X (.lstore_n k) (lk) L st w K = (pp_j st (fun x st => K (pp_put2 k.val (.long x) L) st w))) := by
  intros
  rfl
theorem sx_18 : (∀ (k : Nat) (lk : pp_Lk) (L : List (Nat × Value)) (st : List Value) (w : pp_W) (K : pp_St), pp_sp g h ret P Y X (.astore k) (lk) L st w K = (pp_q st (fun x st => K (pp_put1 k (pp_rf x) L) st w))) := by
  intros
  rfl
theorem sx_19 : (∀ (k : Fin 4) (lk : pp_Lk) (L : List (Nat × Value)) (st : List Value) (w : pp_W) (K : pp_St), pp_sp g h ret P Y X (.astore_n k) (lk) L st w K = (pp_q st (fun x st => K (pp_put1 k.val (pp_rf x) L) st w))) := by
  intros
  rfl
theorem sx_20 : (∀ (k : Nat) (n9 : Int) (c : Int32) (z1 : Nat) (L : List (Nat × Value)) (st : List Value) (w : pp_W) (K : pp_St), pp_sp g h ret P Y X (.iinc k n9) (.inr (.inr (.int c, z1))) L st w K = (pp_li L k (fun x => K (pp_put1 k (.int (x + c)) L) st w))) := by
  intros
  rfl
theorem sx_21 : (∀  (lk : pp_Lk) (L : List (Nat × Value)) (st : List Value) (w : pp_W) (K : pp_St), pp_sp g h ret P Y X (.iadd) (lk) L st w K = (pp_i st (fun y st => pp_i st (fun x st => K L (.int (x + y) :: st) w)))) := by
  intros
  rfl
theorem sx_22 : (∀  (lk : pp_Lk) (L : List (Nat × Value)) (st : List Value) (w : pp_W) (K : pp_St), pp_sp g h ret P Y X (.isub) (lk) L st w K = (pp_i st (fun y st => pp_i st (fun x st => K L (.int (x - y) :: st) w)))) := by
  intros
  rfl
theorem sx_23 : (∀  (lk : pp_Lk) (L : List (Nat × Value)) (st : List Value) (w : pp_W) (K : pp_St), pp_sp g h ret P Y X (.imul) (lk) L st w K = (pp_i st (fun y st => pp_i st (fun x st => K L (.int (x * y) :: st) w)))) := by
  intros
  rfl
theorem sx_24 : (∀  (lk : pp_Lk) (L : List (Nat × Value)) (st : List Value) (w : pp_W) (K : pp_St), pp_sp g h ret P Y X (.iand) (lk) L st w K = (pp_i st (fun y st => pp_i st (fun x st => K L (.int (x &&& y) :: st) w)))) := by
  intros
  rfl
theorem sx_25 : (∀  (lk : pp_Lk) (L : List (Nat × Value)) (st : List Value) (w : pp_W) (K : pp_St), pp_sp g h ret P Y X (.ior) (lk) L st w K = (pp_i st (fun y st => pp_i st (fun x st => K L (.int (x ||| y) :: st) w)))) := by
  intros
  rfl
theorem sx_26 : (∀  (lk : pp_Lk) (L : List (Nat × Value)) (st : List Value) (w : pp_W) (K : pp_St), pp_sp g h ret P Y X (.ixor) (lk) L st w K = (pp_i st (fun y st => pp_i st (fun x st => K L (.int (x ^^^ y) :: st) w)))) := by
  intros
  rfl
theorem sx_27 : (∀  (lk : pp_Lk) (L : List (Nat × Value)) (st : List Value) (w : pp_W) (K : pp_St), pp_sp g h ret P Y X (.ishl) (lk) L st w K = (pp_i st (fun y st => pp_i st (fun x st => K L (.int (x <<< (y &&& 31)) :: st) w)))) := by
  intros
  rfl
theorem sx_28 : (∀  (lk : pp_Lk) (L : List (Nat × Value)) (st : List Value) (w : pp_W) (K : pp_St), pp_sp g h ret P Y X (.ishr) (lk) L st w K = (pp_i st (fun y st => pp_i st (fun x st => K L (.int (x >>> (y &&& 31)) :: st) w)))) := by
  intros
  rfl
theorem sx_29 : (∀  (lk : pp_Lk) (L : List (Nat × Value)) (st : List Value) (w : pp_W) (K : pp_St), pp_sp g h ret P Y X (.iushr) (lk) L st w K = (pp_i st (fun y st => pp_i st (fun x st => K L (.int (x.toUInt32 >>> (y.toUInt32 &&& Int32.toUInt32 31)).toInt32 :: st) w)))) := by
  intros
  rfl
theorem sx_30 : (∀  (lk : pp_Lk) (L : List (Nat × Value)) (st : List Value) (w : pp_W) (K : pp_St), pp_sp g h ret P Y X (.idiv) (lk) L st w K = (pp_i st (fun y st => pp_i st (fun x st => ¬ y = 0 ∧ K L (.int (x / y) :: st) w)))) := by
  intros
  rfl
theorem sx_31 : (∀  (lk : pp_Lk) (L : List (Nat × Value)) (st : List Value) (w : pp_W) (K : pp_St), pp_sp g h ret P Y X (.ladd) (lk) L st w K = (pp_j st (fun y st => pp_j st (fun x st => K L (.long (x + y) :: st) w)))) := by
  intros
  rfl
theorem sx_32 : (∀  (lk : pp_Lk) (L : List (Nat × Value)) (st : List Value) (w : pp_W) (K : pp_St), pp_sp g h ret P Y X (.lsub) (lk) L st w K = (pp_j st (fun y st => pp_j st (fun x st => K L (.long (x - y) :: st) w)))) := by
  intros
  rfl
theorem sx_33 : (∀  (lk : pp_Lk) (L : List (Nat × Value)) (st : List Value) (w : pp_W) (K : pp_St), pp_sp g h ret P Y X (.lmul) (lk) L st w K = (pp_j st (fun y st => pp_j st (fun x st => K L (.long (x * y) :: st) w)))) := by
  intros
  rfl
theorem sx_34 : (∀  (lk : pp_Lk) (L : List (Nat × Value)) (st : List Value) (w : pp_W) (K : pp_St), pp_sp g h ret P Y X (.land) (lk) L st w K = (pp_j st (fun y st => pp_j st (fun x st => K L (.long (x &&& y) :: st) w)))) := by
  intros
  rfl
theorem sx_35 : (∀  (lk : pp_Lk) (L : List (Nat × Value)) (st : List Value) (w : pp_W) (K : pp_St), pp_sp g h ret P Y X (.lor) (lk) L st w K = (pp_j st (fun y st => pp_j st (fun x st => K L (.long (x ||| y) :: st) w)))) := by
  intros
  rfl
theorem sx_36 : (∀  (lk : pp_Lk) (L : List (Nat × Value)) (st : List Value) (w : pp_W) (K : pp_St), pp_sp g h ret P Y X (.lxor) (lk) L st w K = (pp_j st (fun y st => pp_j st (fun x st => K L (.long (x ^^^ y) :: st) w)))) := by
  intros
  rfl
theorem sx_37 : (∀  (lk : pp_Lk) (L : List (Nat × Value)) (st : List Value) (w : pp_W) (K : pp_St), pp_sp g h ret P Y X (.ldiv) (lk) L st w K = (pp_j st (fun y st => pp_j st (fun x st => ¬ y = 0 ∧ K L (.long (x / y) :: st) w)))) := by
  intros
  rfl
theorem sx_38 : (∀  (lk : pp_Lk) (L : List (Nat × Value)) (st : List Value) (w : pp_W) (K : pp_St), pp_sp g h ret P Y X (.lrem) (lk) L st w K = (pp_j st (fun y st => pp_j st (fun x st => ¬ y = 0 ∧ K L (.long (x - x / y * y) :: st) w)))) := by
  intros
  rfl
theorem sx_39 : (∀  (lk : pp_Lk) (L : List (Nat × Value)) (st : List Value) (w : pp_W) (K : pp_St), pp_sp g h ret P Y X (.lcmp) (lk) L st w K = (pp_j st (fun y st => pp_j st (fun x st => K L (.int (lg_cmp x y) :: st) w)))) := by
  intros
  rfl
theorem sx_40 : (∀  (lk : pp_Lk) (L : List (Nat × Value)) (st : List Value) (w : pp_W) (K : pp_St), pp_sp g h ret P Y X (.lshl) (lk) L st w K = (pp_i st (fun y st => pp_j st (fun x st => K L (.long (x <<< (y.toInt64 &&& 63)) :: st) w)))) := by
  intros
  rfl
theorem sx_41 : (∀  (lk : pp_Lk) (L : List (Nat × Value)) (st : List Value) (w : pp_W) (K : pp_St), pp_sp g h ret P Y X (.i2l) (lk) L st w K = (pp_i st (fun x st => K L (.long x.toInt64 :: st) w))) := by
  intros
  rfl
theorem sx_42 : (∀  (lk : pp_Lk) (L : List (Nat × Value)) (st : List Value) (w : pp_W) (K : pp_St), pp_sp g h ret P Y X (.i2b) (lk) L st w K = (pp_i st (fun x st => K L (.int x.toInt8.toInt32 :: st) w))) := by
  intros
  rfl
theorem sx_43 : (∀  (lk : pp_Lk) (L : List (Nat × Value)) (st : List Value) (w : pp_W) (K : pp_St), pp_sp g h ret P Y X (.l2i) (lk) L st w K = (pp_j st (fun x st => K L (.int x.toInt32 :: st) w))) := by
  intros
  rfl
theorem sx_44 : (∀  (lk : pp_Lk) (L : List (Nat × Value)) (st : List Value) (w : pp_W) (K : pp_St), pp_sp g h ret P Y X (.dup) (lk) L st w K = (pp_1 st (fun v st => K L (v :: v :: st) w))) := by
  intros
  rfl
theorem sx_45 : (∀  (lk : pp_Lk) (L : List (Nat × Value)) (st : List Value) (w : pp_W) (K : pp_St), pp_sp g h ret P Y X (.pop) (lk) L st w K = (pp_1 st (fun _ st => K L st w))) := by
  intros
  rfl
theorem sx_46 : (∀  (lk : pp_Lk) (L : List (Nat × Value)) (st : List Value) (w : pp_W) (K : pp_St), pp_sp g h ret P Y X (.pop2) (lk) L st w K = (pp_2 st (fun _ st => K L st w))) := by
  intros
  rfl
theorem sx_47 : (∀  (lk : pp_Lk) (L : List (Nat × Value)) (st : List Value) (w : pp_W) (K : pp_St), pp_sp g h ret P Y X (.dup2) (lk) L st w K = (pp_1 st (fun v st => pp_1 st (fun u st => K L (v :: u :: v :: u :: st) w)))) := by
  intros
  rfl
theorem sx_48 : (∀ (c : ClassFile.Cond) (n9 : Int) (t : Nat) (z1 : Nat) (z2 : List Nat) (L : List (Nat × Value)) (st : List Value) (w : pp_W) (K : pp_St), pp_sp g h ret P Y X (.ifCond c n9) (.inl (t, z1, z2)) L st w K = (pp_i st (fun x st => (pp_cond c x 0 → X t L st w) ∧ (pp_ncond c x 0 → K L st w)))) := by
  intros
  rfl
theorem sx_49 : (∀ (c : ClassFile.Cond) (n9 : Int) (t : Nat) (z1 : Nat) (z2 : List Nat) (L : List (Nat × Value)) (st : List Value) (w : pp_W) (K : pp_St), pp_sp g h ret P Y X (.if_icmp c n9) (.inl (t, z1, z2)) L st w K = (pp_i st (fun y st => pp_i st (fun x st => (pp_cond c x y → X t L st w) ∧ (pp_ncond c x y → K L st w))))) := by
  intros
  rfl
theorem sx_50 : (∀ (n9 : Int) (t : Nat) (z1 : Nat) (z2 : List Nat) (L : List (Nat × Value)) (st : List Value) (w : pp_W) (K : pp_St), pp_sp g h ret P Y X (.goto n9) (.inl (t, z1, z2)) L st w K = (X t L st w)) := by
  intros
  rfl
theorem sx_51 : (∀ (n9 : Int) (t : Nat) (z1 : Nat) (z2 : List Nat) (L : List (Nat × Value)) (st : List Value) (w : pp_W) (K : pp_St), pp_sp g h ret P Y X (.ifnull n9) (.inl (t, z1, z2)) L st w K = (pp_q st (fun x st => match x with
      | none => X t L st w
      | some _ => K L st w))) := by
  intros
  rfl
theorem sx_52 : (∀ (n9 : Int) (t : Nat) (z1 : Nat) (z2 : List Nat) (L : List (Nat × Value)) (st : List Value) (w : pp_W) (K : pp_St), pp_sp g h ret P Y X (.ifnonnull n9) (.inl (t, z1, z2)) L st w K = (pp_q st (fun x st => match x with
      | none => K L st w
      | some _ => X t L st w))) := by
  intros
  rfl
theorem sx_53 : (∀ (n9 lo hi : Int) (offs : Array Int) (d : Nat) (z1 : Nat) (ts : List Nat) (L : List (Nat × Value)) (st : List Value) (w : pp_W) (K : pp_St), pp_sp g h ret P Y X (.tableswitch n9 lo hi offs) (.inl (d, z1, ts)) L st w K = (pp_i st (fun x st => pp_sw (fun t => X t L st w) x lo ts ∧ ((x.toInt < lo ∨ hi < x.toInt) → X d L st w)))) := by
  intros
  rfl
theorem sx_54 : (∀ (n9 : Nat) (ci : Nat) (k : Nat) (z2 : List Nat) (L : List (Nat × Value)) (st : List Value) (w : pp_W) (K : pp_St), pp_sp g h ret P Y X (.getfield n9) (.inl (ci, k, 0 :: z2)) L st w K = (pp_r st (fun a st => w.1[a]? = some (ci, 0) ∧ K L (.int (w.2.1 a k) :: st) w))) := by
  intros
  rfl
theorem sx_55 : (∀ (n9 : Nat) (ci : Nat) (k : Nat) (z2 : List Nat) (L : List (Nat × Value)) (st : List Value) (w : pp_W) (K : pp_St), pp_sp g h ret P Y X (.getfield n9) (.inl (ci, k, 1 :: z2)) L st w K = (pp_r st (fun a st => w.1[a]? = some (ci, 0) ∧ K L (.long (w.2.2.1 a k) :: st) w))) := by
  intros
  rfl
theorem sx_56 : (∀ (n9 : Nat) (ci : Nat) (k : Nat) (z2 : List Nat) (L : List (Nat × Value)) (st : List Value) (w : pp_W) (K : pp_St), pp_sp g h ret P Y X (.getfield n9) (.inl (ci, k, 2 :: z2)) L st w K = (pp_r st (fun a st => w.1[a]? = some (ci, 0) ∧ K L (pp_rf (w.2.2.2 a k) :: st) w))) := by
  intros
  rfl
theorem sx_57 : (∀ (n9 : Nat) (z0 : Nat) (z1 : Nat) (z2 : List Nat) (L : List (Nat × Value)) (st : List Value) (w : pp_W) (K : pp_St), pp_sp g h ret P Y X (.getfield n9) (.inl (z0, z1, 3 :: z2)) L st w K = (pp_r st (fun a st => (1 ≤ a ∧ a ≤ 15) ∧ K L (.ref (a + 15) :: st) w))) := by
  intros
  rfl
theorem sx_58 : (∀ (n9 : Nat) (z0 : Nat) (z1 : Nat) (z2 : List Nat) (L : List (Nat × Value)) (st : List Value) (w : pp_W) (K : pp_St), pp_sp g h ret P Y X (.getfield n9) (.inl (z0, z1, 4 :: z2)) L st w K = (pp_r st (fun a st => (1 ≤ a ∧ a ≤ 15) ∧ K L (.int 0 :: st) w))) := by
  intros
  rfl
theorem sx_59 : (∀ (n9 : Nat) (z1 : Nat) (z2 : List Nat) (L : List (Nat × Value)) (st : List Value) (w : pp_W) (K : pp_St), pp_sp g h ret P Y X (.getstatic n9) (.inl (0, z1, z2)) L st w K = (K L (.int 1 :: st) w)) := by
  intros
  rfl
theorem sx_60 : (∀ (n9 : Nat) (z1 : Nat) (z2 : List Nat) (L : List (Nat × Value)) (st : List Value) (w : pp_W) (K : pp_St), pp_sp g h ret P Y X (.getstatic n9) (.inl (1, z1, z2)) L st w K = (K L (.null :: st) w ∧ K L (.ref 31 :: st) w)) := by
  intros
  rfl
theorem sx_61 : (∀  (lk : pp_Lk) (L : List (Nat × Value)) (st : List Value) (w : pp_W) (K : pp_St), pp_sp g h ret P Y X (.i2c) (lk) L st w K = (pp_i st (fun x st => K L (.int (x.toUInt32 % 65536).toInt32 :: st) w))) := by
  intros
  rfl
theorem sx_62 : (∀ (n9 : Nat) (ci : Nat) (k : Nat) (z2 : List Nat) (L : List (Nat × Value)) (st : List Value) (w : pp_W) (K : pp_St), pp_sp g h ret P Y X (.putfield n9) (.inl (ci, k, 0 :: z2)) L st w K = (pp_i st (fun x st => pp_r st (fun a st => w.1[a]? = some (ci, 0) ∧ K L st (w.1, pp_s w.2.1 a (va_up (w.2.1 a) k x), w.2.2))))) := by
  intros
  rfl
theorem sx_63 : (∀ (n9 : Nat) (ci : Nat) (k : Nat) (z2 : List Nat) (L : List (Nat × Value)) (st : List Value) (w : pp_W) (K : pp_St), pp_sp g h ret P Y X (.putfield n9) (.inl (ci, k, 1 :: z2)) L st w K = (pp_j st (fun x st => pp_r st (fun a st => w.1[a]? = some (ci, 0) ∧ K L st (w.1, w.2.1, pp_s w.2.2.1 a (va_up (w.2.2.1 a) k x), w.2.2.2))))) := by
  intros
  rfl
theorem sx_64 : (∀ (n9 : Nat) (ci : Nat) (k : Nat) (z2 : List Nat) (L : List (Nat × Value)) (st : List Value) (w : pp_W) (K : pp_St), pp_sp g h ret P Y X (.putfield n9) (.inl (ci, k, 2 :: z2)) L st w K = (pp_q st (fun x st => pp_r st (fun a st => w.1[a]? = some (ci, 0) ∧ K L st (w.1, w.2.1, w.2.2.1, pp_s w.2.2.2 a (va_up (w.2.2.2 a) k x)))))) := by
  intros
  rfl
theorem sx_65 : (∀  (z1 : Nat) (z2 : List Nat) (L : List (Nat × Value)) (st : List Value) (w : pp_W) (K : pp_St), pp_sp g h ret P Y X (.arraylength) (.inl (0, z1, z2)) L st w K = (pp_r st (fun a st => pp_al w a (fun n => K L (.int (Int32.ofNat n) :: st) w)))) := by
  intros
  rfl
theorem sx_66 : (∀  (z1 : Nat) (z2 : List Nat) (L : List (Nat × Value)) (st : List Value) (w : pp_W) (K : pp_St), pp_sp g h ret P Y X (.arraylength) (.inl (1, z1, z2)) L st w K = (pp_r st (fun a st => a = 0 ∧ K L (.int (Int32.ofNat (pp_sL g)) :: st) w))) := by
  intros
  rfl
theorem sx_67 : (∀  (z1 : Nat) (z2 : List Nat) (L : List (Nat × Value)) (st : List Value) (w : pp_W) (K : pp_St), pp_sp g h ret P Y X (.arraylength) (.inl (2, z1, z2)) L st w K = (pp_r st (fun a st => (16 ≤ a ∧ a ≤ 30) ∧ K L (.int (Int32.ofNat (pp_txt.getD (a - 16) []).length) :: st) w))) := by
  intros
  rfl
theorem sx_68 : (∀  (z1 : Nat) (z2 : List Nat) (L : List (Nat × Value)) (st : List Value) (w : pp_W) (K : pp_St), pp_sp g h ret P Y X (.iaload) (.inl (0, z1, z2)) L st w K = (pp_i st (fun j st => pp_r st (fun a st => pp_in w a 10 j (K L (.int (w.2.1 a j.toNatClampNeg) :: st) w))))) := by
  intros
  rfl
theorem sx_69 : (∀  (z1 : Nat) (z2 : List Nat) (L : List (Nat × Value)) (st : List Value) (w : pp_W) (K : pp_St), pp_sp g h ret P Y X (.iaload) (.inl (1, z1, z2)) L st w K = (pp_i st (fun j st => pp_r st (fun a st => a = 0 ∧ vp_in j (pp_sL g) ∧ K L (.int (pp_sx g j.toNatClampNeg) :: st) w)))) := by
  intros
  rfl
theorem sx_70 : (∀  (z1 : Nat) (z2 : List Nat) (L : List (Nat × Value)) (st : List Value) (w : pp_W) (K : pp_St), pp_sp g h ret P Y X (.baload) (.inl (0, z1, z2)) L st w K = (pp_i st (fun j st => pp_r st (fun a st => pp_in w a 11 j (K L (.int (w.2.1 a j.toNatClampNeg) :: st) w))))) := by
  intros
  rfl
theorem sx_71 : (∀  (z1 : Nat) (z2 : List Nat) (L : List (Nat × Value)) (st : List Value) (w : pp_W) (K : pp_St), pp_sp g h ret P Y X (.baload) (.inl (1, z1, z2)) L st w K = (pp_i st (fun j st => pp_r st (fun a st => pp_in w a 12 j (K L (.int (w.2.1 a j.toNatClampNeg) :: st) w))))) := by
  intros
  rfl
theorem sx_72 : (∀  (z1 : Nat) (z2 : List Nat) (L : List (Nat × Value)) (st : List Value) (w : pp_W) (K : pp_St), pp_sp g h ret P Y X (.baload) (.inl (2, z1, z2)) L st w K = (pp_i st (fun j st => pp_r st (fun a st => (16 ≤ a ∧ a ≤ 30) ∧ vp_in j (pp_txt.getD (a - 16) []).length ∧ K L (.int ((pp_txt.getD (a - 16) []).getD j.toNatClampNeg 0) :: st) w)))) := by
  intros
  rfl
theorem sx_73 : (∀  (lk : pp_Lk) (L : List (Nat × Value)) (st : List Value) (w : pp_W) (K : pp_St), pp_sp g h ret P Y X (.laload) (lk) L st w K = (pp_i st (fun j st => pp_r st (fun a st => pp_in w a 13 j (K L (.long (w.2.2.1 a j.toNatClampNeg) :: st) w))))) := by
  intros
  rfl
theorem sx_74 : (∀  (lk : pp_Lk) (L : List (Nat × Value)) (st : List Value) (w : pp_W) (K : pp_St), pp_sp g h ret P Y X (.aaload) (lk) L st w K = (pp_i st (fun j st => pp_r st (fun a st => pp_in w a 14 j (K L (pp_rf (w.2.2.2 a j.toNatClampNeg) :: st) w))))) := by
  intros
  rfl
theorem sx_75 : (∀  (lk : pp_Lk) (L : List (Nat × Value)) (st : List Value) (w : pp_W) (K : pp_St), pp_sp g h ret P Y X (.iastore) (lk) L st w K = (pp_i st (fun x st => pp_i st (fun j st => pp_r st (fun a st => pp_in w a 10 j (K L st (w.1, pp_s w.2.1 a (va_up (w.2.1 a) j.toNatClampNeg x), w.2.2))))))) := by
  intros
  rfl
theorem sx_76 : (∀  (z1 : Nat) (z2 : List Nat) (L : List (Nat × Value)) (st : List Value) (w : pp_W) (K : pp_St), pp_sp g h ret P Y X (.bastore) (.inl (0, z1, z2)) L st w K = (pp_i st (fun x st => pp_i st (fun j st => pp_r st (fun a st => pp_in w a 11 j (K L st (w.1, pp_s w.2.1 a (va_up (w.2.1 a) j.toNatClampNeg x.toInt8.toInt32), w.2.2))))))) := by
  intros
  rfl
theorem sx_77 : (∀  (z1 : Nat) (z2 : List Nat) (L : List (Nat × Value)) (st : List Value) (w : pp_W) (K : pp_St), pp_sp g h ret P Y X (.bastore) (.inl (1, z1, z2)) L st w K = (pp_i st (fun x st => pp_i st (fun j st => pp_r st (fun a st => pp_in w a 12 j ((x = 0 ∨ x = 1) ∧ K L st (w.1, pp_s w.2.1 a (va_up (w.2.1 a) j.toNatClampNeg x), w.2.2))))))) := by
  intros
  rfl
theorem sx_78 : (∀  (lk : pp_Lk) (L : List (Nat × Value)) (st : List Value) (w : pp_W) (K : pp_St), pp_sp g h ret P Y X (.lastore) (lk) L st w K = (pp_j st (fun x st => pp_i st (fun j st => pp_r st (fun a st => pp_in w a 13 j (K L st (w.1, w.2.1, pp_s w.2.2.1 a (va_up (w.2.2.1 a) j.toNatClampNeg x), w.2.2.2))))))) := by
  intros
  rfl
theorem sx_79 : (∀  (lk : pp_Lk) (L : List (Nat × Value)) (st : List Value) (w : pp_W) (K : pp_St), pp_sp g h ret P Y X (.aastore) (lk) L st w K = (pp_q st (fun x st => pp_i st (fun j st => pp_r st (fun a st => pp_in w a 14 j ((∀ b, x = some b → w.1[b]? = some (4, 0)) ∧ K L st (w.1, w.2.1, w.2.2.1, pp_s w.2.2.2 a (va_up (w.2.2.2 a) j.toNatClampNeg x)))))))) := by
  intros
  rfl
theorem sx_80 : (∀ (n9 : Nat) (ci : Nat) (z1 : Nat) (z2 : List Nat) (L : List (Nat × Value)) (st : List Value) (w : pp_W) (K : pp_St), pp_sp g h ret P Y X (.new n9) (.inl (ci, z1, z2)) L st w K = (K L (.ref w.1.length :: st) (pp_nw w (ci, 0)))) := by
  intros
  rfl
theorem sx_81 : (∀ (n9 : ArrayType) (t : Nat) (n : Nat) (z2 : List Nat) (L : List (Nat × Value)) (st : List Value) (w : pp_W) (K : pp_St), pp_sp g h ret P Y X (.newarray n9) (.inl (t, n, z2)) L st w K = (pp_i st (fun x st => x = Int32.ofNat n ∧ K L (.ref w.1.length :: st) (pp_nw w (t, n))))) := by
  intros
  rfl
theorem sx_82 : (∀ (n9 : Nat) (z0 : Nat) (n : Nat) (z2 : List Nat) (L : List (Nat × Value)) (st : List Value) (w : pp_W) (K : pp_St), pp_sp g h ret P Y X (.anewarray n9) (.inl (z0, n, z2)) L st w K = (pp_i st (fun x st => x = Int32.ofNat n ∧ K L (.ref w.1.length :: st) (pp_nw w (14, n))))) := by
  intros
  rfl
theorem sx_83 : (∀ (n9 : Nat) (q0 : Nat × Nat × List Nat) (L : List (Nat × Value)) (st : List Value) (w : pp_W) (K : pp_St), pp_sp g h ret P Y X (.invokespecial n9) (.inl q0) L st w K = (pp_r st (fun _ st => st.length ≤ 4 ∧ K L st w))) := by
  intros
  rfl
theorem sx_84 : (∀ (n9 : Nat) (mj : pp_MI) (ci z2 : Nat) (l : List Nat) (L : List (Nat × Value)) (st : List Value) (w : pp_W) (K : pp_St), pp_sp g h ret P Y X (.invokespecial n9) (.inr (.inl (mj, ci, z2, l))) L st w K = (pp_args l [] st (fun av st => st.length ≤ 4 ∧ pp_r av (fun _ _ => True) ∧ pp_MW g h mj av w (pp_kr K Y L st)))) := by
  intros
  rfl
theorem sx_85 : (∀ (n9 : Nat) (mj : pp_MI) (ci z2 : Nat) (l : List Nat) (L : List (Nat × Value)) (st : List Value) (w : pp_W) (K : pp_St), pp_sp g h ret P Y X (.invokevirtual n9) (.inr (.inl (mj, ci, z2, 0 :: l))) L st w K = (pp_args (0 :: l) [] st (fun av st => st.length ≤ 4 ∧ pp_r av (fun b _ => w.1[b]? = some (ci, 0)) ∧ pp_MW g h mj av w (pp_kr K Y L st)))) := by
  intros
  rfl
theorem sx_86 : (∀ (n9 : Nat) (mj : pp_MI) (ci z2 : Nat) (l : List Nat) (L : List (Nat × Value)) (st : List Value) (w : pp_W) (K : pp_St), pp_sp g h ret P Y X (.invokevirtual n9) (.inr (.inl (mj, ci, z2, 1 :: l))) L st w K = (pp_args (1 :: l) [] st (fun av st => st.length ≤ 4 ∧ pp_r av (fun b _ => 1 ≤ b ∧ b ≤ 15) ∧ pp_MW g h mj av w (pp_kr K Y L st)))) := by
  intros
  rfl
theorem sx_87 : (∀ (n9 : Nat) (z1 : Nat) (z2 : List Nat) (L : List (Nat × Value)) (st : List Value) (w : pp_W) (K : pp_St), pp_sp g h ret P Y X (.invokestatic n9) (.inl (0, z1, z2)) L st w K = (pp_i st (fun n st => pp_i st (fun dp st => pp_r st (fun b st => pp_i st (fun sp st => pp_r st (fun a st => st.length ≤ 4 ∧ ¬ sp < 0 ∧ ¬ dp < 0 ∧ ¬ n < 0 ∧ pp_al w a (fun n0 => sp.toNatClampNeg + n.toNatClampNeg ≤ n0) ∧ pp_al w b (fun n1 => dp.toNatClampNeg + n.toNatClampNeg ≤ n1) ∧
        w.1[a]?.map Prod.fst = some 10 ∧ w.1[b]?.map Prod.fst = some 10 ∧ K L st (w.1, pp_s w.2.1 b (va_cpy (w.2.1 a) (w.2.1 b) sp.toNatClampNeg dp.toNatClampNeg n.toNatClampNeg), w.2.2)))))))) := by
  intros
  rfl
theorem sx_88 : (∀ (n9 : Nat) (z1 : Nat) (z2 : List Nat) (L : List (Nat × Value)) (st : List Value) (w : pp_W) (K : pp_St), pp_sp g h ret P Y X (.invokestatic n9) (.inl (1, z1, z2)) L st w K = (pp_i st (fun n st => pp_i st (fun dp st => pp_r st (fun b st => pp_i st (fun sp st => pp_r st (fun a st => st.length ≤ 4 ∧ ¬ sp < 0 ∧ ¬ dp < 0 ∧ ¬ n < 0 ∧ pp_al w a (fun n0 => sp.toNatClampNeg + n.toNatClampNeg ≤ n0) ∧ pp_al w b (fun n1 => dp.toNatClampNeg + n.toNatClampNeg ≤ n1) ∧
        w.1[a]?.map Prod.fst = some 13 ∧ w.1[b]?.map Prod.fst = some 13 ∧ K L st (w.1, w.2.1, pp_s w.2.2.1 b (va_cpy (w.2.2.1 a) (w.2.2.1 b) sp.toNatClampNeg dp.toNatClampNeg n.toNatClampNeg), w.2.2.2)))))))) := by
  intros
  rfl
theorem sx_89 : (∀ (n9 : Nat) (z1 : Nat) (z2 : List Nat) (L : List (Nat × Value)) (st : List Value) (w : pp_W) (K : pp_St), pp_sp g h ret P Y X (.invokestatic n9) (.inl (2, z1, z2)) L st w K = (pp_i st (fun y st => pp_i st (fun x st => st.length ≤ 4 ∧ K L (.int (if y < x then y else x) :: st) w)))) := by
  intros
  rfl
theorem sx_90 : (∀ (n9 : Nat) (z1 : Nat) (z2 : List Nat) (L : List (Nat × Value)) (st : List Value) (w : pp_W) (K : pp_St), pp_sp g h ret P Y X (.invokestatic n9) (.inl (3, z1, z2)) L st w K = (pp_i st (fun y st => pp_i st (fun x st => st.length ≤ 4 ∧ K L (.int (if x < y then y else x) :: st) w)))) := by
  intros
  rfl
theorem sx_91 : (∀ (n9 : Nat) (z1 : Nat) (z2 : List Nat) (L : List (Nat × Value)) (st : List Value) (w : pp_W) (K : pp_St), pp_sp g h ret P Y X (.invokestatic n9) (.inl (4, z1, z2)) L st w K = (pp_j st (fun y st => pp_j st (fun x st => st.length ≤ 4 ∧ K L (.long (if y < x then y else x) :: st) w)))) := by
  intros
  rfl
theorem sx_92 : (∀ (n9 : Nat) (mj : pp_MI) (ci z2 : Nat) (l : List Nat) (L : List (Nat × Value)) (st : List Value) (w : pp_W) (K : pp_St), pp_sp g h ret P Y X (.invokestatic n9) (.inr (.inl (mj, ci, z2, l))) L st w K = (pp_args l [] st (fun av st => st.length ≤ 4 ∧ pp_MW g h mj av w (pp_kr K Y L st)))) := by
  intros
  rfl
theorem sx_93 : (∀  (lk : pp_Lk) (x : Int32) (L : List (Nat × Value)) (w : pp_W) (K : pp_St), pp_sp g h ret P Y X (.ireturn) (lk) L [.int x] w K = (pp_rok ret x ∧ P (.inl (some (.int x))) w)) := by
  intros
  rfl
theorem sx_94 : (∀  (lk : pp_Lk) (x : Int64) (L : List (Nat × Value)) (w : pp_W) (K : pp_St), pp_sp g h ret P Y X (.lreturn) (lk) L [.long x] w K = (P (.inl (some (.long x))) w)) := by
  intros
  rfl
theorem sx_95 : (∀  (lk : pp_Lk) (L : List (Nat × Value)) (w : pp_W) (K : pp_St), pp_sp g h ret P Y X (.return_) (lk) L [] w K = (P (.inl none) w)) := by
  intros
  rfl
theorem sx_96 : (∀  (e : Nat) (z1 : Nat) (z2 : List Nat) (L : List (Nat × Value)) (st : List Value) (w : pp_W) (K : pp_St), pp_sp g h ret P Y X (.athrow) (.inl (e, z1, z2)) L st w K = (st.length ≤ 4 ∧ ∀ k : Nat, P (.inr ((pp_exs.getD e ("", 0, 0)).1)) (w.1 ++ List.replicate k (15, 0), w.2))) := by
  intros
  rfl
theorem sx : ((∀  (lk : pp_Lk) (L : List (Nat × Value)) (st : List Value) (w : pp_W) (K : pp_St), pp_sp g h ret P Y X (.aconst_null) (lk) L st w K = (K L (.null :: st) w))) ∧ ((∀ (n9 : Int) (v : Value) (z1 : Nat) (L : List (Nat × Value)) (st : List Value) (w : pp_W) (K : pp_St), pp_sp g h ret P Y X (.iconst n9) (.inr (.inr (v, z1))) L st w K = (K L (v :: st) w))) ∧ ((∀ (n9 : Int) (v : Value) (z1 : Nat) (L : List (Nat × Value)) (st : List Value) (w : pp_W) (K : pp_St), pp_sp g h ret P Y X (.bipush n9) (.inr (.inr (v, z1))) L st w K = (K L (v :: st) w))) ∧ ((∀ (n9 : Int) (v : Value) (z1 : Nat) (L : List (Nat × Value)) (st : List Value) (w : pp_W) (K : pp_St), pp_sp g h ret P Y X (.sipush n9) (.inr (.inr (v, z1))) L st w K = (K L (v :: st) w))) ∧ ((∀ (n9 : Fin 2) (v : Value) (z1 : Nat) (L : List (Nat × Value)) (st : List Value) (w : pp_W) (K : pp_St), pp_sp g h ret P Y X (.lconst n9) (.inr (.inr (v, z1))) L st w K = (K L (v :: st) w))) ∧ ((∀ (n9 : Nat) (v : Value) (z1 : Nat) (L : List (Nat × Value)) (st : List Value) (w : pp_W) (K : pp_St), pp_sp g h ret P Y X (.ldc n9) (.inr (.inr (v, z1))) L st w K = (K L (v :: st) w))) ∧ ((∀ (n9 : Nat) (v : Value) (z1 : Nat) (L : List (Nat × Value)) (st : List Value) (w : pp_W) (K : pp_St), pp_sp g h ret P Y X (.ldc_w n9) (.inr (.inr (v, z1))) L st w K = (K L (v :: st) w))) ∧ ((∀ (n9 : Nat) (v : Value) (z1 : Nat) (L : List (Nat × Value)) (st : List Value) (w : pp_W) (K : pp_St), pp_sp g h ret P Y X (.ldc2_w n9) (.inr (.inr (v, z1))) L st w K = (K L (v :: st) w))) ∧ ((∀ (k : Nat) (lk : pp_Lk) (L : List (Nat × Value)) (st : List Value) (w : pp_W) (K : pp_St), pp_sp g h ret P Y X (.iload k) (lk) L st w K = (pp_li L k (fun x => K L (.int x :: st) w)))) ∧ ((∀ (k : Fin 4) (lk : pp_Lk) (L : List (Nat × Value)) (st : List Value) (w : pp_W) (K : pp_St), pp_sp g h ret P Y X (.iload_n k) (lk) L st w K = (pp_li L k.val (fun x => K L (.int x :: st) w)))) ∧ ((∀ (k : Nat) (lk : pp_Lk) (L : List (Nat × Value)) (st : List Value) (w : pp_W) (K : pp_St), pp_sp g h ret P Y X (.lload k) (lk) L st w K = (pp_lj L k (fun x => K L (.long x :: st) w)))) ∧ ((∀ (k : Fin 4) (lk : pp_Lk) (L : List (Nat × Value)) (st : List Value) (w : pp_W) (K : pp_St), pp_sp g h ret P Y X (.lload_n k) (lk) L st w K = (pp_lj L k.val (fun x => K L (.long x :: st) w)))) ∧ ((∀ (k : Nat) (lk : pp_Lk) (L : List (Nat × Value)) (st : List Value) (w : pp_W) (K : pp_St), pp_sp g h ret P Y X (.aload k) (lk) L st w K = (pp_la L k (fun v => K L (v :: st) w)))) ∧ ((∀ (k : Fin 4) (lk : pp_Lk) (L : List (Nat × Value)) (st : List Value) (w : pp_W) (K : pp_St), pp_sp g h ret P Y X (.aload_n k) (lk) L st w K = (pp_la L k.val (fun v => K L (v :: st) w)))) ∧ ((∀ (k : Nat) (lk : pp_Lk) (L : List (Nat × Value)) (st : List Value) (w : pp_W) (K : pp_St), pp_sp g h ret P Y X (.istore k) (lk) L st w K = (pp_i st (fun x st => K (pp_put1 k (.int x) L) st w)))) ∧ ((∀ (k : Fin 4) (lk : pp_Lk) (L : List (Nat × Value)) (st : List Value) (w : pp_W) (K : pp_St), pp_sp g h ret P Y X (.istore_n k) (lk) L st w K = (pp_i st (fun x st => K (pp_put1 k.val (.int x) L) st w)))) ∧ ((∀ (k : Nat) (lk : pp_Lk) (L : List (Nat × Value)) (st : List Value) (w : pp_W) (K : pp_St), pp_sp g h ret P Y X (.lstore k) (lk) L st w K = (pp_j st (fun x st => K (pp_put2 k (.long x) L) st w)))) ∧ ((∀ (k : Fin 4) (lk : pp_Lk) (L : List (Nat × Value)) (st : List Value) (w : pp_W) (K : pp_St), pp_sp g h ret P Y X (.lstore_n k) (lk) L st w K = (pp_j st (fun x st => K (pp_put2 k.val (.long x) L) st w)))) ∧ ((∀ (k : Nat) (lk : pp_Lk) (L : List (Nat × Value)) (st : List Value) (w : pp_W) (K : pp_St), pp_sp g h ret P Y X (.astore k) (lk) L st w K = (pp_q st (fun x st => K (pp_put1 k (pp_rf x) L) st w)))) ∧ ((∀ (k : Fin 4) (lk : pp_Lk) (L : List (Nat × Value)) (st : List Value) (w : pp_W) (K : pp_St), pp_sp g h ret P Y X (.astore_n k) (lk) L st w K = (pp_q st (fun x st => K (pp_put1 k.val (pp_rf x) L) st w)))) ∧ ((∀ (k : Nat) (n9 : Int) (c : Int32) (z1 : Nat) (L : List (Nat × Value)) (st : List Value) (w : pp_W) (K : pp_St), pp_sp g h ret P Y X (.iinc k n9) (.inr (.inr (.int c, z1))) L st w K = (pp_li L k (fun x => K (pp_put1 k (.int (x + c)) L) st w)))) ∧ ((∀  (lk : pp_Lk) (L : List (Nat × Value)) (st : List Value) (w : pp_W) (K : pp_St), pp_sp g h ret P Y X (.iadd) (lk) L st w K = (pp_i st (fun y st => pp_i st (fun x st => K L (.int (x + y) :: st) w))))) ∧ ((∀  (lk : pp_Lk) (L : List (Nat × Value)) (st : List Value) (w : pp_W) (K : pp_St), pp_sp g h ret P Y X (.isub) (lk) L st w K = (pp_i st (fun y st => pp_i st (fun x st => K L (.int (x - y) :: st) w))))) ∧ ((∀  (lk : pp_Lk) (L : List (Nat × Value)) (st : List Value) (w : pp_W) (K : pp_St), pp_sp g h ret P Y X (.imul) (lk) L st w K = (pp_i st (fun y st => pp_i st (fun x st => K L (.int (x * y) :: st) w))))) ∧ ((∀  (lk : pp_Lk) (L : List (Nat × Value)) (st : List Value) (w : pp_W) (K : pp_St), pp_sp g h ret P Y X (.iand) (lk) L st w K = (pp_i st (fun y st => pp_i st (fun x st => K L (.int (x &&& y) :: st) w))))) ∧ ((∀  (lk : pp_Lk) (L : List (Nat × Value)) (st : List Value) (w : pp_W) (K : pp_St), pp_sp g h ret P Y X (.ior) (lk) L st w K = (pp_i st (fun y st => pp_i st (fun x st => K L (.int (x ||| y) :: st) w))))) ∧ ((∀  (lk : pp_Lk) (L : List (Nat × Value)) (st : List Value) (w : pp_W) (K : pp_St), pp_sp g h ret P Y X (.ixor) (lk) L st w K = (pp_i st (fun y st => pp_i st (fun x st => K L (.int (x ^^^ y) :: st) w))))) ∧ ((∀  (lk : pp_Lk) (L : List (Nat × Value)) (st : List Value) (w : pp_W) (K : pp_St), pp_sp g h ret P Y X (.ishl) (lk) L st w K = (pp_i st (fun y st => pp_i st (fun x st => K L (.int (x <<< (y &&& 31)) :: st) w))))) ∧ ((∀  (lk : pp_Lk) (L : List (Nat × Value)) (st : List Value) (w : pp_W) (K : pp_St), pp_sp g h ret P Y X (.ishr) (lk) L st w K = (pp_i st (fun y st => pp_i st (fun x st => K L (.int (x >>> (y &&& 31)) :: st) w))))) ∧ ((∀  (lk : pp_Lk) (L : List (Nat × Value)) (st : List Value) (w : pp_W) (K : pp_St), pp_sp g h ret P Y X (.iushr) (lk) L st w K = (pp_i st (fun y st => pp_i st (fun x st => K L (.int (x.toUInt32 >>> (y.toUInt32 &&& Int32.toUInt32 31)).toInt32 :: st) w))))) ∧ ((∀  (lk : pp_Lk) (L : List (Nat × Value)) (st : List Value) (w : pp_W) (K : pp_St), pp_sp g h ret P Y X (.idiv) (lk) L st w K = (pp_i st (fun y st => pp_i st (fun x st => ¬ y = 0 ∧ K L (.int (x / y) :: st) w))))) ∧ ((∀  (lk : pp_Lk) (L : List (Nat × Value)) (st : List Value) (w : pp_W) (K : pp_St), pp_sp g h ret P Y X (.ladd) (lk) L st w K = (pp_j st (fun y st => pp_j st (fun x st => K L (.long (x + y) :: st) w))))) ∧ ((∀  (lk : pp_Lk) (L : List (Nat × Value)) (st : List Value) (w : pp_W) (K : pp_St), pp_sp g h ret P Y X (.lsub) (lk) L st w K = (pp_j st (fun y st => pp_j st (fun x st => K L (.long (x - y) :: st) w))))) ∧ ((∀  (lk : pp_Lk) (L : List (Nat × Value)) (st : List Value) (w : pp_W) (K : pp_St), pp_sp g h ret P Y X (.lmul) (lk) L st w K = (pp_j st (fun y st => pp_j st (fun x st => K L (.long (x * y) :: st) w))))) ∧ ((∀  (lk : pp_Lk) (L : List (Nat × Value)) (st : List Value) (w : pp_W) (K : pp_St), pp_sp g h ret P Y X (.land) (lk) L st w K = (pp_j st (fun y st => pp_j st (fun x st => K L (.long (x &&& y) :: st) w))))) ∧ ((∀  (lk : pp_Lk) (L : List (Nat × Value)) (st : List Value) (w : pp_W) (K : pp_St), pp_sp g h ret P Y X (.lor) (lk) L st w K = (pp_j st (fun y st => pp_j st (fun x st => K L (.long (x ||| y) :: st) w))))) ∧ ((∀  (lk : pp_Lk) (L : List (Nat × Value)) (st : List Value) (w : pp_W) (K : pp_St), pp_sp g h ret P Y X (.lxor) (lk) L st w K = (pp_j st (fun y st => pp_j st (fun x st => K L (.long (x ^^^ y) :: st) w))))) ∧ ((∀  (lk : pp_Lk) (L : List (Nat × Value)) (st : List Value) (w : pp_W) (K : pp_St), pp_sp g h ret P Y X (.ldiv) (lk) L st w K = (pp_j st (fun y st => pp_j st (fun x st => ¬ y = 0 ∧ K L (.long (x / y) :: st) w))))) ∧ ((∀  (lk : pp_Lk) (L : List (Nat × Value)) (st : List Value) (w : pp_W) (K : pp_St), pp_sp g h ret P Y X (.lrem) (lk) L st w K = (pp_j st (fun y st => pp_j st (fun x st => ¬ y = 0 ∧ K L (.long (x - x / y * y) :: st) w))))) ∧ ((∀  (lk : pp_Lk) (L : List (Nat × Value)) (st : List Value) (w : pp_W) (K : pp_St), pp_sp g h ret P Y X (.lcmp) (lk) L st w K = (pp_j st (fun y st => pp_j st (fun x st => K L (.int (lg_cmp x y) :: st) w))))) ∧ ((∀  (lk : pp_Lk) (L : List (Nat × Value)) (st : List Value) (w : pp_W) (K : pp_St), pp_sp g h ret P Y X (.lshl) (lk) L st w K = (pp_i st (fun y st => pp_j st (fun x st => K L (.long (x <<< (y.toInt64 &&& 63)) :: st) w))))) ∧ ((∀  (lk : pp_Lk) (L : List (Nat × Value)) (st : List Value) (w : pp_W) (K : pp_St), pp_sp g h ret P Y X (.i2l) (lk) L st w K = (pp_i st (fun x st => K L (.long x.toInt64 :: st) w)))) ∧ ((∀  (lk : pp_Lk) (L : List (Nat × Value)) (st : List Value) (w : pp_W) (K : pp_St), pp_sp g h ret P Y X (.i2b) (lk) L st w K = (pp_i st (fun x st => K L (.int x.toInt8.toInt32 :: st) w)))) ∧ ((∀  (lk : pp_Lk) (L : List (Nat × Value)) (st : List Value) (w : pp_W) (K : pp_St), pp_sp g h ret P Y X (.l2i) (lk) L st w K = (pp_j st (fun x st => K L (.int x.toInt32 :: st) w)))) ∧ ((∀  (lk : pp_Lk) (L : List (Nat × Value)) (st : List Value) (w : pp_W) (K : pp_St), pp_sp g h ret P Y X (.dup) (lk) L st w K = (pp_1 st (fun v st => K L (v :: v :: st) w)))) ∧ ((∀  (lk : pp_Lk) (L : List (Nat × Value)) (st : List Value) (w : pp_W) (K : pp_St), pp_sp g h ret P Y X (.pop) (lk) L st w K = (pp_1 st (fun _ st => K L st w)))) ∧ ((∀  (lk : pp_Lk) (L : List (Nat × Value)) (st : List Value) (w : pp_W) (K : pp_St), pp_sp g h ret P Y X (.pop2) (lk) L st w K = (pp_2 st (fun _ st => K L st w)))) ∧ ((∀  (lk : pp_Lk) (L : List (Nat × Value)) (st : List Value) (w : pp_W) (K : pp_St), pp_sp g h ret P Y X (.dup2) (lk) L st w K = (pp_1 st (fun v st => pp_1 st (fun u st => K L (v :: u :: v :: u :: st) w))))) ∧ ((∀ (c : ClassFile.Cond) (n9 : Int) (t : Nat) (z1 : Nat) (z2 : List Nat) (L : List (Nat × Value)) (st : List Value) (w : pp_W) (K : pp_St), pp_sp g h ret P Y X (.ifCond c n9) (.inl (t, z1, z2)) L st w K = (pp_i st (fun x st => (pp_cond c x 0 → X t L st w) ∧ (pp_ncond c x 0 → K L st w))))) ∧ ((∀ (c : ClassFile.Cond) (n9 : Int) (t : Nat) (z1 : Nat) (z2 : List Nat) (L : List (Nat × Value)) (st : List Value) (w : pp_W) (K : pp_St), pp_sp g h ret P Y X (.if_icmp c n9) (.inl (t, z1, z2)) L st w K = (pp_i st (fun y st => pp_i st (fun x st => (pp_cond c x y → X t L st w) ∧ (pp_ncond c x y → K L st w)))))) ∧ ((∀ (n9 : Int) (t : Nat) (z1 : Nat) (z2 : List Nat) (L : List (Nat × Value)) (st : List Value) (w : pp_W) (K : pp_St), pp_sp g h ret P Y X (.goto n9) (.inl (t, z1, z2)) L st w K = (X t L st w))) ∧ ((∀ (n9 : Int) (t : Nat) (z1 : Nat) (z2 : List Nat) (L : List (Nat × Value)) (st : List Value) (w : pp_W) (K : pp_St), pp_sp g h ret P Y X (.ifnull n9) (.inl (t, z1, z2)) L st w K = (pp_q st (fun x st => match x with
      | none => X t L st w
      | some _ => K L st w)))) ∧ ((∀ (n9 : Int) (t : Nat) (z1 : Nat) (z2 : List Nat) (L : List (Nat × Value)) (st : List Value) (w : pp_W) (K : pp_St), pp_sp g h ret P Y X (.ifnonnull n9) (.inl (t, z1, z2)) L st w K = (pp_q st (fun x st => match x with
      | none => K L st w
      | some _ => X t L st w)))) ∧ ((∀ (n9 lo hi : Int) (offs : Array Int) (d : Nat) (z1 : Nat) (ts : List Nat) (L : List (Nat × Value)) (st : List Value) (w : pp_W) (K : pp_St), pp_sp g h ret P Y X (.tableswitch n9 lo hi offs) (.inl (d, z1, ts)) L st w K = (pp_i st (fun x st => pp_sw (fun t => X t L st w) x lo ts ∧ ((x.toInt < lo ∨ hi < x.toInt) → X d L st w))))) ∧ ((∀ (n9 : Nat) (ci : Nat) (k : Nat) (z2 : List Nat) (L : List (Nat × Value)) (st : List Value) (w : pp_W) (K : pp_St), pp_sp g h ret P Y X (.getfield n9) (.inl (ci, k, 0 :: z2)) L st w K = (pp_r st (fun a st => w.1[a]? = some (ci, 0) ∧ K L (.int (w.2.1 a k) :: st) w)))) ∧ ((∀ (n9 : Nat) (ci : Nat) (k : Nat) (z2 : List Nat) (L : List (Nat × Value)) (st : List Value) (w : pp_W) (K : pp_St), pp_sp g h ret P Y X (.getfield n9) (.inl (ci, k, 1 :: z2)) L st w K = (pp_r st (fun a st => w.1[a]? = some (ci, 0) ∧ K L (.long (w.2.2.1 a k) :: st) w)))) ∧ ((∀ (n9 : Nat) (ci : Nat) (k : Nat) (z2 : List Nat) (L : List (Nat × Value)) (st : List Value) (w : pp_W) (K : pp_St), pp_sp g h ret P Y X (.getfield n9) (.inl (ci, k, 2 :: z2)) L st w K = (pp_r st (fun a st => w.1[a]? = some (ci, 0) ∧ K L (pp_rf (w.2.2.2 a k) :: st) w)))) ∧ ((∀ (n9 : Nat) (z0 : Nat) (z1 : Nat) (z2 : List Nat) (L : List (Nat × Value)) (st : List Value) (w : pp_W) (K : pp_St), pp_sp g h ret P Y X (.getfield n9) (.inl (z0, z1, 3 :: z2)) L st w K = (pp_r st (fun a st => (1 ≤ a ∧ a ≤ 15) ∧ K L (.ref (a + 15) :: st) w)))) ∧ ((∀ (n9 : Nat) (z0 : Nat) (z1 : Nat) (z2 : List Nat) (L : List (Nat × Value)) (st : List Value) (w : pp_W) (K : pp_St), pp_sp g h ret P Y X (.getfield n9) (.inl (z0, z1, 4 :: z2)) L st w K = (pp_r st (fun a st => (1 ≤ a ∧ a ≤ 15) ∧ K L (.int 0 :: st) w)))) ∧ ((∀ (n9 : Nat) (z1 : Nat) (z2 : List Nat) (L : List (Nat × Value)) (st : List Value) (w : pp_W) (K : pp_St), pp_sp g h ret P Y X (.getstatic n9) (.inl (0, z1, z2)) L st w K = (K L (.int 1 :: st) w))) ∧ ((∀ (n9 : Nat) (z1 : Nat) (z2 : List Nat) (L : List (Nat × Value)) (st : List Value) (w : pp_W) (K : pp_St), pp_sp g h ret P Y X (.getstatic n9) (.inl (1, z1, z2)) L st w K = (K L (.null :: st) w ∧ K L (.ref 31 :: st) w))) ∧ ((∀  (lk : pp_Lk) (L : List (Nat × Value)) (st : List Value) (w : pp_W) (K : pp_St), pp_sp g h ret P Y X (.i2c) (lk) L st w K = (pp_i st (fun x st => K L (.int (x.toUInt32 % 65536).toInt32 :: st) w)))) ∧ ((∀ (n9 : Nat) (ci : Nat) (k : Nat) (z2 : List Nat) (L : List (Nat × Value)) (st : List Value) (w : pp_W) (K : pp_St), pp_sp g h ret P Y X (.putfield n9) (.inl (ci, k, 0 :: z2)) L st w K = (pp_i st (fun x st => pp_r st (fun a st => w.1[a]? = some (ci, 0) ∧ K L st (w.1, pp_s w.2.1 a (va_up (w.2.1 a) k x), w.2.2)))))) ∧ ((∀ (n9 : Nat) (ci : Nat) (k : Nat) (z2 : List Nat) (L : List (Nat × Value)) (st : List Value) (w : pp_W) (K : pp_St), pp_sp g h ret P Y X (.putfield n9) (.inl (ci, k, 1 :: z2)) L st w K = (pp_j st (fun x st => pp_r st (fun a st => w.1[a]? = some (ci, 0) ∧ K L st (w.1, w.2.1, pp_s w.2.2.1 a (va_up (w.2.2.1 a) k x), w.2.2.2)))))) ∧ ((∀ (n9 : Nat) (ci : Nat) (k : Nat) (z2 : List Nat) (L : List (Nat × Value)) (st : List Value) (w : pp_W) (K : pp_St), pp_sp g h ret P Y X (.putfield n9) (.inl (ci, k, 2 :: z2)) L st w K = (pp_q st (fun x st => pp_r st (fun a st => w.1[a]? = some (ci, 0) ∧ K L st (w.1, w.2.1, w.2.2.1, pp_s w.2.2.2 a (va_up (w.2.2.2 a) k x))))))) ∧ ((∀  (z1 : Nat) (z2 : List Nat) (L : List (Nat × Value)) (st : List Value) (w : pp_W) (K : pp_St), pp_sp g h ret P Y X (.arraylength) (.inl (0, z1, z2)) L st w K = (pp_r st (fun a st => pp_al w a (fun n => K L (.int (Int32.ofNat n) :: st) w))))) ∧ ((∀  (z1 : Nat) (z2 : List Nat) (L : List (Nat × Value)) (st : List Value) (w : pp_W) (K : pp_St), pp_sp g h ret P Y X (.arraylength) (.inl (1, z1, z2)) L st w K = (pp_r st (fun a st => a = 0 ∧ K L (.int (Int32.ofNat (pp_sL g)) :: st) w)))) ∧ ((∀  (z1 : Nat) (z2 : List Nat) (L : List (Nat × Value)) (st : List Value) (w : pp_W) (K : pp_St), pp_sp g h ret P Y X (.arraylength) (.inl (2, z1, z2)) L st w K = (pp_r st (fun a st => (16 ≤ a ∧ a ≤ 30) ∧ K L (.int (Int32.ofNat (pp_txt.getD (a - 16) []).length) :: st) w)))) ∧ ((∀  (z1 : Nat) (z2 : List Nat) (L : List (Nat × Value)) (st : List Value) (w : pp_W) (K : pp_St), pp_sp g h ret P Y X (.iaload) (.inl (0, z1, z2)) L st w K = (pp_i st (fun j st => pp_r st (fun a st => pp_in w a 10 j (K L (.int (w.2.1 a j.toNatClampNeg) :: st) w)))))) ∧ ((∀  (z1 : Nat) (z2 : List Nat) (L : List (Nat × Value)) (st : List Value) (w : pp_W) (K : pp_St), pp_sp g h ret P Y X (.iaload) (.inl (1, z1, z2)) L st w K = (pp_i st (fun j st => pp_r st (fun a st => a = 0 ∧ vp_in j (pp_sL g) ∧ K L (.int (pp_sx g j.toNatClampNeg) :: st) w))))) ∧ ((∀  (z1 : Nat) (z2 : List Nat) (L : List (Nat × Value)) (st : List Value) (w : pp_W) (K : pp_St), pp_sp g h ret P Y X (.baload) (.inl (0, z1, z2)) L st w K = (pp_i st (fun j st => pp_r st (fun a st => pp_in w a 11 j (K L (.int (w.2.1 a j.toNatClampNeg) :: st) w)))))) ∧ ((∀  (z1 : Nat) (z2 : List Nat) (L : List (Nat × Value)) (st : List Value) (w : pp_W) (K : pp_St), pp_sp g h ret P Y X (.baload) (.inl (1, z1, z2)) L st w K = (pp_i st (fun j st => pp_r st (fun a st => pp_in w a 12 j (K L (.int (w.2.1 a j.toNatClampNeg) :: st) w)))))) ∧ ((∀  (z1 : Nat) (z2 : List Nat) (L : List (Nat × Value)) (st : List Value) (w : pp_W) (K : pp_St), pp_sp g h ret P Y X (.baload) (.inl (2, z1, z2)) L st w K = (pp_i st (fun j st => pp_r st (fun a st => (16 ≤ a ∧ a ≤ 30) ∧ vp_in j (pp_txt.getD (a - 16) []).length ∧ K L (.int ((pp_txt.getD (a - 16) []).getD j.toNatClampNeg 0) :: st) w))))) ∧ ((∀  (lk : pp_Lk) (L : List (Nat × Value)) (st : List Value) (w : pp_W) (K : pp_St), pp_sp g h ret P Y X (.laload) (lk) L st w K = (pp_i st (fun j st => pp_r st (fun a st => pp_in w a 13 j (K L (.long (w.2.2.1 a j.toNatClampNeg) :: st) w)))))) ∧ ((∀  (lk : pp_Lk) (L : List (Nat × Value)) (st : List Value) (w : pp_W) (K : pp_St), pp_sp g h ret P Y X (.aaload) (lk) L st w K = (pp_i st (fun j st => pp_r st (fun a st => pp_in w a 14 j (K L (pp_rf (w.2.2.2 a j.toNatClampNeg) :: st) w)))))) ∧ ((∀  (lk : pp_Lk) (L : List (Nat × Value)) (st : List Value) (w : pp_W) (K : pp_St), pp_sp g h ret P Y X (.iastore) (lk) L st w K = (pp_i st (fun x st => pp_i st (fun j st => pp_r st (fun a st => pp_in w a 10 j (K L st (w.1, pp_s w.2.1 a (va_up (w.2.1 a) j.toNatClampNeg x), w.2.2)))))))) ∧ ((∀  (z1 : Nat) (z2 : List Nat) (L : List (Nat × Value)) (st : List Value) (w : pp_W) (K : pp_St), pp_sp g h ret P Y X (.bastore) (.inl (0, z1, z2)) L st w K = (pp_i st (fun x st => pp_i st (fun j st => pp_r st (fun a st => pp_in w a 11 j (K L st (w.1, pp_s w.2.1 a (va_up (w.2.1 a) j.toNatClampNeg x.toInt8.toInt32), w.2.2)))))))) ∧ ((∀  (z1 : Nat) (z2 : List Nat) (L : List (Nat × Value)) (st : List Value) (w : pp_W) (K : pp_St), pp_sp g h ret P Y X (.bastore) (.inl (1, z1, z2)) L st w K = (pp_i st (fun x st => pp_i st (fun j st => pp_r st (fun a st => pp_in w a 12 j ((x = 0 ∨ x = 1) ∧ K L st (w.1, pp_s w.2.1 a (va_up (w.2.1 a) j.toNatClampNeg x), w.2.2)))))))) ∧ ((∀  (lk : pp_Lk) (L : List (Nat × Value)) (st : List Value) (w : pp_W) (K : pp_St), pp_sp g h ret P Y X (.lastore) (lk) L st w K = (pp_j st (fun x st => pp_i st (fun j st => pp_r st (fun a st => pp_in w a 13 j (K L st (w.1, w.2.1, pp_s w.2.2.1 a (va_up (w.2.2.1 a) j.toNatClampNeg x), w.2.2.2)))))))) ∧ ((∀  (lk : pp_Lk) (L : List (Nat × Value)) (st : List Value) (w : pp_W) (K : pp_St), pp_sp g h ret P Y X (.aastore) (lk) L st w K = (pp_q st (fun x st => pp_i st (fun j st => pp_r st (fun a st => pp_in w a 14 j ((∀ b, x = some b → w.1[b]? = some (4, 0)) ∧ K L st (w.1, w.2.1, w.2.2.1, pp_s w.2.2.2 a (va_up (w.2.2.2 a) j.toNatClampNeg x))))))))) ∧ ((∀ (n9 : Nat) (ci : Nat) (z1 : Nat) (z2 : List Nat) (L : List (Nat × Value)) (st : List Value) (w : pp_W) (K : pp_St), pp_sp g h ret P Y X (.new n9) (.inl (ci, z1, z2)) L st w K = (K L (.ref w.1.length :: st) (pp_nw w (ci, 0))))) ∧ ((∀ (n9 : ArrayType) (t : Nat) (n : Nat) (z2 : List Nat) (L : List (Nat × Value)) (st : List Value) (w : pp_W) (K : pp_St), pp_sp g h ret P Y X (.newarray n9) (.inl (t, n, z2)) L st w K = (pp_i st (fun x st => x = Int32.ofNat n ∧ K L (.ref w.1.length :: st) (pp_nw w (t, n)))))) ∧ ((∀ (n9 : Nat) (z0 : Nat) (n : Nat) (z2 : List Nat) (L : List (Nat × Value)) (st : List Value) (w : pp_W) (K : pp_St), pp_sp g h ret P Y X (.anewarray n9) (.inl (z0, n, z2)) L st w K = (pp_i st (fun x st => x = Int32.ofNat n ∧ K L (.ref w.1.length :: st) (pp_nw w (14, n)))))) ∧ ((∀ (n9 : Nat) (q0 : Nat × Nat × List Nat) (L : List (Nat × Value)) (st : List Value) (w : pp_W) (K : pp_St), pp_sp g h ret P Y X (.invokespecial n9) (.inl q0) L st w K = (pp_r st (fun _ st => st.length ≤ 4 ∧ K L st w)))) ∧ ((∀ (n9 : Nat) (mj : pp_MI) (ci z2 : Nat) (l : List Nat) (L : List (Nat × Value)) (st : List Value) (w : pp_W) (K : pp_St), pp_sp g h ret P Y X (.invokespecial n9) (.inr (.inl (mj, ci, z2, l))) L st w K = (pp_args l [] st (fun av st => st.length ≤ 4 ∧ pp_r av (fun _ _ => True) ∧ pp_MW g h mj av w (pp_kr K Y L st))))) ∧ ((∀ (n9 : Nat) (mj : pp_MI) (ci z2 : Nat) (l : List Nat) (L : List (Nat × Value)) (st : List Value) (w : pp_W) (K : pp_St), pp_sp g h ret P Y X (.invokevirtual n9) (.inr (.inl (mj, ci, z2, 0 :: l))) L st w K = (pp_args (0 :: l) [] st (fun av st => st.length ≤ 4 ∧ pp_r av (fun b _ => w.1[b]? = some (ci, 0)) ∧ pp_MW g h mj av w (pp_kr K Y L st))))) ∧ ((∀ (n9 : Nat) (mj : pp_MI) (ci z2 : Nat) (l : List Nat) (L : List (Nat × Value)) (st : List Value) (w : pp_W) (K : pp_St), pp_sp g h ret P Y X (.invokevirtual n9) (.inr (.inl (mj, ci, z2, 1 :: l))) L st w K = (pp_args (1 :: l) [] st (fun av st => st.length ≤ 4 ∧ pp_r av (fun b _ => 1 ≤ b ∧ b ≤ 15) ∧ pp_MW g h mj av w (pp_kr K Y L st))))) ∧ ((∀ (n9 : Nat) (z1 : Nat) (z2 : List Nat) (L : List (Nat × Value)) (st : List Value) (w : pp_W) (K : pp_St), pp_sp g h ret P Y X (.invokestatic n9) (.inl (0, z1, z2)) L st w K = (pp_i st (fun n st => pp_i st (fun dp st => pp_r st (fun b st => pp_i st (fun sp st => pp_r st (fun a st => st.length ≤ 4 ∧ ¬ sp < 0 ∧ ¬ dp < 0 ∧ ¬ n < 0 ∧ pp_al w a (fun n0 => sp.toNatClampNeg + n.toNatClampNeg ≤ n0) ∧ pp_al w b (fun n1 => dp.toNatClampNeg + n.toNatClampNeg ≤ n1) ∧
        w.1[a]?.map Prod.fst = some 10 ∧ w.1[b]?.map Prod.fst = some 10 ∧ K L st (w.1, pp_s w.2.1 b (va_cpy (w.2.1 a) (w.2.1 b) sp.toNatClampNeg dp.toNatClampNeg n.toNatClampNeg), w.2.2))))))))) ∧ ((∀ (n9 : Nat) (z1 : Nat) (z2 : List Nat) (L : List (Nat × Value)) (st : List Value) (w : pp_W) (K : pp_St), pp_sp g h ret P Y X (.invokestatic n9) (.inl (1, z1, z2)) L st w K = (pp_i st (fun n st => pp_i st (fun dp st => pp_r st (fun b st => pp_i st (fun sp st => pp_r st (fun a st => st.length ≤ 4 ∧ ¬ sp < 0 ∧ ¬ dp < 0 ∧ ¬ n < 0 ∧ pp_al w a (fun n0 => sp.toNatClampNeg + n.toNatClampNeg ≤ n0) ∧ pp_al w b (fun n1 => dp.toNatClampNeg + n.toNatClampNeg ≤ n1) ∧
        w.1[a]?.map Prod.fst = some 13 ∧ w.1[b]?.map Prod.fst = some 13 ∧ K L st (w.1, w.2.1, pp_s w.2.2.1 b (va_cpy (w.2.2.1 a) (w.2.2.1 b) sp.toNatClampNeg dp.toNatClampNeg n.toNatClampNeg), w.2.2.2))))))))) ∧ ((∀ (n9 : Nat) (z1 : Nat) (z2 : List Nat) (L : List (Nat × Value)) (st : List Value) (w : pp_W) (K : pp_St), pp_sp g h ret P Y X (.invokestatic n9) (.inl (2, z1, z2)) L st w K = (pp_i st (fun y st => pp_i st (fun x st => st.length ≤ 4 ∧ K L (.int (if y < x then y else x) :: st) w))))) ∧ ((∀ (n9 : Nat) (z1 : Nat) (z2 : List Nat) (L : List (Nat × Value)) (st : List Value) (w : pp_W) (K : pp_St), pp_sp g h ret P Y X (.invokestatic n9) (.inl (3, z1, z2)) L st w K = (pp_i st (fun y st => pp_i st (fun x st => st.length ≤ 4 ∧ K L (.int (if x < y then y else x) :: st) w))))) ∧ ((∀ (n9 : Nat) (z1 : Nat) (z2 : List Nat) (L : List (Nat × Value)) (st : List Value) (w : pp_W) (K : pp_St), pp_sp g h ret P Y X (.invokestatic n9) (.inl (4, z1, z2)) L st w K = (pp_j st (fun y st => pp_j st (fun x st => st.length ≤ 4 ∧ K L (.long (if y < x then y else x) :: st) w))))) ∧ ((∀ (n9 : Nat) (mj : pp_MI) (ci z2 : Nat) (l : List Nat) (L : List (Nat × Value)) (st : List Value) (w : pp_W) (K : pp_St), pp_sp g h ret P Y X (.invokestatic n9) (.inr (.inl (mj, ci, z2, l))) L st w K = (pp_args l [] st (fun av st => st.length ≤ 4 ∧ pp_MW g h mj av w (pp_kr K Y L st))))) ∧ ((∀  (lk : pp_Lk) (x : Int32) (L : List (Nat × Value)) (w : pp_W) (K : pp_St), pp_sp g h ret P Y X (.ireturn) (lk) L [.int x] w K = (pp_rok ret x ∧ P (.inl (some (.int x))) w))) ∧ ((∀  (lk : pp_Lk) (x : Int64) (L : List (Nat × Value)) (w : pp_W) (K : pp_St), pp_sp g h ret P Y X (.lreturn) (lk) L [.long x] w K = (P (.inl (some (.long x))) w))) ∧ ((∀  (lk : pp_Lk) (L : List (Nat × Value)) (w : pp_W) (K : pp_St), pp_sp g h ret P Y X (.return_) (lk) L [] w K = (P (.inl none) w))) ∧ ((∀  (e : Nat) (z1 : Nat) (z2 : List Nat) (L : List (Nat × Value)) (st : List Value) (w : pp_W) (K : pp_St), pp_sp g h ret P Y X (.athrow) (.inl (e, z1, z2)) L st w K = (st.length ≤ 4 ∧ ∀ k : Nat, P (.inr ((pp_exs.getD e ("", 0, 0)).1)) (w.1 ++ List.replicate k (15, 0), w.2)))) := ⟨sx_0 g h ret P Y X, sx_1 g h ret P Y X, sx_2 g h ret P Y X, sx_3 g h ret P Y X, sx_4 g h ret P Y X, sx_5 g h ret P Y X, sx_6 g h ret P Y X, sx_7 g h ret P Y X, sx_8 g h ret P Y X, sx_9 g h ret P Y X, sx_10 g h ret P Y X, sx_11 g h ret P Y X, sx_12 g h ret P Y X, sx_13 g h ret P Y X, sx_14 g h ret P Y X, sx_15 g h ret P Y X, sx_16 g h ret P Y X, sx_17 g h ret P Y X, sx_18 g h ret P Y X, sx_19 g h ret P Y X, sx_20 g h ret P Y X, sx_21 g h ret P Y X, sx_22 g h ret P Y X, sx_23 g h ret P Y X, sx_24 g h ret P Y X, sx_25 g h ret P Y X, sx_26 g h ret P Y X, sx_27 g h ret P Y X, sx_28 g h ret P Y X, sx_29 g h ret P Y X, sx_30 g h ret P Y X, sx_31 g h ret P Y X, sx_32 g h ret P Y X, sx_33 g h ret P Y X, sx_34 g h ret P Y X, sx_35 g h ret P Y X, sx_36 g h ret P Y X, sx_37 g h ret P Y X, sx_38 g h ret P Y X, sx_39 g h ret P Y X, sx_40 g h ret P Y X, sx_41 g h ret P Y X, sx_42 g h ret P Y X, sx_43 g h ret P Y X, sx_44 g h ret P Y X, sx_45 g h ret P Y X, sx_46 g h ret P Y X, sx_47 g h ret P Y X, sx_48 g h ret P Y X, sx_49 g h ret P Y X, sx_50 g h ret P Y X, sx_51 g h ret P Y X, sx_52 g h ret P Y X, sx_53 g h ret P Y X, sx_54 g h ret P Y X, sx_55 g h ret P Y X, sx_56 g h ret P Y X, sx_57 g h ret P Y X, sx_58 g h ret P Y X, sx_59 g h ret P Y X, sx_60 g h ret P Y X, sx_61 g h ret P Y X, sx_62 g h ret P Y X, sx_63 g h ret P Y X, sx_64 g h ret P Y X, sx_65 g h ret P Y X, sx_66 g h ret P Y X, sx_67 g h ret P Y X, sx_68 g h ret P Y X, sx_69 g h ret P Y X, sx_70 g h ret P Y X, sx_71 g h ret P Y X, sx_72 g h ret P Y X, sx_73 g h ret P Y X, sx_74 g h ret P Y X, sx_75 g h ret P Y X, sx_76 g h ret P Y X, sx_77 g h ret P Y X, sx_78 g h ret P Y X, sx_79 g h ret P Y X, sx_80 g h ret P Y X, sx_81 g h ret P Y X, sx_82 g h ret P Y X, sx_83 g h ret P Y X, sx_84 g h ret P Y X, sx_85 g h ret P Y X, sx_86 g h ret P Y X, sx_87 g h ret P Y X, sx_88 g h ret P Y X, sx_89 g h ret P Y X, sx_90 g h ret P Y X, sx_91 g h ret P Y X, sx_92 g h ret P Y X, sx_93 g h ret P Y X, sx_94 g h ret P Y X, sx_95 g h ret P Y X, sx_96 g h ret P Y X⟩
end Sx
theorem sw_c (g : pp_G) (h : Nat) (ret : Option FieldType) (P : pp_R → pp_W → Prop) (Y : String → pp_W → Prop) (X : Nat → pp_St) (e : Nat) (i : Instr) (lk : pp_Lk) (s : pp_Seg) (L : List (Nat × Value)) (st : List Value) (w : pp_W) : pp_wp g h ret P Y X e ((i, lk) :: s) L st w = pp_sp g h ret P Y X i lk L st w (pp_wp g h ret P Y X e s) := rfl
theorem sw_n (g : pp_G) (h : Nat) (ret : Option FieldType) (P : pp_R → pp_W → Prop) (Y : String → pp_W → Prop) (X : Nat → pp_St) (e : Nat) (L : List (Nat × Value)) (st : List Value) (w : pp_W) : pp_wp g h ret P Y X e [] L st w = X e L st w := rfl
theorem sf_4 : ((0 : Fin 4).val = 0) ∧ ((1 : Fin 4).val = 1) ∧ ((2 : Fin 4).val = 2) ∧ ((3 : Fin 4).val = 3) := ⟨rfl, rfl, rfl, rfl⟩
theorem sv_i (x : Int32) (st : List Value) (k : Int32 → List Value → Prop) : pp_i (.int x :: st) k = k x st := rfl
theorem sv_j (x : Int64) (st : List Value) (k : Int64 → List Value → Prop) : pp_j (.long x :: st) k = k x st := rfl
theorem sv_r (x : Nat) (st : List Value) (k : Nat → List Value → Prop) : pp_r (.ref x :: st) k = k x st := rfl
theorem sv_q1 (x : Nat) (st : List Value) (k : Option Nat → List Value → Prop) : pp_q (.ref x :: st) k = k (some x) st := rfl
theorem sv_q0 (st : List Value) (k : Option Nat → List Value → Prop) : pp_q (.null :: st) k = k none st := rfl
theorem sv_1i (x : Int32) (st : List Value) (k : Value → List Value → Prop) : pp_1 (.int x :: st) k = k (.int x) st := by simp [pp_1, pp_wide]
theorem sv_1r (x : Nat) (st : List Value) (k : Value → List Value → Prop) : pp_1 (.ref x :: st) k = k (.ref x) st := by simp [pp_1, pp_wide]
theorem sv_2 (x : Int64) (st : List Value) (k : Value → List Value → Prop) : pp_2 (.long x :: st) k = k (.long x) st := by simp [pp_2, pp_wide]
def pp_iv (v : Value) (k : Int32 → Prop) : Prop := match v with
  | .int x => k x
  | _ => False
def pp_jv (v : Value) (k : Int64 → Prop) : Prop := match v with
  | .long x => k x
  | _ => False
def pp_av (v : Value) (k : Value → Prop) : Prop := match v with
  | .ref x => k (.ref x)
  | .null => k .null
  | _ => False
theorem sl_i (j : Nat) (v : Value) (L : List (Nat × Value)) (i : Nat) (k : Int32 → Prop) : pp_li ((j, v) :: L) i k = if i = j then pp_iv v k else pp_li L i k := by
  unfold pp_li
  rw [List.lookup_cons]
  by_cases e : i = j
  · subst e
    simp only [BEq.rfl, if_true]
    cases v <;> rfl
  · have e2 : (i == j) = false := by simpa using e
    rw [e2, if_neg e]
theorem sl_j (j : Nat) (v : Value) (L : List (Nat × Value)) (i : Nat) (k : Int64 → Prop) : pp_lj ((j, v) :: L) i k = if i = j then pp_jv v k else pp_lj L i k := by
  unfold pp_lj
  rw [List.lookup_cons]
  by_cases e : i = j
  · subst e
    simp only [BEq.rfl, if_true]
    cases v <;> rfl
  · have e2 : (i == j) = false := by simpa using e
    rw [e2, if_neg e]
theorem sl_a (j : Nat) (v : Value) (L : List (Nat × Value)) (i : Nat) (k : Value → Prop) : pp_la ((j, v) :: L) i k = if i = j then pp_av v k else pp_la L i k := by
  unfold pp_la
  rw [List.lookup_cons]
  by_cases e : i = j
  · subst e
    simp only [BEq.rfl, if_true]
    cases v <;> rfl
  · have e2 : (i == j) = false := by simpa using e
    rw [e2, if_neg e]
theorem sl_v : (∀ (x : Int32) (k : Int32 → Prop), pp_iv (.int x) k = k x) ∧ (∀ (y : Int64) (k : Int64 → Prop), pp_jv (.long y) k = k y) ∧ (∀ (a : Nat) (k : Value → Prop), pp_av (.ref a) k = k (.ref a)) ∧ (∀ (k : Value → Prop), pp_av .null k = k .null) := ⟨fun _ _ => rfl, fun _ _ => rfl, fun _ _ => rfl, fun _ => rfl⟩
def pp_f1 (i : Nat) (L : List (Nat × Value)) : List (Nat × Value) := L.filter (fun q => !(q.1 == i) && !(q.1 + 1 == i && pp_wide q.2))
def pp_f2 (i : Nat) (L : List (Nat × Value)) : List (Nat × Value) := L.filter (fun q => !(q.1 == i) && (!(q.1 == i + 1) && !(q.1 + 1 == i && pp_wide q.2)))
theorem sp_f1 : (∀ i : Nat, pp_f1 i [] = []) ∧ (∀ (i j : Nat) (v : Value) (L : List (Nat × Value)), pp_f1 i ((j, v) :: L) = if j = i then pp_f1 i L else if j + 1 = i ∧ pp_wide v = true then pp_f1 i L else (j, v) :: pp_f1 i L) := by
  refine ⟨fun _ => rfl, fun i j v L => ?_⟩
  unfold pp_f1
  rw [List.filter_cons]
  by_cases a : j = i
  · simp [a]
  · by_cases b : j + 1 = i ∧ pp_wide v = true
    · simp [a, b.1, b.2]
    · rw [if_neg a, if_neg b, if_pos]
      simp [a]
      by_cases z : j + 1 = i
      · exact Or.inr (by cases hv : pp_wide v with | true => exact absurd ⟨z, hv⟩ b | false => rfl)
      · exact Or.inl z
theorem sp_f2 : (∀ i : Nat, pp_f2 i [] = []) ∧ (∀ (i j : Nat) (v : Value) (L : List (Nat × Value)), pp_f2 i ((j, v) :: L) = if j = i then pp_f2 i L else if j = i + 1 then pp_f2 i L else if j + 1 = i ∧ pp_wide v = true then pp_f2 i L else (j, v) :: pp_f2 i L) := by
  refine ⟨fun _ => rfl, fun i j v L => ?_⟩
  unfold pp_f2
  rw [List.filter_cons]
  by_cases a : j = i
  · simp [a]
  · by_cases c : j = i + 1
    · simp [c]
    · by_cases b : j + 1 = i ∧ pp_wide v = true
      · simp [a, c, b.1, b.2]
      · rw [if_neg a, if_neg c, if_neg b, if_pos]
        simp [a, c]
        by_cases z : j + 1 = i
        · exact Or.inr (by cases hv : pp_wide v with | true => exact absurd ⟨z, hv⟩ b | false => rfl)
        · exact Or.inl z
theorem sp_p : (∀ (i : Nat) (v : Value) (L : List (Nat × Value)), pp_put1 i v L = pp_ins i v (pp_f1 i L)) ∧ (∀ (i : Nat) (v : Value) (L : List (Nat × Value)), pp_put2 i v L = pp_ins i v (pp_f2 i L)) ∧ (∀ (i : Nat) (v : Value), pp_ins i v [] = [(i, v)]) ∧ (∀ (i j : Nat) (v u : Value) (L : List (Nat × Value)), pp_ins i v ((j, u) :: L) = if j < i then (j, u) :: pp_ins i v L else (i, v) :: (j, u) :: L) := ⟨fun _ _ _ => rfl, fun _ _ _ => rfl, fun _ _ => rfl, fun _ _ _ _ _ => rfl⟩
theorem sc_w : (∀ x : Int32, pp_wide (.int x) = false) ∧ (∀ y : Int64, pp_wide (.long y) = true) ∧ (∀ a : Nat, pp_wide (.ref a) = false) ∧ (pp_wide .null = false) := ⟨fun _ => rfl, fun _ => rfl, fun _ => rfl, rfl⟩
theorem sc_c (x y : Int32) : (pp_cond .eq x y = (x = y)) ∧ (pp_cond .ne x y = ¬ x = y) ∧ (pp_cond .lt x y = (x < y)) ∧ (pp_cond .ge x y = (y ≤ x)) ∧ (pp_cond .gt x y = (y < x)) ∧ (pp_cond .le x y = (x ≤ y)) ∧ (pp_ncond .eq x y = ¬ x = y) ∧ (pp_ncond .ne x y = (x = y)) ∧ (pp_ncond .lt x y = ¬ x < y) ∧ (pp_ncond .ge x y = ¬ y ≤ x) ∧ (pp_ncond .gt x y = ¬ y < x) ∧ (pp_ncond .le x y = ¬ x ≤ y) := ⟨rfl, rfl, rfl, rfl, rfl, rfl, rfl, rfl, rfl, rfl, rfl, rfl⟩
theorem sc_r (x : Int32) : (pp_rok (some .int) x = True) ∧ (pp_rok (some .boolean) x = (x = 0 ∨ x = 1)) := ⟨rfl, rfl⟩
theorem sc_f : (pp_rf none = .null) ∧ (∀ a : Nat, pp_rf (some a) = .ref a) := ⟨rfl, fun _ => rfl⟩
theorem sc_a : (∀ (acc st : List Value) (k : List Value → List Value → Prop), pp_args [] acc st k = k acc st) ∧ (∀ (a : Nat) (l : List Nat) (v : Value) (acc st : List Value) (k : List Value → List Value → Prop), pp_args (a :: l) acc (v :: st) k = pp_args l (v :: acc) st k) := ⟨fun _ _ _ => rfl, fun _ _ _ _ _ _ => rfl⟩
theorem sc_k (K : pp_St) (Y : String → pp_W → Prop) (L : List (Nat × Value)) (st : List Value) (w : pp_W) : (pp_kr K Y L st (.inl none) w = K L st w) ∧ (∀ v : Value, pp_kr K Y L st (.inl (some v)) w = K L (v :: st) w) ∧ (∀ E : String, pp_kr K Y L st (.inr E) w = Y E w) := ⟨rfl, fun _ => rfl, fun _ => rfl⟩
theorem sc_s (X : Nat → Prop) (x : Int32) (lo : Int) : (pp_sw X x lo [] = True) ∧ (∀ (t : Nat) (ts : List Nat), pp_sw X x lo (t :: ts) = ((x = Int32.ofInt lo → X t) ∧ pp_sw X x (lo + 1) ts)) := ⟨rfl, fun _ _ => rfl⟩
theorem sn_i : ((0 : Int32).toNatClampNeg = 0) ∧ ((1 : Int32).toNatClampNeg = 1) ∧ ((2 : Int32).toNatClampNeg = 2) ∧ ((3 : Int32).toNatClampNeg = 3) ∧ ((4 : Int32).toNatClampNeg = 4) ∧ ((5 : Int32).toNatClampNeg = 5) ∧ ((6 : Int32).toNatClampNeg = 6) ∧ ((7 : Int32).toNatClampNeg = 7) ∧ ((8 : Int32).toNatClampNeg = 8) := by decide
theorem pp_st0 {g : pp_G} {h : Nat} {mi : pp_MI} {P : pp_R → pp_W → Prop} {av : List Value} {w : pp_W} (L : List (Nat × Value)) (hok : pp_MIok mi) (hh : mi.hh = []) (hl : (lg_sl av).length ≤ mi.nL) (hL : lv_args 0 av = L) (k : pp_N g h mi P 0 L [] w) : pp_MW g (h + 1) mi av w P := pp_start hok hh hl (by rw [hL]; exact k)
end
section
set_option maxHeartbeats 4000000
set_option maxRecDepth 100000
theorem zt_within {g : pp_G} {h : Nat} {w : pp_W} {P : pp_R → pp_W → Prop} (v lo hi : Int64) (hP : P (.inl (some (.int (if lo ≤ v ∧ v ≤ hi then 1 else 0)))) w) : pp_MW g (h + 1) mi_X9_within [.long v, .long lo, .long hi] w P := by
  refine pp_st0 [(0, .long v), (2, .long lo), (4, .long hi)] ok_X9_within rfl (Nat.le_of_ble_eq_true rfl) rfl ?_
  refine pp_go rfl sk_X9_within_0 ?_
  simp only [sg_X9_within_0, sw_c, sw_n, sx, sf_4, sv_i, sv_j, sl_i, sl_j, sl_v, sc_c, ↓reduceIte, Nat.reduceEqDiff]
  trace_state
  sorry
theorem zt_copy {g : pp_G} {h : Nat} {w : pp_W} {P : pp_R → pp_W → Prop} (a b : Nat) : pp_MW g (h + 1) mi_X4_copyFrom [.ref a, .ref b] w P := by
  refine pp_st0 [(0, .ref a), (1, .ref b)] ok_X4_copyFrom rfl (Nat.le_of_ble_eq_true rfl) rfl ?_
  refine pp_go rfl sk_X4_copyFrom_0 ?_
  simp only [sg_X4_copyFrom_0, sw_c, sw_n, sx, sf_4, sv_i, sv_j, sv_r, sl_i, sl_j, sl_a, sl_v, sc_c, ↓reduceIte, Nat.reduceEqDiff]
  trace_state
  sorry
end
