section
/-! ===== BEGIN words of one list among another's, by their places ===== -/
theorem goodIn_r {big : List Cond} (ws : List Cond) (ps : List Nat) (hp : ws = ps.filterMap (fun i => big[i]?)) (h : ws.all goodWord = true) : GoodIn big ws := by
  intro w hw
  have h1 := List.all_eq_true.mp h w hw
  rw [hp] at hw
  obtain ⟨i, -, hi⟩ := List.mem_filterMap.mp hw
  have hm : w ∈ big := by first | exact List.mem_of_getElem? hi | exact List.getElem?_mem hi
  exact ⟨hm, good_of_word h1⟩
theorem goodIn_app {big a b : List Cond} (ha : GoodIn big a) (hb : GoodIn big b) : GoodIn big (a ++ b) := fun w h => (List.mem_append.mp h).elim (ha w) (hb w)
theorem goodIn_ca {big a b : List Cond} {c : Cond} (ha : GoodIn big (c :: a)) (hb : GoodIn big b) : GoodIn big (c :: (a ++ b)) := fun w h => (List.mem_cons.mp h).elim (fun e => ha w (List.mem_cons.mpr (Or.inl e))) (fun h => (List.mem_append.mp h).elim (fun h => ha w (List.mem_cons.mpr (Or.inr h))) (hb w))
theorem goodIn_sub {big ws : List Cond} (hm : ∀ w ∈ ws, w ∈ big) (h : ws.all goodWord = true) : GoodIn big ws := fun w hw => ⟨hm w hw, good_of_word (List.all_eq_true.mp h w hw)⟩
/-! ===== END ===== -/

/-! ===== BEGIN exceptions that leave a method, and their catching by the caller (launches without stack traces) ===== -/
section VXA
/-! The laws vx_back, vx_callV, vx_callS, vx_callSW, vx_throw0, vx_throwS follow proofs of the library, with one case more: JvmDerived/Free/Laws.lean (Back.of_free), Shelf42/LK1.lean (callV, callS), Shelf/KitTraced.lean (throwNew0V, throwNewS). -/
/-- where a method has thrown q: the class by its name, the cell, what was written, the world -/
def vx_T (XC : String → State → State → Prop) (st : State) (q : Addr) (t : State) (mc ms : Nat) (free : Addr → Prop) : Prop :=
  ∃ (E : String) (ce : Cell) (L : List Loc), XC E st t ∧ t.heap[q]? = some ce ∧ ce.vm = .none ∧ st.vm.findClass E = some ce.cls ∧ st.WarmedH t.vm ∧ st.sameButNew ({ t with vm := st.vm } : State) L mc ms ∧ ∀ z ∈ L, free z.base
def vx_Q (Qc : Array Value → State → Outcome → State → Prop) (XC : String → State → State → Prop) (mc ms : Nat) (free : Addr → Prop) : Array Value → State → Outcome → State → Prop := fun a st o t =>
  (Qc a st o t ∧ ∃ L, FrameEnd st o t L mc ms ∧ ∀ q ∈ L, free q.base) ∨ ∃ q, o = .threw q ∧ vx_T XC st q t mc ms free
/-- a callee that returns or throws -/
def vx_Met (l : Launch) (y : MethodName) (ws : List Cond) (rm : Room) (Pc : Array Value → State → Prop) (Qc : Array Value → State → Outcome → State → Prop) (XC : String → State → State → Prop) (mc ms : Nat) (free : Addr → Prop) : Prop :=
  MetFree l y (headSpec ws rm) Pc (fun _ _ _ _ _ => True) (vx_Q Qc XC mc ms free)
def vx_Post (XC : String → State → State → Prop) (mc ms : Nat) (free : Addr → Prop) : Pt → Array Value → Addr → Pt → Prop := fun A a q B =>
  ∃ (g : JFrame) (mk : MethodId) (t : State) (L : List Loc) (E : String) (ce : Cell), B.U.heap = t.heap ∧ B.U.vm = t.vm ∧ XC E (A.U.calling g mk a) t ∧ t.heap[q]? = some ce ∧ ce.vm = .none ∧ A.U.vm.findClass E = some ce.cls ∧ B.locs = A.locs ++ L ∧ (∀ z ∈ L, free z.base) ∧ B.cells = A.cells + mc ∧ B.slots = A.slots + ms
def vx_Back (l : Launch) (R : Room) (p : Program) (e : Env) (below : List Frame) (s : State) (sargs : Array Value) (y : MethodName) (len W9 : Nat)
    (Pre : Pt → Array Value → Prop) (Post : Pt → Array Value → Option Value → Pt → Prop) (PostX : Pt → Array Value → Addr → Pt → Prop) : Prop :=
  ∀ (m : MethodId) (meth : Method) (c : Code) (A : Pt) (g : JFrame) (ig : Instr) (mk : MethodId) (a : Array Value),
    Stand p l e R s m sargs below meth c A.U A.locs A.cells A.slots → g.method = m → g.locals.size = c.maxLocals → decode c.code g.pc = .ok (ig, len) →
    2 * g.monitorRoom + (g.stack.map fun v => v.category).sum ≤ W9 → A.U.methodNamed? y = some mk → Pre A a →
    (∃ (v : Option Value) (B : Pt), Stand p l e R s m sargs below meth c B.U B.locs B.cells B.slots ∧ Post A a v B ∧
      Steps p.tables e below (doInvoke e (A.U.setTop g) [] mk a).1 (B.U.setTop { g with pc := g.pc + len, stack := v.toList ++ g.stack })) ∨
    (∃ (q : Addr) (B : Pt), Stand p l e R s m sargs below meth c B.U B.locs B.cells B.slots ∧ PostX A a q B ∧
      Steps p.tables e below (doInvoke e (A.U.setTop g) [] mk a).1 ((B.U.setTop g).pushFrame (.throwing q)))
section Payer
variable {l : Launch} {R : Room} {p : Program} {e : Env} {below : List Frame} {s : State} {sargs : Array Value} {y : MethodName} {len W9 : Nat}
theorem vx_back {ws : List Cond} {rm : Room} {Pc : Array Value → State → Prop} {Qc : Array Value → State → Outcome → State → Prop} {XC : String → State → State → Prop} {mc ms : Nat} {free : Addr → Prop} {bytes : ByteArray} {maxL : Nat} {ret : Option FieldType}
    (hM : vx_Met l y ws rm Pc Qc XC mc ms free) (hblind : FrameBlind Pc) (hrc : rm.cells = mc) (hrs : rm.slots = ms)
    (hframes : rm.frames + 1 ≤ R.frames) (hlocals : W9 + (maxL + 11) + rm.locals ≤ R.locals)
    (hws : ∀ w ∈ ws, ∀ a' U, s.WarmedH U.vm → w.before a' U = true) (hcode : Cond.code y bytes maxL ret ∈ ws) (hinit : ∀ a' U, s.WarmedH U.vm → (Cond.initialized y.cls).before a' U = true) :
    vx_Back l R p e below s sargs y len W9 (PreOf R mc ms Pc) (PostOf Qc mc ms free) (vx_Post XC mc ms free) := by
  intro m meth c A g ig mk a X hg hsize hdg hW hn hp
  have h1 : (headSpec ws rm).pre.before a A.U = true := atoms_intro fun w hw => hws w hw _ _ X.warmed
  have h2 : (Cond.code y bytes maxL ret).before a A.U = true := hws _ hcode _ _ X.warmed
  have h3 : (Cond.initialized y.cls).before a A.U = true := hinit _ _ X.warmed
  have h4 : A.cells + (headSpec ws rm).room.cells ≤ R.cells := by rw [show (headSpec ws rm).room.cells = mc from hrc]; exact hp.1
  have h5 : A.slots + (headSpec ws rm).room.slots ≤ R.slots := by rw [show (headSpec ws rm).room.slots = ms from hrs]; exact hp.2.1
  have hPc : Pc a (A.U.calling g mk a) := hblind _ _ _ _ hp.2.2
  obtain ⟨U, Ls, c0, s0⟩ := A
  dsimp only [Pt.U, Pt.locs, Pt.cells, Pt.slots] at h1 h2 h3 h4 h5 X hn hPc ⊢
  obtain ⟨methY, cY, hmY, hcY, -, hlY, -, -, -, -⟩ := Cond.code_spec hn h2
  obtain ⟨kY, hkY, -⟩ := className_of_methodNamed hn
  have hinitY : kY.init = .initialized := Cond.initialized_spec (findClass_of_methodNamed hn) hkY h3
  have h : At U g.method c below := by rw [hg]; exact X.here
  have hlocals9 : W9 + (maxL + 11) + (headSpec ws rm).room.locals ≤ R.locals := hlocals
  have happ : (headSpec ws rm).appliesLoose y e.platform (U.calling g mk a) = true :=
    Spec.appliesLoose_calling (g := g) h hdg hn hkY hinitY
      (X.room_calling (g := g) (R' := (headSpec ws rm).room) hsize hmY hcY hframes (by rw [hlY]; omega) h4 h5) h1
  obtain ⟨mid, hmid⟩ := h.above
  have hfr : (U.setTop g).frames = (.java g :: mid) ++ below := by rw [State.frames_setTop' g h.top, hmid]; rfl
  obtain ⟨o, s₂, hsteps, -, hend, hq⟩ := Steps.callFree hM p X.admits X.cas X.clock (acts := []) hfr happ hPc trivial
  have hq' : vx_Q Qc XC mc ms free a (U.calling g mk a) o s₂ := hq
  rw [State.frames_setTop' g h.top] at hend
  obtain ⟨g₀, hg0⟩ := Option.isSome_iff_exists.mp h.top
  obtain ⟨r, hr⟩ := State.topJava?_eq_some.mp hg0
  have hr' : (({ U with heap := s₂.heap, slotsUsed := s₂.slotsUsed } : State).setVm s₂.vm).frames = .java g₀ :: r := hr
  rcases hq' with ⟨hqc, L, hfe, hL⟩ | ⟨q, rfl, E, ce, L, hx, hce, hcv, hcl, hW₂, hsm, hL⟩
  · obtain ⟨⟨v, rfl⟩, hW₂, e2, q2, q3, q4, q5, q6⟩ := id hfe
    have e3 : s₂ = ({ (U.calling g mk a).setFrames s₂.frames with heap := s₂.heap, slotsUsed := s₂.slotsUsed } : State).setVm s₂.vm := by
      have : s₂ = ({ s₂ with vm := (U.calling g mk a).vm } : State).setVm s₂.vm := rfl
      rw [e2] at this
      exact this
    obtain ⟨c₂, i₂, len₂, hc₂, hd₂, hf₂⟩ := hend
    have hW' : U.WarmedH s₂.vm := hW₂
    have hcc : c₂ = c := by
      have h1 : s₂.code? g.method = U.code? g.method := by
        rw [State.code?_eq, State.code?_eq, hW'.alike.method?]
      exact Option.some.inj (hc₂.symm.trans (h1.trans h.code))
    subst hcc
    have hlen : len₂ = len := by rw [hdg] at hd₂; cases hd₂; rfl
    subst hlen
    have hs₂ : s₂ = (({ U with heap := s₂.heap, slotsUsed := s₂.slotsUsed } : State).setVm s₂.vm).setTop { g with pc := g.pc + len₂, stack := v.toList ++ g.stack } := by
      refine e3.trans ?_
      rw [hf₂, State.calling_eq h.top, State.setFrames_setFrames, State.setTop_of_frames _ hr', hr]
      rfl
    have hsame : U.sameButNew ({ U with heap := s₂.heap, slotsUsed := s₂.slotsUsed } : State) L mc ms := by
      refine ⟨?_, q2, q3, q4, q5, q6⟩
      obtain ⟨t, ht, -⟩ := State.frames_cons hr
      show ({ U with heap := s₂.heap, slotsUsed := s₂.slotsUsed } : State) = { U.setFrames U.frames with heap := s₂.heap, slotsUsed := s₂.slotsUsed }
      rw [State.setFrames_self ht]
    subst hg
    refine Or.inl ⟨v, ⟨(({ U with heap := s₂.heap, slotsUsed := s₂.slotsUsed } : State).setVm s₂.vm), Ls ++ L, c0 + mc, s0 + ms⟩,
      ⟨X.admits, X.cas, X.clock, X.frames, X.room, X.hears, X.method, X.code, (X.here.setHeapUsed s₂.heap s₂.slotsUsed).setVm hW'.alike, X.tail, State.WarmedH.trans X.warmed hW', X.limits, X.bytes, X.same.trans (hsame.setVm s.vm)⟩,
      ⟨g, mk, s₂, L, rfl, rfl, hqc, rfl, hL, rfl, rfl⟩, ?_⟩
    show Steps p.tables e below _ ((({ U with heap := s₂.heap, slotsUsed := s₂.slotsUsed } : State).setVm s₂.vm).setTop { g with pc := g.pc + len₂, stack := v.toList ++ g.stack })
    rw [← hs₂]
    exact hsteps
  · obtain ⟨e2, q2, q3, q4, q5, q6⟩ := id hsm
    have e3 : s₂ = ({ (U.calling g mk a).setFrames s₂.frames with heap := s₂.heap, slotsUsed := s₂.slotsUsed } : State).setVm s₂.vm := by
      have : s₂ = ({ s₂ with vm := (U.calling g mk a).vm } : State).setVm s₂.vm := rfl
      rw [e2] at this
      exact this
    have hf₂ : s₂.frames = .throwing q :: .java g :: U.frames.tail := hend
    have hW' : U.WarmedH s₂.vm := hW₂
    have hs₂ : s₂ = ((({ U with heap := s₂.heap, slotsUsed := s₂.slotsUsed } : State).setVm s₂.vm).setTop g).pushFrame (.throwing q) := by
      refine e3.trans ?_
      rw [hf₂, State.calling_eq h.top, State.setFrames_setFrames, State.pushFrame, State.frames_setTop _ hr', State.setTop_of_frames _ hr', State.setFrames_setFrames, hr]
      rfl
    have hsame : U.sameButNew ({ U with heap := s₂.heap, slotsUsed := s₂.slotsUsed } : State) L mc ms := by
      refine ⟨?_, q2, q3, q4, q5, q6⟩
      obtain ⟨t, ht, -⟩ := State.frames_cons hr
      show ({ U with heap := s₂.heap, slotsUsed := s₂.slotsUsed } : State) = { U.setFrames U.frames with heap := s₂.heap, slotsUsed := s₂.slotsUsed }
      rw [State.setFrames_self ht]
    subst hg
    refine Or.inr ⟨q, ⟨(({ U with heap := s₂.heap, slotsUsed := s₂.slotsUsed } : State).setVm s₂.vm), Ls ++ L, c0 + mc, s0 + ms⟩,
      ⟨X.admits, X.cas, X.clock, X.frames, X.room, X.hears, X.method, X.code, (X.here.setHeapUsed s₂.heap s₂.slotsUsed).setVm hW'.alike, X.tail, State.WarmedH.trans X.warmed hW', X.limits, X.bytes, X.same.trans (hsame.setVm s.vm)⟩,
      ⟨g, mk, s₂, L, E, ce, rfl, rfl, hx, hce, hcv, hcl, rfl, hL, rfl, rfl⟩, ?_⟩
    show Steps p.tables e below _ (((({ U with heap := s₂.heap, slotsUsed := s₂.slotsUsed } : State).setVm s₂.vm).setTop g).pushFrame (.throwing q))
    rw [← hs₂]
    exact hsteps
end Payer
section Calls
variable {p : Program} {l : Launch} {e : Env} {R : Room} {s : State} {m : MethodId} {args : Array Value} {below : List Frame} {meth : Method} {c : Code} {T : State} {locs : List Loc} {cells slots : Nat}
theorem vx_callV (X : Stand p l e R s m args below meth c T locs cells slots) (hexec : p.tables.exec = Jvm.exec) {own C : String} {index : Nat} {y : MethodName} {bytes : ByteArray} {maxL : Nat} {ret : Option FieldType}
    (hown : s.vm.findClass own = some m.cls) (hlink : (Cond.methodLink own index y).before args s = true) (hinst : (Cond.instanceMethod y).before args s = true) (hsel : (Cond.selects C y y).before args s = true)
    (hcode : (Cond.code y bytes maxL ret).before args s = true) (hy : y.cls ≠ "java/lang/invoke/MethodHandle" ∧ y.cls ≠ "java/lang/invoke/VarHandle")
    {W9 : Nat} {Pre : Pt → Array Value → Prop} {Post : Pt → Array Value → Option Value → Pt → Prop} {PostX : Pt → Array Value → Addr → Pt → Prop} (hK : vx_Back l R p e below s args y 3 W9 Pre Post PostX)
    {b : Addr} {cellB : Cell} (hcell : T.heap[b]? = some cellB) (hobj : cellB.vm.isStatics = false) (hcls : s.vm.findClass C = some cellB.cls)
    {g : JFrame} (hg : g.method = m) (hsize : g.locals.size = c.maxLocals) {argsL rest : List Value} (hlen : ∀ sig, parseMethodDescriptor y.desc = some sig → argsL.length = sig.parameters.length)
    (hstack : g.stack = argsL.reverse ++ .ref b :: rest) (hW : 2 * g.monitorRoom + (rest.map fun v => v.category).sum ≤ W9) (hdg : decode c.code g.pc = .ok (.invokevirtual index, 3))
    (hpre : ∀ vm₁, s.WarmedH vm₁ → Pre ⟨T.setVm vm₁, locs, cells, slots⟩ (Value.ref b :: argsL).toArray) :
    (∃ (v : Option Value) (vm₁ : Vm) (B : Pt), s.WarmedH vm₁ ∧ Stand p l e R s m args below meth c B.U B.locs B.cells B.slots ∧ Post ⟨T.setVm vm₁, locs, cells, slots⟩ (Value.ref b :: argsL).toArray v B ∧
      ∀ target, Steps p.tables e below (B.U.setTop { g with pc := g.pc + 3, stack := v.toList ++ rest }) target → Steps p.tables e below (T.setTop g) target) ∨
    (∃ (q : Addr) (vm₁ : Vm) (B : Pt), s.WarmedH vm₁ ∧ Stand p l e R s m args below meth c B.U B.locs B.cells B.slots ∧ PostX ⟨T.setVm vm₁, locs, cells, slots⟩ (Value.ref b :: argsL).toArray q B ∧
      Steps p.tables e below (T.setTop g) ((B.U.setTop { g with stack := rest }).pushFrame (.throwing q))) := by
  obtain ⟨mk, methM, hnamed, hmethM, hstM, habM⟩ := Cond.instanceMethod_spec hinst
  obtain ⟨methM', cM, hmethM', -, -, -, -, -, -, hsigM⟩ := Cond.code_spec hnamed hcode
  cases hmethM.symm.trans hmethM'
  obtain ⟨c2, r2, m2, q1, q2, q3, q4, kP, hkP, hkPi⟩ := Cond.selects_spec hsel
  cases hcls.symm.trans q1
  cases (State.methodFound?_of_named hnamed hy).symm.trans q2
  cases hnamed.symm.trans q3
  have hselP : selectMethod e.platform s.vm cellB.cls mk = .method mk := by rw [Launch.admits_selectMethod X.admits]; exact q4
  obtain ⟨vm₁, X₁, hstep₁⟩ := X.invokevirtual hexec hown hlink hnamed hmethM hstM hkP hkPi hy (a := b) (cell := cellB) hcell
    (fun z h => by rw [h] at hobj; cases hobj) hselP hmethM habM hkP hkPi (g := g) hg (argsL := argsL) (rest := rest) (hlen _ hsigM) hstack hdg
  rcases hK m meth c ⟨T.setVm vm₁, locs, cells, slots⟩ { g with stack := rest } (.invokevirtual index) mk (Value.ref b :: argsL).toArray X₁ hg hsize hdg hW (X₁.named hnamed) (hpre vm₁ X₁.warmed) with ⟨v, B, X', hpost, hsteps⟩ | ⟨q, B, X', hpost, hsteps⟩
  · exact Or.inl ⟨v, vm₁, B, X₁.warmed, X', hpost, fun target h => hstep₁ _ fun acts => by rw [doInvoke_state]; exact hsteps.trans h⟩
  · exact Or.inr ⟨q, vm₁, B, X₁.warmed, X', hpost, hstep₁ _ fun acts => by rw [doInvoke_state]; exact hsteps⟩
theorem vx_callS (X : Stand p l e R s m args below meth c T locs cells slots) (hexec : p.tables.exec = Jvm.exec) {own : String} {index : Nat} {y : MethodName} {bytes : ByteArray} {maxL : Nat} {ret : Option FieldType}
    (hown : s.vm.findClass own = some m.cls) (hlink : (Cond.methodLink own index y).before args s = true) (hstat : (Cond.static y).before args s = true) (hinit : (Cond.initialized y.cls).before args s = true)
    (hcode : (Cond.code y bytes maxL ret).before args s = true) (hy : y.cls ≠ "java/lang/invoke/MethodHandle" ∧ y.cls ≠ "java/lang/invoke/VarHandle")
    {W9 : Nat} {Pre : Pt → Array Value → Prop} {Post : Pt → Array Value → Option Value → Pt → Prop} {PostX : Pt → Array Value → Addr → Pt → Prop} (hK : vx_Back l R p e below s args y 3 W9 Pre Post PostX)
    {g : JFrame} (hg : g.method = m) (hsize : g.locals.size = c.maxLocals) {argsL rest : List Value} (hlen : ∀ sig, parseMethodDescriptor y.desc = some sig → argsL.length = sig.parameters.length)
    (hstack : g.stack = argsL.reverse ++ rest) (hW : 2 * g.monitorRoom + (rest.map fun v => v.category).sum ≤ W9) (hdg : decode c.code g.pc = .ok (.invokestatic index, 3))
    (hpre : ∀ vm₁, s.WarmedH vm₁ → Pre ⟨T.setVm vm₁, locs, cells, slots⟩ argsL.toArray) :
    (∃ (v : Option Value) (vm₁ : Vm) (B : Pt), s.WarmedH vm₁ ∧ Stand p l e R s m args below meth c B.U B.locs B.cells B.slots ∧ Post ⟨T.setVm vm₁, locs, cells, slots⟩ argsL.toArray v B ∧
      ∀ target, Steps p.tables e below (B.U.setTop { g with pc := g.pc + 3, stack := v.toList ++ rest }) target → Steps p.tables e below (T.setTop g) target) ∨
    (∃ (q : Addr) (vm₁ : Vm) (B : Pt), s.WarmedH vm₁ ∧ Stand p l e R s m args below meth c B.U B.locs B.cells B.slots ∧ PostX ⟨T.setVm vm₁, locs, cells, slots⟩ argsL.toArray q B ∧
      Steps p.tables e below (T.setTop g) ((B.U.setTop { g with stack := rest }).pushFrame (.throwing q))) := by
  obtain ⟨mk, hnamed⟩ := Cond.code_named hcode
  obtain ⟨methM, cM, hmethM, -, -, -, -, -, -, hsigM⟩ := Cond.code_spec hnamed hcode
  have hstatic : methM.isStatic = true := Cond.static_spec hnamed hmethM hstat
  obtain ⟨kP, hkP, -⟩ := className_of_methodNamed hnamed
  have hinitP : kP.init = .initialized := Cond.initialized_spec (findClass_of_methodNamed hnamed) hkP hinit
  obtain ⟨vm₁, X₁, hstep₁⟩ := X.invokestatic hexec hown hlink hnamed hmethM hstatic hkP hinitP hy (g := g) hg (argsL := argsL) (rest := rest) (hlen _ hsigM) hstack hdg
  rcases hK m meth c ⟨T.setVm vm₁, locs, cells, slots⟩ { g with stack := rest } (.invokestatic index) mk argsL.toArray X₁ hg hsize hdg hW (X₁.named hnamed) (hpre vm₁ X₁.warmed) with ⟨v, B, X', hpost, hsteps⟩ | ⟨q, B, X', hpost, hsteps⟩
  · exact Or.inl ⟨v, vm₁, B, X₁.warmed, X', hpost, fun target h => hstep₁ _ fun acts => by rw [doInvoke_state]; exact hsteps.trans h⟩
  · exact Or.inr ⟨q, vm₁, B, X₁.warmed, X', hpost, hstep₁ _ fun acts => by rw [doInvoke_state]; exact hsteps⟩
end Calls
theorem vx_cls {s : State} {T : State} {vm₁ : Vm} {E : String} {k : ClassId} (hW : s.WarmedH vm₁) (h : (T.setVm vm₁).vm.findClass E = some k) : s.vm.findClass E = some k := by
  have h1 : vm₁.findClass E = some k := h
  rw [hW.alike.findClass] at h1
  exact h1
/-- the method's frame g, with q thrown over it -/
def vx_W (p : Program) (l : Launch) (e : Env) (R : Room) (s : State) (m : MethodId) (args : Array Value) (below : List Frame) (meth : Method) (c : Code) (H : Heap) (locs : List Loc) (cells slots : Nat) (Q : State → Prop) (g : JFrame) (q : Addr) : Prop :=
  ∀ T : State, T.heap = H → Stand p l e R s m args below meth c T locs cells slots → ∃ t, Steps p.tables e below ((T.setTop g).pushFrame (.throwing q)) t ∧ Q t
def vx_Run (p : Program) (l : Launch) (e : Env) (R : Room) (s : State) (m : MethodId) (args : Array Value) (below : List Frame) (meth : Method) (c : Code) (H : Heap) (locs : List Loc) (cells slots mc ms : Nat) (g : JFrame) (rest : List Value) (Qa : State → Outcome → State → Prop) (XC : String → State → State → Prop) (free : Addr → Prop) : Prop :=
  ∀ T : State, T.heap = H → Stand p l e R s m args below meth c T locs cells slots →
    (∃ (v : Option Value) (st₀ t T' : State) (L : List Loc), st₀.heap = H ∧ Stand p l e R s m args below meth c T' (locs ++ L) (cells + mc) (slots + ms) ∧ (∀ q ∈ L, free q.base) ∧ T'.heap = t.heap ∧ T'.vm = t.vm ∧ Qa st₀ (.returned v) t ∧
      Goes p e below T g T' { g with pc := g.pc + 3, stack := v.toList ++ rest }) ∨
    (∃ (q : Addr) (st₀ t T' : State) (L : List Loc) (E : String) (ce : Cell), st₀.heap = H ∧ Stand p l e R s m args below meth c T' (locs ++ L) (cells + mc) (slots + ms) ∧ (∀ z ∈ L, free z.base) ∧ T'.heap = t.heap ∧ T'.vm = t.vm ∧ XC E st₀ t ∧ t.heap[q]? = some ce ∧ ce.vm = .none ∧ s.vm.findClass E = some ce.cls ∧
      Steps p.tables e below (T.setTop g) ((T'.setTop { g with stack := rest }).pushFrame (.throwing q)))
def vx_X {S : Type} (px : S → Prop) (B : String → S → State → Prop) (A : Nat → Prop) : String → State → State → Prop := fun E st t => ∃ u : S, px u ∧ B E u t ∧ va_F A st t
section Runs
variable {p : Program} {l : Launch} {e : Env} {R : Room} {s : State} {m : MethodId} {args : Array Value} {below : List Frame} {meth : Method} {c : Code} {H : Heap} {locs : List Loc} {cells slots : Nat}
variable {y : MethodName} {bytes cc : ByteArray} {maxL nL mc ms n index : Nat} {ret : Option FieldType} {ws : List Cond} {rm : Room} {Pc : Array Value → State → Prop} {Qc : Array Value → State → Outcome → State → Prop} {XC : String → State → State → Prop} {free : Addr → Prop} {Ts : List Cond} {own C : String} {b : Addr} {As rest : List Value} {g : JFrame}
theorem vx_callBack (cb : CallB R s args own index y bytes maxL ret ws rm mc ms n) (hM : vx_Met l y ws rm Pc Qc XC mc ms free) (hbl : FrameBlind Pc) : vx_Back l R p e below s args y 3 8 (PreOf R mc ms Pc) (PostOf Qc mc ms free) (vx_Post XC mc ms free) := by
  obtain ⟨hrc, hrs, hfr, hlo, hws, hcw, -, hini, -⟩ := cb
  exact vx_back (bytes := bytes) (maxL := maxL) (ret := ret) hM hbl hrc hrs hfr hlo hws hcw (fun a' U hW => word_at hW (Or.inl (by first | rfl | simp [Cond.onTables, Cond.keeps, Cond.steady])) hini)
theorem vx_runV (S : CallFix p m c cc nL s args Ts own) (hM : vx_Met l y ws rm Pc Qc XC mc ms free) (cw : CallW R s args own C index y bytes maxL ret ws rm mc ms n) (hp : PreV s H C b Pc As)
    (hg : g.method = m) (hn : As.length = n) (hsize : g.locals.size = nL) (hstack : g.stack = As.reverse ++ .ref b :: rest) (hW : 2 * g.monitorRoom + (rest.map fun v => v.category).sum ≤ 8) (hdg : decode cc g.pc = .ok (.invokevirtual index, 3)) (hf : cells + mc ≤ R.cells ∧ slots + ms ≤ R.slots) :
    vx_Run p l e R s m args below meth c H locs cells slots mc ms g rest (Qc (Value.ref b :: As).toArray) XC free := by
  have hK : vx_Back l R p e below s args y 3 8 (PreOf R mc ms Pc) (PostOf Qc mc ms free) (vx_Post XC mc ms free) := vx_callBack cw.1 hM hp.1
  obtain ⟨⟨-, -, -, -, -, -, hcode, -, hy, hlen, hl⟩, hin, hse⟩ := cw
  obtain ⟨hx, hb, hml, ho, -⟩ := S
  obtain ⟨-, ⟨cellB, hcB, hoB, hclB⟩, hPc⟩ := hp
  intro T hT X
  rcases vx_callV X hx (C := C) (bytes := bytes) (maxL := maxL) (ret := ret) ho hl hin hse hcode hy hK (by rw [hT]; exact hcB) hoB hclB hg (hsize.trans hml.symm) (argsL := As) (rest := rest) (fun sig h => hn.trans (hlen sig h)) hstack hW (by rw [hb]; exact hdg)
    (fun vm₁ hW₁ => ⟨hf.1, hf.2, hPc (T.setVm vm₁) hT hW₁⟩) with ⟨v, vm₁, ⟨U', l2, c2, s2⟩, hW₁, X', ⟨g', mk, t, L, e1, e2, hq, h1, hL, h2, h3⟩, st⟩ | ⟨q, vm₁, ⟨U', l2, c2, s2⟩, hW₁, X', ⟨g', mk, t, L, E, ce, e1, e2, hq, hce, hcv, hcl, h1, hL, h2, h3⟩, st⟩
  · dsimp only [Pt.U, Pt.locs, Pt.cells, Pt.slots] at X' e1 e2 h1 h2 h3 st
    subst h1; subst h2; subst h3
    exact Or.inl ⟨v, (T.setVm vm₁).calling g' mk (Value.ref b :: As).toArray, t, U', L, hT, X', hL, e1, e2, hq, st⟩
  · dsimp only [Pt.U, Pt.locs, Pt.cells, Pt.slots] at X' e1 e2 h1 h2 h3 st hcl
    subst h1; subst h2; subst h3
    exact Or.inr ⟨q, (T.setVm vm₁).calling g' mk (Value.ref b :: As).toArray, t, U', L, E, ce, hT, X', hL, e1, e2, hq, hce, hcv, vx_cls hW₁ hcl, st⟩
theorem vx_runS (S : CallFix p m c cc nL s args Ts own) (hM : vx_Met l y ws rm Pc Qc XC mc ms free) (cw : CallB R s args own index y bytes maxL ret ws rm mc ms n ∧ (Cond.static y).before args s = true) (hp : PreS s H Pc As)
    (hg : g.method = m) (hn : As.length = n) (hsize : g.locals.size = nL) (hstack : g.stack = As.reverse ++ rest) (hW : 2 * g.monitorRoom + (rest.map fun v => v.category).sum ≤ 8) (hdg : decode cc g.pc = .ok (.invokestatic index, 3)) (hf : cells + mc ≤ R.cells ∧ slots + ms ≤ R.slots) :
    vx_Run p l e R s m args below meth c H locs cells slots mc ms g rest (Qc As.toArray) XC free := by
  have hK : vx_Back l R p e below s args y 3 8 (PreOf R mc ms Pc) (PostOf Qc mc ms free) (vx_Post XC mc ms free) := vx_callBack cw.1 hM hp.1
  obtain ⟨⟨-, -, -, -, -, -, hcode, hini, hy, hlen, hl⟩, hstt⟩ := cw
  obtain ⟨hx, hb, hml, ho, -⟩ := S
  intro T hT X
  rcases vx_callS X hx (bytes := bytes) (maxL := maxL) (ret := ret) ho hl hstt hini hcode hy hK hg (hsize.trans hml.symm) (argsL := As) (rest := rest) (fun sig h => hn.trans (hlen sig h)) hstack hW (by rw [hb]; exact hdg)
    (fun vm₁ hW₁ => ⟨hf.1, hf.2, hp.2 (T.setVm vm₁) hT hW₁⟩) with ⟨v, vm₁, ⟨U', l2, c2, s2⟩, hW₁, X', ⟨g', mk, t, L, e1, e2, hq, h1, hL, h2, h3⟩, st⟩ | ⟨q, vm₁, ⟨U', l2, c2, s2⟩, hW₁, X', ⟨g', mk, t, L, E, ce, e1, e2, hq, hce, hcv, hcl, h1, hL, h2, h3⟩, st⟩
  · dsimp only [Pt.U, Pt.locs, Pt.cells, Pt.slots] at X' e1 e2 h1 h2 h3 st
    subst h1; subst h2; subst h3
    exact Or.inl ⟨v, (T.setVm vm₁).calling g' mk As.toArray, t, U', L, hT, X', hL, e1, e2, hq, st⟩
  · dsimp only [Pt.U, Pt.locs, Pt.cells, Pt.slots] at X' e1 e2 h1 h2 h3 st hcl
    subst h1; subst h2; subst h3
    exact Or.inr ⟨q, (T.setVm vm₁).calling g' mk As.toArray, t, U', L, E, ce, hT, X', hL, e1, e2, hq, hce, hcv, vx_cls hW₁ hcl, st⟩
end Runs
section Rows
variable {p : Program} {l : Launch} {e : Env} {R : Room} {s : State} {m : MethodId} {args : Array Value} {below : List Frame} {meth : Method} {c : Code} {H : Heap} {locs : List Loc} {cells slots : Nat} {Q : State → Prop}
variable {mc ms : Nat} {free : Addr → Prop} {A0 A1 : Nat → Prop} {H0 : Heap} {a : Array Value} {pc : Nat} {ls : Array Slot} {st0 rest : List Value}
theorem vx_keep {st₀ t T' : State} {L : List Loc} (h0 : st₀.heap = H) (e1 : T'.heap = t.heap) (hS : va_S A0 H0 H locs) (hA : ∀ q, q < H.size → A1 q → A0 q) (hf : ∀ q, free q → A0 q) (hL : ∀ q ∈ L, free q.base) (hF : va_F A1 st₀ t) :
    H.size ≤ T'.heap.size ∧ (∀ q : Nat, q < H.size → ¬ A1 q → T'.heap[q]? = H[q]?) ∧ va_S A0 H0 T'.heap (locs ++ L) := by
  obtain ⟨hz, hk⟩ := hF
  rw [h0] at hz hk
  exact ⟨by rw [e1]; exact hz, fun q h1 h2 => by rw [e1]; exact hk q h1 h2,
    ⟨Nat.le_trans hS.1 (by rw [e1]; exact hz), fun q h1 h2 => by rw [e1, hk q (Nat.lt_of_lt_of_le h1 hS.1) (fun z => h2 (hA q (Nat.lt_of_lt_of_le h1 hS.1) z))]; exact hS.2.1 q h1 h2, fun q hq => by
      rcases List.mem_append.mp hq with h | h
      · exact hS.2.2 q h
      · exact hf _ (hL q h)⟩⟩
theorem vx_calli {S SX : Type} {post : Int32 → S → Prop} {px : SX → Prop} {B : S → State → Prop} {BX : String → SX → State → Prop} {AX : Nat → Prop} (hr : vx_Run p l e R s m args below meth c H locs cells slots mc ms (F0 m pc ls st0) rest (va_Qi post B A1 a) (vx_X px BX AX) free) (hS : va_S A0 H0 H locs) (hA : ∀ q, q < H.size → A1 q → A0 q) (hf : ∀ q, free q → A0 q) (hAX : ∀ q, q < H.size → AX q → A0 q)
    (kx : ∀ (E : String) (ce : Cell) (q9 : Addr) (u : SX) (t : State) (H1 : Heap) (locs1 : List Loc), t.heap = H1 → s.vm.Alike t.vm → px u → BX E u t → H.size ≤ H1.size → (∀ q : Nat, q < H.size → ¬ AX q → H1[q]? = H[q]?) → va_S A0 H0 H1 locs1 → H1[q9]? = some ce → ce.vm = .none → s.vm.findClass E = some ce.cls → vx_W p l e R s m args below meth c H1 locs1 (cells + mc) (slots + ms) Q (F0 m pc ls rest) q9)
    (kk : ∀ (r : Int32) (u : S) (t : State) (H1 : Heap) (locs1 : List Loc), t.heap = H1 → s.vm.Alike t.vm → post r u → B u t → H.size ≤ H1.size → (∀ q : Nat, q < H.size → ¬ A1 q → H1[q]? = H[q]?) → va_S A0 H0 H1 locs1 → W p l e R s m args below meth c H1 locs1 (cells + mc) (slots + ms) Q (F0 m (pc + 3) ls (.int r :: rest))) : W p l e R s m args below meth c H locs cells slots Q (F0 m pc ls st0) := by
  intro T hT X
  rcases hr T hT X with ⟨v, st₀, t, T', L, h0, X', hL, e1, e2, ⟨⟨r, u, hv, hp, hb⟩, hF⟩, st⟩ | ⟨q, st₀, t, T', L, E, ce, h0, X', hL, e1, e2, ⟨u, hp, hb, hF⟩, hce, hcv, hcl, st⟩
  · cases hv
    obtain ⟨k1, k2, k3⟩ := vx_keep h0 e1 hS hA hf hL hF
    obtain ⟨t2, a1, b1⟩ := kk r u t T'.heap (locs ++ L) e1.symm (by rw [← e2]; exact X'.warmed.alike) hp hb k1 k2 k3 T' rfl X'
    exact ⟨t2, st t2 a1, b1⟩
  · obtain ⟨k1, k2, k3⟩ := vx_keep h0 e1 hS hAX hf hL hF
    obtain ⟨t2, a1, b1⟩ := kx E ce q u t T'.heap (locs ++ L) e1.symm (by rw [← e2]; exact X'.warmed.alike) hp hb k1 k2 k3 (by rw [e1]; exact hce) hcv hcl T' rfl X'
    exact ⟨t2, st.trans a1, b1⟩
theorem vx_calll {S SX : Type} {post : Int64 → S → Prop} {px : SX → Prop} {B : S → State → Prop} {BX : String → SX → State → Prop} {AX : Nat → Prop} (hr : vx_Run p l e R s m args below meth c H locs cells slots mc ms (F0 m pc ls st0) rest (va_Ql post B A1 a) (vx_X px BX AX) free) (hS : va_S A0 H0 H locs) (hA : ∀ q, q < H.size → A1 q → A0 q) (hf : ∀ q, free q → A0 q) (hAX : ∀ q, q < H.size → AX q → A0 q)
    (kx : ∀ (E : String) (ce : Cell) (q9 : Addr) (u : SX) (t : State) (H1 : Heap) (locs1 : List Loc), t.heap = H1 → s.vm.Alike t.vm → px u → BX E u t → H.size ≤ H1.size → (∀ q : Nat, q < H.size → ¬ AX q → H1[q]? = H[q]?) → va_S A0 H0 H1 locs1 → H1[q9]? = some ce → ce.vm = .none → s.vm.findClass E = some ce.cls → vx_W p l e R s m args below meth c H1 locs1 (cells + mc) (slots + ms) Q (F0 m pc ls rest) q9)
    (kk : ∀ (r : Int64) (u : S) (t : State) (H1 : Heap) (locs1 : List Loc), t.heap = H1 → s.vm.Alike t.vm → post r u → B u t → H.size ≤ H1.size → (∀ q : Nat, q < H.size → ¬ A1 q → H1[q]? = H[q]?) → va_S A0 H0 H1 locs1 → W p l e R s m args below meth c H1 locs1 (cells + mc) (slots + ms) Q (F0 m (pc + 3) ls (.long r :: rest))) : W p l e R s m args below meth c H locs cells slots Q (F0 m pc ls st0) := by
  intro T hT X
  rcases hr T hT X with ⟨v, st₀, t, T', L, h0, X', hL, e1, e2, ⟨⟨r, u, hv, hp, hb⟩, hF⟩, st⟩ | ⟨q, st₀, t, T', L, E, ce, h0, X', hL, e1, e2, ⟨u, hp, hb, hF⟩, hce, hcv, hcl, st⟩
  · cases hv
    obtain ⟨k1, k2, k3⟩ := vx_keep h0 e1 hS hA hf hL hF
    obtain ⟨t2, a1, b1⟩ := kk r u t T'.heap (locs ++ L) e1.symm (by rw [← e2]; exact X'.warmed.alike) hp hb k1 k2 k3 T' rfl X'
    exact ⟨t2, st t2 a1, b1⟩
  · obtain ⟨k1, k2, k3⟩ := vx_keep h0 e1 hS hAX hf hL hF
    obtain ⟨t2, a1, b1⟩ := kx E ce q u t T'.heap (locs ++ L) e1.symm (by rw [← e2]; exact X'.warmed.alike) hp hb k1 k2 k3 (by rw [e1]; exact hce) hcv hcl T' rfl X'
    exact ⟨t2, st.trans a1, b1⟩
theorem vx_callf {S SX : Type} {post : UInt32 → S → Prop} {px : SX → Prop} {B : S → State → Prop} {BX : String → SX → State → Prop} {AX : Nat → Prop} (hr : vx_Run p l e R s m args below meth c H locs cells slots mc ms (F0 m pc ls st0) rest (va_Qf post B A1 a) (vx_X px BX AX) free) (hS : va_S A0 H0 H locs) (hA : ∀ q, q < H.size → A1 q → A0 q) (hf : ∀ q, free q → A0 q) (hAX : ∀ q, q < H.size → AX q → A0 q)
    (kx : ∀ (E : String) (ce : Cell) (q9 : Addr) (u : SX) (t : State) (H1 : Heap) (locs1 : List Loc), t.heap = H1 → s.vm.Alike t.vm → px u → BX E u t → H.size ≤ H1.size → (∀ q : Nat, q < H.size → ¬ AX q → H1[q]? = H[q]?) → va_S A0 H0 H1 locs1 → H1[q9]? = some ce → ce.vm = .none → s.vm.findClass E = some ce.cls → vx_W p l e R s m args below meth c H1 locs1 (cells + mc) (slots + ms) Q (F0 m pc ls rest) q9)
    (kk : ∀ (r : UInt32) (u : S) (t : State) (H1 : Heap) (locs1 : List Loc), t.heap = H1 → s.vm.Alike t.vm → post r u → B u t → H.size ≤ H1.size → (∀ q : Nat, q < H.size → ¬ A1 q → H1[q]? = H[q]?) → va_S A0 H0 H1 locs1 → W p l e R s m args below meth c H1 locs1 (cells + mc) (slots + ms) Q (F0 m (pc + 3) ls (.float r :: rest))) : W p l e R s m args below meth c H locs cells slots Q (F0 m pc ls st0) := by
  intro T hT X
  rcases hr T hT X with ⟨v, st₀, t, T', L, h0, X', hL, e1, e2, ⟨⟨r, u, hv, hp, hb⟩, hF⟩, st⟩ | ⟨q, st₀, t, T', L, E, ce, h0, X', hL, e1, e2, ⟨u, hp, hb, hF⟩, hce, hcv, hcl, st⟩
  · cases hv
    obtain ⟨k1, k2, k3⟩ := vx_keep h0 e1 hS hA hf hL hF
    obtain ⟨t2, a1, b1⟩ := kk r u t T'.heap (locs ++ L) e1.symm (by rw [← e2]; exact X'.warmed.alike) hp hb k1 k2 k3 T' rfl X'
    exact ⟨t2, st t2 a1, b1⟩
  · obtain ⟨k1, k2, k3⟩ := vx_keep h0 e1 hS hAX hf hL hF
    obtain ⟨t2, a1, b1⟩ := kx E ce q u t T'.heap (locs ++ L) e1.symm (by rw [← e2]; exact X'.warmed.alike) hp hb k1 k2 k3 (by rw [e1]; exact hce) hcv hcl T' rfl X'
    exact ⟨t2, st.trans a1, b1⟩
theorem vx_calld {S SX : Type} {post : UInt64 → S → Prop} {px : SX → Prop} {B : S → State → Prop} {BX : String → SX → State → Prop} {AX : Nat → Prop} (hr : vx_Run p l e R s m args below meth c H locs cells slots mc ms (F0 m pc ls st0) rest (va_Qd post B A1 a) (vx_X px BX AX) free) (hS : va_S A0 H0 H locs) (hA : ∀ q, q < H.size → A1 q → A0 q) (hf : ∀ q, free q → A0 q) (hAX : ∀ q, q < H.size → AX q → A0 q)
    (kx : ∀ (E : String) (ce : Cell) (q9 : Addr) (u : SX) (t : State) (H1 : Heap) (locs1 : List Loc), t.heap = H1 → s.vm.Alike t.vm → px u → BX E u t → H.size ≤ H1.size → (∀ q : Nat, q < H.size → ¬ AX q → H1[q]? = H[q]?) → va_S A0 H0 H1 locs1 → H1[q9]? = some ce → ce.vm = .none → s.vm.findClass E = some ce.cls → vx_W p l e R s m args below meth c H1 locs1 (cells + mc) (slots + ms) Q (F0 m pc ls rest) q9)
    (kk : ∀ (r : UInt64) (u : S) (t : State) (H1 : Heap) (locs1 : List Loc), t.heap = H1 → s.vm.Alike t.vm → post r u → B u t → H.size ≤ H1.size → (∀ q : Nat, q < H.size → ¬ A1 q → H1[q]? = H[q]?) → va_S A0 H0 H1 locs1 → W p l e R s m args below meth c H1 locs1 (cells + mc) (slots + ms) Q (F0 m (pc + 3) ls (.double r :: rest))) : W p l e R s m args below meth c H locs cells slots Q (F0 m pc ls st0) := by
  intro T hT X
  rcases hr T hT X with ⟨v, st₀, t, T', L, h0, X', hL, e1, e2, ⟨⟨r, u, hv, hp, hb⟩, hF⟩, st⟩ | ⟨q, st₀, t, T', L, E, ce, h0, X', hL, e1, e2, ⟨u, hp, hb, hF⟩, hce, hcv, hcl, st⟩
  · cases hv
    obtain ⟨k1, k2, k3⟩ := vx_keep h0 e1 hS hA hf hL hF
    obtain ⟨t2, a1, b1⟩ := kk r u t T'.heap (locs ++ L) e1.symm (by rw [← e2]; exact X'.warmed.alike) hp hb k1 k2 k3 T' rfl X'
    exact ⟨t2, st t2 a1, b1⟩
  · obtain ⟨k1, k2, k3⟩ := vx_keep h0 e1 hS hAX hf hL hF
    obtain ⟨t2, a1, b1⟩ := kx E ce q u t T'.heap (locs ++ L) e1.symm (by rw [← e2]; exact X'.warmed.alike) hp hb k1 k2 k3 (by rw [e1]; exact hce) hcv hcl T' rfl X'
    exact ⟨t2, st.trans a1, b1⟩
theorem vx_callv {S SX : Type} {post : S → Prop} {px : SX → Prop} {B : S → State → Prop} {BX : String → SX → State → Prop} {AX : Nat → Prop} (hr : vx_Run p l e R s m args below meth c H locs cells slots mc ms (F0 m pc ls st0) rest (va_Qv post B A1 a) (vx_X px BX AX) free) (hS : va_S A0 H0 H locs) (hA : ∀ q, q < H.size → A1 q → A0 q) (hf : ∀ q, free q → A0 q) (hAX : ∀ q, q < H.size → AX q → A0 q)
    (kx : ∀ (E : String) (ce : Cell) (q9 : Addr) (u : SX) (t : State) (H1 : Heap) (locs1 : List Loc), t.heap = H1 → s.vm.Alike t.vm → px u → BX E u t → H.size ≤ H1.size → (∀ q : Nat, q < H.size → ¬ AX q → H1[q]? = H[q]?) → va_S A0 H0 H1 locs1 → H1[q9]? = some ce → ce.vm = .none → s.vm.findClass E = some ce.cls → vx_W p l e R s m args below meth c H1 locs1 (cells + mc) (slots + ms) Q (F0 m pc ls rest) q9)
    (kk : ∀ (u : S) (t : State) (H1 : Heap) (locs1 : List Loc), t.heap = H1 → s.vm.Alike t.vm → post u → B u t → H.size ≤ H1.size → (∀ q : Nat, q < H.size → ¬ A1 q → H1[q]? = H[q]?) → va_S A0 H0 H1 locs1 → W p l e R s m args below meth c H1 locs1 (cells + mc) (slots + ms) Q (F0 m (pc + 3) ls (rest))) : W p l e R s m args below meth c H locs cells slots Q (F0 m pc ls st0) := by
  intro T hT X
  rcases hr T hT X with ⟨v, st₀, t, T', L, h0, X', hL, e1, e2, ⟨⟨u, hv, hp, hb⟩, hF⟩, st⟩ | ⟨q, st₀, t, T', L, E, ce, h0, X', hL, e1, e2, ⟨u, hp, hb, hF⟩, hce, hcv, hcl, st⟩
  · cases hv
    obtain ⟨k1, k2, k3⟩ := vx_keep h0 e1 hS hA hf hL hF
    obtain ⟨t2, a1, b1⟩ := kk u t T'.heap (locs ++ L) e1.symm (by rw [← e2]; exact X'.warmed.alike) hp hb k1 k2 k3 T' rfl X'
    exact ⟨t2, st t2 a1, b1⟩
  · obtain ⟨k1, k2, k3⟩ := vx_keep h0 e1 hS hAX hf hL hF
    obtain ⟨t2, a1, b1⟩ := kx E ce q u t T'.heap (locs ++ L) e1.symm (by rw [← e2]; exact X'.warmed.alike) hp hb k1 k2 k3 (by rw [e1]; exact hce) hcv hcl T' rfl X'
    exact ⟨t2, st.trans a1, b1⟩
/-- caught by the row x of this method's table; the rows ahead don't take it -/
theorem vx_catch {own name : String} {E : String} {ce : Cell} {q : Addr} (hown : s.vm.findClass own = some m.cls) (pre : List ExceptionTableEntry) (x : ExceptionTableEntry) (suf : List ExceptionTableEntry) (hsplit : c.exceptionTable.toList = pre ++ x :: suf)
    (hpass : ∀ z ∈ pre, covers z pc = false ∨ (z.catchType ≠ 0 ∧ ∃ nm : String, (Cond.classLink own z.catchType nm).before args s = true ∧ va_Nc E nm s)) (hx : covers x pc = true) (h0 : x.catchType ≠ 0)
    (hlink : (Cond.classLink own x.catchType name).before args s = true) (hcast : (Cond.castable E name).before args s = true) (hcell : H[q]? = some ce) (hv : ce.vm = .none) (hcl : s.vm.findClass E = some ce.cls)
    (kk : W p l e R s m args below meth c H locs cells slots Q (F0 m x.handlerPc ls [.ref q])) : vx_W p l e R s m args below meth c H locs cells slots Q (F0 m pc ls rest) q := by
  intro T hT X
  have hpl : e.platform.magicAccessors = ({} : Platform).magicAccessors := by rw [X.admits.platform]
  obtain ⟨c3, c4, hc3, hc4, hasg⟩ := Cond.castable_spec hcast
  cases Option.some.inj (hc3.symm.trans hcl)
  obtain ⟨c5, hc5, hcl5⟩ := Cond.classLink_spec hown hlink e.platform hpl
  cases Option.some.inj (hc4.symm.trans hc5)
  obtain ⟨vm', X', st⟩ := X.thenCaughtThrough q (g := F0 m pc ls rest) rfl (Steps.refl _) (by rw [hT]; exact hcell) (by rw [hv]; rfl) (by obtain ⟨k9, h9, -⟩ := Vm.findClass_spec hcl; exact ⟨k9, h9⟩) pre x suf hsplit
    (fun z hz => by
      rcases hpass z hz with h | ⟨hz0, nm, hl1, hn1⟩
      · exact Or.inl h
      · obtain ⟨c6, hc6, hcl6⟩ := Cond.classLink_spec hown hl1 e.platform hpl
        obtain ⟨a8, b8, h1, h2, h3⟩ := hn1
        cases Option.some.inj (h1.symm.trans hcl)
        cases Option.some.inj (h2.symm.trans hc6)
        exact Or.inr ⟨hz0, _, hcl6, h3⟩) hx (Or.inr ⟨h0, c4, hcl5, hasg⟩)
  obtain ⟨t, a1, b1⟩ := kk (T.setVm vm') hT X'
  exact ⟨t, st.trans a1, b1⟩
end Rows
section Ends
variable {p : Program} {l : Launch} {e : Env} {R : Room} {s : State} {m : MethodId} {args : Array Value} {below : List Frame} {meth : Method} {c : Code} {H : Heap} {locs : List Loc} {cells slots : Nat} {Q : State → Prop}
variable {mc ms : Nat} {free : Addr → Prop} {A0 A1 : Nat → Prop} {H0 : Heap} {a : Array Value} {ls : Array Slot} {st0 rest : List Value}
variable {Qc : Array Value → State → Outcome → State → Prop} {XC : String → State → State → Prop}
/-- what a body that may throw owes at its end -/
def vx_MQ (below : List Frame) (Qc : Array Value → State → Outcome → State → Prop) (XC : String → State → State → Prop) (a : Array Value) (s : State) (mc ms : Nat) (free : Addr → Prop) : State → Prop := fun t =>
  ∃ o, t.status = .running ∧ Ended t below o ∧ vx_Q Qc XC mc ms free a s o t
theorem vx_ret {g : JFrame} {mc ms : Nat} (k : W p l e R s m args below meth c H locs cells slots (MQ below Qc args s mc ms free) g) : W p l e R s m args below meth c H locs cells slots (vx_MQ below Qc XC args s mc ms free) g := by
  intro T hT X
  obtain ⟨t, a1, o, b1, b2, b3, b4⟩ := k T hT X
  exact ⟨t, a1, o, b1, b2, Or.inl ⟨b3, b4⟩⟩
/-- not caught here: it goes on to the caller -/
theorem vx_widen {g : JFrame} {q : Addr} {k n : Nat} (h1 : cells ≤ k) (h2 : slots ≤ n) (kk : vx_W p l e R s m args below meth c H locs k n Q g q) : vx_W p l e R s m args below meth c H locs cells slots Q g q := fun T hT X => kk T hT (stand_widen X h1 h2)
theorem vx_out {pc : Nat} {E : String} {ce : Cell} {q : Addr} {mc ms : Nat} (hout : ∀ x ∈ c.exceptionTable.toList, covers x pc = false) (hlocks : meth.locks = false) (hcell : H[q]? = some ce) (hv : ce.vm = .none) (hcl : s.vm.findClass E = some ce.cls)
    (hx : ∀ t : State, t.heap = H → s.vm.Alike t.vm → XC E s t) (hf : ∀ z ∈ locs, free z.base) (hc : cells ≤ mc) (hs : slots ≤ ms) :
    vx_W p l e R s m args below meth c H locs cells slots (vx_MQ below Qc XC args s mc ms free) (F0 m pc ls rest) q := by
  intro T hT X
  obtain ⟨st1, hrun, hend, hW, hsm⟩ := X.leaveThrown q (g := F0 m pc ls rest) rfl rfl rfl hout hlocks
  have hcell9 : (T.setFrames (.throwing q :: below)).heap[q]? = some ce := by
    show T.heap[q]? = some ce
    rw [hT]; exact hcell
  exact ⟨_, st1, .threw q, hrun, hend, Or.inr ⟨q, rfl, E, ce, locs, hx _ hT hW.alike, hcell9, hv, hcl, hW, hsm.mono hc hs, hf⟩⟩
theorem vx_frame {U : State} {k n : Nat} (h : s.sameButNew ({ U with vm := s.vm } : State) locs k n) : s.heap.size ≤ U.heap.size ∧ ∀ q : Nat, q < s.heap.size → (∀ z ∈ locs, z.base ≠ q) → U.heap[q]? = s.heap[q]? := by
  obtain ⟨-, h2, -, -, -, h6⟩ := h
  refine ⟨h2, fun q hq hz => ?_⟩
  obtain ⟨c9, e1, e2, e3, e4⟩ := h6 q _ (Array.getElem?_eq_getElem hq)
  have hs : c9.slots = (s.heap[q]).slots := Array.ext_getElem? fun i => e4 i fun hm => hz _ hm rfl
  have h9 : c9 = s.heap[q] := by
    rw [hs] at e2
    exact e2
  have e5 : U.heap[q]? = some c9 := e1
  rw [e5, h9, Array.getElem?_eq_getElem hq]
/-- the words of a throw but the four that speak of the heap -/
def vx_no (w : Cond) : Bool := decide (w ≠ .isRef (.static Bundle.tN "UNASSIGNED_STACK" Bundle.steD)) && decide (w ≠ .isRef (.static Bundle.tN "SUPPRESSED_SENTINEL" Bundle.listD)) && decide (w ≠ .laysStatic Bundle.tN "UNASSIGNED_STACK" Bundle.steD) && decide (w ≠ .laysStatic Bundle.tN "SUPPRESSED_SENTINEL" Bundle.listD)
def vx_at0 (own : String) (ic : Nat) (X : String) (names : List String) : List Cond := (Bundle.ownAtoms0 own ic X names).filter vx_no
def vx_atS (own : String) (ic : Nat) (X : String) (names : List String) : List Cond := (Bundle.ownAtoms own ic X names).filter vx_no
/-- a word that the tables alone decide, or a good one -/
def vx_ot (w : Cond) : Bool := w.onTables || goodWord w
theorem vx_ot_at {args a' : Array Value} {s U : State} {w : Cond} (hW : s.WarmedH U.vm) (hvm : s.vm = U.vm) (hg : vx_ot w = true) (h : w.before args s = true) : w.before a' U = true := by
  simp only [vx_ot, Bool.or_eq_true] at hg
  rcases hg with hg | hg
  · exact va_tabs hg hvm h
  · exact word_at hW (good_of_word hg) h
/-- a list's words: the good ones out of the method's own list, the others by premises of their own -/
theorem vx_hat {args : Array Value} {s : State} {L B : List Cond} (h1 : ∀ w ∈ L.filter goodWord, w.before args s = true) (h2 : ∀ w ∈ L.filter (fun w => !goodWord w), w ∈ B) (h3 : ∀ w ∈ B, w.before args s = true) : ∀ w ∈ L, w.before args s = true := by
  intro w hw
  by_cases g : goodWord w = true
  · exact h1 w (List.mem_filter.mpr ⟨hw, g⟩)
  · refine h3 w (h2 w (List.mem_filter.mpr ⟨hw, ?_⟩))
    show (!goodWord w) = true
    cases hgw : goodWord w
    · rfl
    · exact absurd hgw g
theorem vx_c {args : Array Value} {s : State} {w : Cond} {B : List Cond} (h : w.before args s = true) (t : ∀ w ∈ B, w.before args s = true) : ∀ w' ∈ w :: B, w'.before args s = true := fun w' h' => (List.mem_cons.mp h').elim (fun e => by rw [e]; exact h) (t w')
theorem vx_n {args : Array Value} {s : State} : ∀ w ∈ ([] : List Cond), w.before args s = true := fun _ h => nomatch h
theorem vx_own {args : Array Value} {s : State} {L : List Cond} (h1 : ∀ w ∈ L.filter vx_no, w.before args s = true)
    (hU : (Cond.isRef (.static Bundle.tN "UNASSIGNED_STACK" Bundle.steD)).before args s = true) (hN : (Cond.isRef (.static Bundle.tN "SUPPRESSED_SENTINEL" Bundle.listD)).before args s = true)
    (lU : (Cond.laysStatic Bundle.tN "UNASSIGNED_STACK" Bundle.steD).before args s = true) (lN : (Cond.laysStatic Bundle.tN "SUPPRESSED_SENTINEL" Bundle.listD).before args s = true) : ∀ w ∈ L, w.before args s = true := by
  intro w hw
  by_cases e1 : w = .isRef (.static Bundle.tN "UNASSIGNED_STACK" Bundle.steD)
  · rw [e1]; exact hU
  · by_cases e2 : w = .isRef (.static Bundle.tN "SUPPRESSED_SENTINEL" Bundle.listD)
    · rw [e2]; exact hN
    · by_cases e3 : w = .laysStatic Bundle.tN "UNASSIGNED_STACK" Bundle.steD
      · rw [e3]; exact lU
      · by_cases e4 : w = .laysStatic Bundle.tN "SUPPRESSED_SENTINEL" Bundle.listD
        · rw [e4]; exact lN
        · exact h1 w (List.mem_filter.mpr ⟨hw, by unfold vx_no; rw [decide_eq_true e1, decide_eq_true e2, decide_eq_true e3, decide_eq_true e4]; rfl⟩)
/-- where a static field lies, its class's statics cell in H -/
def vx_L (C n d : String) (A : Nat → Prop) (U : State) (H : Heap) : Prop := ∃ (c : ClassId) (k : Class) (i : Nat) (f : Field) (a : Nat) (cell : Cell), U.vm.findClass C = some c ∧ U.fieldFound? C n d = some (c, k, i, f) ∧ f.isStatic = true ∧ k.statics = some a ∧ H[a]? = some cell ∧ cell.vm.isStatics = true ∧ cell.cls = c ∧ f.slot < cell.slots.size ∧ k.staticTypes[f.slot]? = some f.type ∧ ¬ A a
theorem vx_L.moved {C n d : String} {A : Nat → Prop} {u U : State} {H : Heap} (hvm : u.vm.Alike U.vm) (h : vx_L C n d A u H) : vx_L C n d A U H := by
  obtain ⟨c, k, i, f, a, cell, h1, h2, h3, h4, h5, h6, h7, h8, h9, h10⟩ := h
  obtain ⟨k', hi', he⟩ := State.fieldFound?_setVm hvm h2
  exact ⟨c, k', i, f, a, cell, by rw [hvm.findClass]; exact h1, hi', h3, by rw [he]; exact h4, h5, h6, h7, h8, by rw [he]; exact h9, h10⟩
theorem vx_L.kept {C n d : String} {A : Nat → Prop} {U : State} {H H1 : Heap} (h : vx_L C n d A U H) (hq : ∀ a : Nat, a < H.size → ¬ A a → H1[a]? = H[a]?) : vx_L C n d A U H1 := by
  obtain ⟨c, k, i, f, a, cell, h1, h2, h3, h4, h5, h6, h7, h8, h9, h10⟩ := h
  exact ⟨c, k, i, f, a, cell, h1, h2, h3, h4, by rw [hq a (Array.getElem?_eq_some_iff.mp h5).1 h10]; exact h5, h6, h7, h8, h9, h10⟩
theorem vx_L.narrow {C n d : String} {A B : Nat → Prop} {U : State} {H : Heap} (h : vx_L C n d A U H) (hAB : ∀ q, B q → A q) : vx_L C n d B U H := by
  obtain ⟨c, k, i, f, a, cell, h1, h2, h3, h4, h5, h6, h7, h8, h9, h10⟩ := h
  exact ⟨c, k, i, f, a, cell, h1, h2, h3, h4, h5, h6, h7, h8, h9, fun z => h10 (hAB _ z)⟩
theorem vx_L.word {C n d : String} {A : Nat → Prop} {s : State} {args : Array Value} (h : vx_L C n d A s s.heap) : (Cond.laysStatic C n d).before args s = true := by
  obtain ⟨c, k, i, f, a, cell, h1, h2, h3, h4, h5, h6, h7, h8, h9, -⟩ := h
  show (Cond.laysStatic C n d).holds args s none s [] = true
  exact Cond.laysStatic_of h1 h2 h3 h4 h5 h6 h7 h8 h9
/-- .. and what it holds: null or some reference -/
def vx_Zq (C n d : String) (A : Nat → Prop) (U : State) (H : Heap) : Prop := va_Zq C n d A U H ∧ vx_L C n d A U H
theorem vx_Zq.moved {C n d : String} {A : Nat → Prop} {u U : State} {H : Heap} (hvm : u.vm.Alike U.vm) (h : vx_Zq C n d A u H) : vx_Zq C n d A U H := ⟨va_Zq.moved hvm h.1, vx_L.moved hvm h.2⟩
theorem vx_Zq.kept {C n d : String} {A : Nat → Prop} {U : State} {H H1 : Heap} (h : vx_Zq C n d A U H) (hq : ∀ a : Nat, a < H.size → ¬ A a → H1[a]? = H[a]?) : vx_Zq C n d A U H1 := ⟨va_Zq.kept h.1 hq, vx_L.kept h.2 hq⟩
theorem vx_Zq.narrow {C n d : String} {A B : Nat → Prop} {U : State} {H : Heap} (h : vx_Zq C n d A U H) (hAB : ∀ q, B q → A q) : vx_Zq C n d B U H := ⟨va_Zq.narrow h.1 hAB, vx_L.narrow h.2 hAB⟩
theorem vx_Zqof {args : Array Value} {s : State} {C n d : String} {A : Nat → Prop} (hl : (Cond.laysStatic C n d).before args s = true) (hini : (Cond.initialized C).before args s = true) (h : (Cond.isRef (.static C n d)).before args s = true) (hA : ∀ a : Nat, a < s.heap.size → ¬ A a) : vx_Zq C n d A s s.heap := by
  refine ⟨va_Zqof hl hini h hA, ?_⟩
  obtain ⟨c, k, i, f, a, cell, h1, h2, h3, h4, h5, h6, h7, h8, h9⟩ := Cond.laysStatic_spec hl
  exact ⟨c, k, i, f, a, cell, h1, h2, h3, h4, h5, h6, h7, h8, h9, hA a (Array.getElem?_eq_some_iff.mp h5).1⟩
theorem vx_isRef {C n d : String} {v : Value} {A : Nat → Prop} {s : State} {args : Array Value} (h : va_Z C n d v A s s.heap) (hv : v.isRef = true) : (Cond.isRef (.static C n d)).before args s = true := by
  obtain ⟨cf, kf, fi, f, a, cell, h1, h2, h3, h4, h5, h6, h7, -⟩ := h
  have he : (Term.static C n d).eval args s none [] s = some v := by
    simp [Term.eval, State.fieldNamed?, h1, h2, h4, h5, h6, h7]
  simp only [Cond.before, Cond.holds, Cond.value, he]
  cases v <;> simp_all [Value.isRef]
theorem vx_isRefq {C n d : String} {A : Nat → Prop} {s : State} {args : Array Value} (h : va_Zq C n d A s s.heap) : (Cond.isRef (.static C n d)).before args s = true := by
  rcases h with h | ⟨t, h⟩
  · exact vx_isRef h rfl
  · exact vx_isRef h rfl
/-- the same frame, seen from here: as if the method were called anew in this heap -/
theorem vx_rebase {T : State} (X : Stand p l e R s m args below meth c T locs cells slots) {R' : Room} (hf : R'.frames ≤ R.frames) (hl : R'.locals ≤ R.locals) (hc : cells + R'.cells ≤ R.cells) (hs : slots + R'.slots ≤ R.slots) :
    Stand p l e R' ((T.setVm s.vm).setFrames (.invoking m args :: below)) m args below meth c T [] 0 0 := by
  have htop : (T.setVm s.vm).topJava?.isSome := X.here.top
  have hF : ((T.setVm s.vm).setFrames (.invoking m args :: below)).frames = .invoking m args :: below := State.frames_setFrames _ (State.cur_lt_of_top htop)
  obtain ⟨g₀, hg0⟩ := Option.isSome_iff_exists.mp htop
  obtain ⟨r, hr⟩ := State.topJava?_eq_some.mp hg0
  have hl9 : e.platform.stackLimits (T.setVm s.vm).me = e.platform.stackLimits s.me := X.limits
  have hb9 : (T.setVm s.vm).me.stackBytes = s.me.stackBytes := X.bytes
  refine ⟨X.admits, X.cas, X.clock, hF, ?_, X.hears, X.method, X.code, X.here, X.tail, X.warmed, ?_, ?_, ?_⟩
  · have h := X.room
    have hU : ((T.setVm s.vm).setFrames (.invoking m args :: below)).localsInUse = s.localsInUse := by
      rw [State.localsInUse_invoking hF (meth := meth) (c := c) X.method X.code, State.localsInUse_invoking X.frames X.method X.code]
    simp only [State.hasRoom, Bool.and_eq_true, decide_eq_true_eq] at h ⊢
    obtain ⟨⟨⟨⟨h1, h2, h3, h4, h5, h6⟩, h7⟩, h8⟩, h9⟩ := h
    rw [X.frames, List.length_cons] at h2 h3
    have q1 := X.heapSize
    have q2 := X.used
    simp only [hF, hU, List.length_cons, State.stackLimits_setFrames, State.stackBytes_setFrames, hl9, hb9]
    refine ⟨⟨⟨⟨by omega, by omega, by omega, by omega, by omega, h6⟩, ?_⟩, ?_⟩, X.book⟩
    · show T.heap.size + R'.cells ≤ e.platform.maxCells
      omega
    · show T.slotsUsed + R'.slots ≤ e.platform.maxSlots
      omega
  · rw [State.stackLimits_setFrames]; rfl
  · rw [State.stackBytes_setFrames]; rfl
  · refine ⟨?_, Nat.le_refl _, Nat.le_refl _, ?_, ?_, fun a c9 h9 => ⟨c9, h9, rfl, rfl, fun _ _ => rfl⟩⟩
    · obtain ⟨t, ht, -⟩ := State.frames_cons hr
      show T.setVm s.vm = { ((T.setVm s.vm).setFrames (.invoking m args :: below)).setFrames (T.setVm s.vm).frames with heap := T.heap, slotsUsed := T.slotsUsed }
      rw [State.setFrames_setFrames, State.setFrames_self ht]
      rfl
    · show T.slotsUsed = T.slotsUsed + ((T.heap.toList.drop T.heap.size).map (·.slots.size)).sum
      rw [List.drop_eq_nil_of_le (Nat.le_of_eq Array.length_toList)]
      rfl
    · show ((T.heap.toList.drop T.heap.size).map (·.slots.size)).sum ≤ 0
      rw [List.drop_eq_nil_of_le (Nat.le_of_eq Array.length_toList)]
      exact Nat.le_refl _
/-- 'throw new E()': new; dup; invokespecial; athrow -/
theorem vx_throw0 {cc : ByteArray} {pc : Nat} (hexec : p.tables.exec = Jvm.exec) (hb : c.code = cc) (hl : l.stackTraces = false) {own cls : String} {names : List String} {ik ic mc ms : Nat} {A : Nat → Prop}
    (hown : s.vm.findClass own = some m.cls) (hcls : Bundle.fit cls = true) (hnames : ∀ n ∈ names, Bundle.fit n = true)
    (hk : (Cond.classLink own ik cls).before args s = true) (hini : (Cond.initialized cls).before args s = true) (hat : ∀ w ∈ vx_at0 own ic cls names, w.before args s = true)
    (hgood : ∀ w ∈ Cond.classLink own ik cls :: Cond.initialized cls :: vx_at0 own ic cls names, vx_ot w = true)
    (hU : vx_Zq Bundle.tN "UNASSIGNED_STACK" Bundle.steD A s s.heap) (hN : vx_Zq Bundle.tN "SUPPRESSED_SENTINEL" Bundle.listD A s s.heap) (hS : va_S A s.heap H locs) (hsize : ls.size = c.maxLocals)
    (d0 : decode cc pc = .ok (.new ik, 3)) (d3 : decode cc (pc + 3) = .ok (.dup, 1)) (d4 : decode cc (pc + 4) = .ok (.invokespecial ic, 3)) (d7 : decode cc (pc + 7) = .ok (.athrow, 1))
    (hout : ∀ x ∈ c.exceptionTable.toList, covers x (pc + 7) = false)
    (hRframes : names.length + 3 < R.frames) (hRlocals : (rest.map fun v => v.category).sum + (13 * (names.length + 1) + 42) ≤ R.locals) (hRcells : cells + 1 ≤ R.cells) (hRslots : slots + 6 ≤ R.slots) (hlocks : meth.locks = false)
    (hx : ∀ t : State, s.vm.Alike t.vm → H.size ≤ t.heap.size → (∀ q : Nat, q < H.size → t.heap[q]? = H[q]?) → XC cls s t)
    (hf : ∀ z ∈ locs, free z.base) (hc : cells + 1 ≤ mc) (hs : slots + 6 ≤ ms) :
    W p l e R s m args below meth c H locs cells slots (vx_MQ below Qc XC args s mc ms free) (F0 m pc ls rest) := by
  intro T hT X
  have htr : e.platform.stackTraces = false := (show e.platform.stackTraces = l.stackTraces by rw [X.admits.platform]).trans hl
  have Y := vx_rebase X (R' := { frames := R.frames, locals := R.locals, cells := 1, slots := 6 }) (Nat.le_refl _) (Nat.le_refl _) hRcells hRslots
  obtain ⟨s', hA⟩ : ∃ z, z = (T.setVm s.vm).setFrames (.invoking m args :: below) := ⟨_, rfl⟩
  rw [← hA] at Y
  have hvm : s'.vm = s.vm := by rw [hA]; rfl
  have hhp : s'.heap = H := by rw [hA]; exact hT
  have hW0 : s.WarmedH s'.vm := by rw [hvm]; exact State.WarmedH.refl s
  have hat' : ∀ w ∈ vx_at0 own ic cls names, w.before args s' = true := fun w hw => vx_ot_at hW0 hvm.symm (hgood w (List.mem_cons_of_mem _ (List.mem_cons_of_mem _ hw))) (hat w hw)
  have hk' : (Cond.classLink own ik cls).before args s' = true := vx_ot_at hW0 hvm.symm (hgood _ List.mem_cons_self) hk
  have hini' : (Cond.initialized cls).before args s' = true := vx_ot_at hW0 hvm.symm (hgood _ (List.mem_cons_of_mem _ List.mem_cons_self)) hini
  have hU' : vx_Zq Bundle.tN "UNASSIGNED_STACK" Bundle.steD A s' s'.heap := by rw [hhp]; exact vx_Zq.moved hW0.alike (hU.kept hS.2.1)
  have hN' : vx_Zq Bundle.tN "SUPPRESSED_SENTINEL" Bundle.listD A s' s'.heap := by rw [hhp]; exact vx_Zq.moved hW0.alike (hN.kept hS.2.1)
  have h : ∀ w ∈ Bundle.ownAtoms0 own ic cls names, w.before args s' = true := vx_own hat' (vx_isRefq hU'.1) (vx_isRefq hN'.1) hU'.2.word hN'.2.word
  have hown' : s'.vm.findClass own = some m.cls := by rw [hvm]; exact hown
  have hins : (Cond.instantiable cls 6).before args s' = true := h _ (by simp [Bundle.ownAtoms0])
  obtain ⟨vm₁, cX, kX, hfX, hkX, -, -, X₁, st1⟩ := Y.newCold hexec (own := own) (C := cls) (index := ik) (n := 6) hown' hk' hins hini'
    (g := F0 m pc ls rest) rfl (by rw [hb]; exact d0) (Nat.le_refl _) (Nat.le_refl _)
  generalize hT1 : (T.setVm vm₁).pushCell { cls := cX, slots := kX.instanceTypes.map defaultValue, vm := .none } = T1 at X₁ st1
  have hcat : (Value.ref T.heap.size).category = 1 := rfl
  have hcellA : T1.heap[T.heap.size]? = some (freshCell cX kX) := by rw [← hT1]; exact State.heap_pushCell_size _ _
  have d3' : decode c.code (pc + 3) = .ok (.dup, 1) := by rw [hb]; exact d3
  obtain ⟨U, hsteps, hrun, hend, hW, hsame, ce, hce, hO⟩ := X₁.ctorThrow0 hexec htr (own := own) (cls := cls) (names := names) (ic := ic) hown' hcls hnames h (fun x hx => nomatch hx) hfX hkX hcellA (by rw [hhp, hT]; exact Nat.le_refl _)
    (g := { method := m, pc := pc + 4, locals := ls, stack := .ref T.heap.size :: .ref T.heap.size :: rest, locked := none }) rfl hsize rfl rfl (rest := rest) rfl
    (by rw [hb]; exact d4) (by rw [hb]; exact d7) hout hRframes (by simp only [List.map_cons, List.sum_cons, hcat]; omega) hlocks
  obtain ⟨f1, f2⟩ := vx_frame hsame
  rw [hhp] at f1 f2
  have hWs : s.WarmedH U.vm := State.WarmedH.trans hW0 hW
  have hcl : s.vm.findClass cls = some ce.cls := by
    have h9 := hO.cls
    rw [hvm] at h9
    exact h9
  have hall : s.sameButNew ({ U with vm := s.vm } : State) locs mc ms := by
    subst hA
    obtain ⟨e1, e2⟩ := hsame
    rw [State.setFrames_setFrames] at e1
    have h2 : (T.setVm s.vm).sameButNew ({ U with vm := s.vm } : State) [] (0 + 1) (0 + 6) := ⟨e1, e2⟩
    have h3 := X.same.trans h2
    rw [List.append_nil] at h3
    exact h3.mono hc hs
  refine ⟨U, ?_, .threw T.heap.size, hrun, hend, Or.inr ⟨T.heap.size, rfl, cls, ce, locs, hx U hWs.alike f1 (fun q hq => f2 q hq (fun z hz => nomatch hz)), hce, hO.vm, hcl, hWs, hall, hf⟩⟩
  refine st1 _ ?_
  show Steps p.tables e below (T1.setTop { method := m, pc := pc + 3, locals := ls, stack := .ref T.heap.size :: rest, locked := none }) _
  jvm_step X₁.here [X₁.here.top, hexec, d3', Value.category]
  exact hsteps
/-- 'throw new E("text")': new; dup; ldc; invokespecial; athrow -/
theorem vx_throwS {cc : ByteArray} {pc : Nat} (hexec : p.tables.exec = Jvm.exec) (hb : c.code = cc) (hl : l.stackTraces = false) {own cls text : String} {names : List String} {ik is ic mc ms sa : Nat} {A : Nat → Prop}
    (hown : s.vm.findClass own = some m.cls) (hcls : Bundle.fit cls = true) (hnames : ∀ n ∈ names, Bundle.fit n = true)
    (hk : (Cond.classLink own ik cls).before args s = true) (hini : (Cond.initialized cls).before args s = true) (hstr : vk_R own is text sa s) (hat : ∀ w ∈ vx_atS own ic cls names, w.before args s = true)
    (hgood : ∀ w ∈ Cond.classLink own ik cls :: Cond.initialized cls :: vx_atS own ic cls names, vx_ot w = true)
    (hU : vx_Zq Bundle.tN "UNASSIGNED_STACK" Bundle.steD A s s.heap) (hN : vx_Zq Bundle.tN "SUPPRESSED_SENTINEL" Bundle.listD A s s.heap) (hS : va_S A s.heap H locs) (hsize : ls.size = c.maxLocals)
    (d0 : decode cc pc = .ok (.new ik, 3)) (d3 : decode cc (pc + 3) = .ok (.dup, 1)) (d4 : decode cc (pc + 4) = .ok (.ldc is, 2)) (d6 : decode cc (pc + 6) = .ok (.invokespecial ic, 3)) (d9 : decode cc (pc + 9) = .ok (.athrow, 1))
    (hout : ∀ x ∈ c.exceptionTable.toList, covers x (pc + 9) = false)
    (hRframes : names.length + 3 < R.frames) (hRlocals : (rest.map fun v => v.category).sum + (13 * (names.length + 1) + 43) ≤ R.locals) (hRcells : cells + 1 ≤ R.cells) (hRslots : slots + 6 ≤ R.slots) (hlocks : meth.locks = false)
    (hx : ∀ t : State, s.vm.Alike t.vm → H.size ≤ t.heap.size → (∀ q : Nat, q < H.size → t.heap[q]? = H[q]?) → XC cls s t)
    (hf : ∀ z ∈ locs, free z.base) (hc : cells + 1 ≤ mc) (hs : slots + 6 ≤ ms) :
    W p l e R s m args below meth c H locs cells slots (vx_MQ below Qc XC args s mc ms free) (F0 m pc ls rest) := by
  intro T hT X
  have htr : e.platform.stackTraces = false := (show e.platform.stackTraces = l.stackTraces by rw [X.admits.platform]).trans hl
  have Y := vx_rebase X (R' := { frames := R.frames, locals := R.locals, cells := 1, slots := 6 }) (Nat.le_refl _) (Nat.le_refl _) hRcells hRslots
  obtain ⟨s', hA⟩ : ∃ z, z = (T.setVm s.vm).setFrames (.invoking m args :: below) := ⟨_, rfl⟩
  rw [← hA] at Y
  have hvm : s'.vm = s.vm := by rw [hA]; rfl
  have hhp : s'.heap = H := by rw [hA]; exact hT
  have hW0 : s.WarmedH s'.vm := by rw [hvm]; exact State.WarmedH.refl s
  have hat' : ∀ w ∈ vx_atS own ic cls names, w.before args s' = true := fun w hw => vx_ot_at hW0 hvm.symm (hgood w (List.mem_cons_of_mem _ (List.mem_cons_of_mem _ hw))) (hat w hw)
  have hk' : (Cond.classLink own ik cls).before args s' = true := vx_ot_at hW0 hvm.symm (hgood _ List.mem_cons_self) hk
  have hini' : (Cond.initialized cls).before args s' = true := vx_ot_at hW0 hvm.symm (hgood _ (List.mem_cons_of_mem _ List.mem_cons_self)) hini
  have hU' : vx_Zq Bundle.tN "UNASSIGNED_STACK" Bundle.steD A s' s'.heap := by rw [hhp]; exact vx_Zq.moved hW0.alike (hU.kept hS.2.1)
  have hN' : vx_Zq Bundle.tN "SUPPRESSED_SENTINEL" Bundle.listD A s' s'.heap := by rw [hhp]; exact vx_Zq.moved hW0.alike (hN.kept hS.2.1)
  have h : ∀ w ∈ Bundle.ownAtoms own ic cls names, w.before args s' = true := vx_own hat' (vx_isRefq hU'.1) (vx_isRefq hN'.1) hU'.2.word hN'.2.word
  have hown' : s'.vm.findClass own = some m.cls := by rw [hvm]; exact hown
  have hins : (Cond.instantiable cls 6).before args s' = true := h _ (by simp [Bundle.ownAtoms])
  obtain ⟨vm₁, cX, kX, hfX, hkX, -, -, X₁, st1⟩ := Y.newCold hexec (own := own) (C := cls) (index := ik) (n := 6) hown' hk' hins hini'
    (g := F0 m pc ls rest) rfl (by rw [hb]; exact d0) (Nat.le_refl _) (Nat.le_refl _)
  generalize hT1 : (T.setVm vm₁).pushCell { cls := cX, slots := kX.instanceTypes.map defaultValue, vm := .none } = T1 at X₁ st1
  have hcat : (Value.ref T.heap.size).category = 1 := rfl
  have hcellA : T1.heap[T.heap.size]? = some (freshCell cX kX) := by rw [← hT1]; exact State.heap_pushCell_size _ _
  have d3' : decode c.code (pc + 3) = .ok (.dup, 1) := by rw [hb]; exact d3
  have d4' : decode c.code (pc + 4) = .ok (.ldc is, 2) := by rw [hb]; exact d4
  have hstr' : vk_R own is text sa s' := vk_R.warm hW0 hstr
  obtain ⟨U, hsteps, hrun, hend, hW, hsame, ce, hce, hO⟩ := X₁.ctorThrowS hexec htr (own := own) (cls := cls) (names := names) (ic := ic) hown' hcls hnames h (fun x hx => nomatch hx) hfX hkX hcellA (by rw [hhp, hT]; exact Nat.le_refl _) (msg := .ref sa) rfl
    (g := { method := m, pc := pc + 6, locals := ls, stack := .ref sa :: .ref T.heap.size :: .ref T.heap.size :: rest, locked := none }) rfl hsize rfl rfl (rest := rest) rfl
    (by rw [hb]; exact d6) (by rw [hb]; exact d9) hout hRframes (by simp only [List.map_cons, List.sum_cons, hcat]; omega) hlocks
  obtain ⟨f1, f2⟩ := vx_frame hsame
  rw [hhp] at f1 f2
  have hWs : s.WarmedH U.vm := State.WarmedH.trans hW0 hW
  have hcl : s.vm.findClass cls = some ce.cls := by
    have h9 := hO.cls
    rw [hvm] at h9
    exact h9
  have hall : s.sameButNew ({ U with vm := s.vm } : State) locs mc ms := by
    subst hA
    obtain ⟨e1, e2⟩ := hsame
    rw [State.setFrames_setFrames] at e1
    have h2 : (T.setVm s.vm).sameButNew ({ U with vm := s.vm } : State) [] (0 + 1) (0 + 6) := ⟨e1, e2⟩
    have h3 := X.same.trans h2
    rw [List.append_nil] at h3
    exact h3.mono hc hs
  refine ⟨U, ?_, .threw T.heap.size, hrun, hend, Or.inr ⟨T.heap.size, rfl, cls, ce, locs, hx U hWs.alike f1 (fun q hq => f2 q hq (fun z hz => nomatch hz)), hce, hO.vm, hcl, hWs, hall, hf⟩⟩
  refine st1 _ ?_
  show Steps p.tables e below (T1.setTop { method := m, pc := pc + 3, locals := ls, stack := .ref T.heap.size :: rest, locked := none }) _
  jvm_step X₁.here [X₁.here.top, hexec, d3', Value.category]
  exact X₁.ldcString hexec (own := own) (text := text) (index := is) (a := sa) hown' hstr'.1 hstr'.2
    (g := { method := m, pc := pc + 4, locals := ls, stack := .ref T.heap.size :: .ref T.heap.size :: rest, locked := none }) rfl d4' _ hsteps
/-- 'throw new E("text")', the text by a wide index -/
theorem vx_throwSW {cc : ByteArray} {pc : Nat} (hexec : p.tables.exec = Jvm.exec) (hb : c.code = cc) (hl : l.stackTraces = false) {own cls text : String} {names : List String} {ik is ic mc ms sa : Nat} {A : Nat → Prop}
    (hown : s.vm.findClass own = some m.cls) (hcls : Bundle.fit cls = true) (hnames : ∀ n ∈ names, Bundle.fit n = true)
    (hk : (Cond.classLink own ik cls).before args s = true) (hini : (Cond.initialized cls).before args s = true) (hstr : vk_R own is text sa s) (hat : ∀ w ∈ vx_atS own ic cls names, w.before args s = true)
    (hgood : ∀ w ∈ Cond.classLink own ik cls :: Cond.initialized cls :: vx_atS own ic cls names, vx_ot w = true)
    (hU : vx_Zq Bundle.tN "UNASSIGNED_STACK" Bundle.steD A s s.heap) (hN : vx_Zq Bundle.tN "SUPPRESSED_SENTINEL" Bundle.listD A s s.heap) (hS : va_S A s.heap H locs) (hsize : ls.size = c.maxLocals)
    (d0 : decode cc pc = .ok (.new ik, 3)) (d3 : decode cc (pc + 3) = .ok (.dup, 1)) (d4 : decode cc (pc + 4) = .ok (.ldc_w is, 3)) (d7 : decode cc (pc + 7) = .ok (.invokespecial ic, 3)) (d10 : decode cc (pc + 10) = .ok (.athrow, 1))
    (hout : ∀ x ∈ c.exceptionTable.toList, covers x (pc + 10) = false)
    (hRframes : names.length + 3 < R.frames) (hRlocals : (rest.map fun v => v.category).sum + (13 * (names.length + 1) + 43) ≤ R.locals) (hRcells : cells + 1 ≤ R.cells) (hRslots : slots + 6 ≤ R.slots) (hlocks : meth.locks = false)
    (hx : ∀ t : State, s.vm.Alike t.vm → H.size ≤ t.heap.size → (∀ q : Nat, q < H.size → t.heap[q]? = H[q]?) → XC cls s t)
    (hf : ∀ z ∈ locs, free z.base) (hc : cells + 1 ≤ mc) (hs : slots + 6 ≤ ms) :
    W p l e R s m args below meth c H locs cells slots (vx_MQ below Qc XC args s mc ms free) (F0 m pc ls rest) := by
  intro T hT X
  have htr : e.platform.stackTraces = false := (show e.platform.stackTraces = l.stackTraces by rw [X.admits.platform]).trans hl
  have Y := vx_rebase X (R' := { frames := R.frames, locals := R.locals, cells := 1, slots := 6 }) (Nat.le_refl _) (Nat.le_refl _) hRcells hRslots
  obtain ⟨s', hA⟩ : ∃ z, z = (T.setVm s.vm).setFrames (.invoking m args :: below) := ⟨_, rfl⟩
  rw [← hA] at Y
  have hvm : s'.vm = s.vm := by rw [hA]; rfl
  have hhp : s'.heap = H := by rw [hA]; exact hT
  have hW0 : s.WarmedH s'.vm := by rw [hvm]; exact State.WarmedH.refl s
  have hat' : ∀ w ∈ vx_atS own ic cls names, w.before args s' = true := fun w hw => vx_ot_at hW0 hvm.symm (hgood w (List.mem_cons_of_mem _ (List.mem_cons_of_mem _ hw))) (hat w hw)
  have hk' : (Cond.classLink own ik cls).before args s' = true := vx_ot_at hW0 hvm.symm (hgood _ List.mem_cons_self) hk
  have hini' : (Cond.initialized cls).before args s' = true := vx_ot_at hW0 hvm.symm (hgood _ (List.mem_cons_of_mem _ List.mem_cons_self)) hini
  have hU' : vx_Zq Bundle.tN "UNASSIGNED_STACK" Bundle.steD A s' s'.heap := by rw [hhp]; exact vx_Zq.moved hW0.alike (hU.kept hS.2.1)
  have hN' : vx_Zq Bundle.tN "SUPPRESSED_SENTINEL" Bundle.listD A s' s'.heap := by rw [hhp]; exact vx_Zq.moved hW0.alike (hN.kept hS.2.1)
  have h : ∀ w ∈ Bundle.ownAtoms own ic cls names, w.before args s' = true := vx_own hat' (vx_isRefq hU'.1) (vx_isRefq hN'.1) hU'.2.word hN'.2.word
  have hown' : s'.vm.findClass own = some m.cls := by rw [hvm]; exact hown
  have hins : (Cond.instantiable cls 6).before args s' = true := h _ (by simp [Bundle.ownAtoms])
  obtain ⟨vm₁, cX, kX, hfX, hkX, -, -, X₁, st1⟩ := Y.newCold hexec (own := own) (C := cls) (index := ik) (n := 6) hown' hk' hins hini'
    (g := F0 m pc ls rest) rfl (by rw [hb]; exact d0) (Nat.le_refl _) (Nat.le_refl _)
  generalize hT1 : (T.setVm vm₁).pushCell { cls := cX, slots := kX.instanceTypes.map defaultValue, vm := .none } = T1 at X₁ st1
  have hcat : (Value.ref T.heap.size).category = 1 := rfl
  have hcellA : T1.heap[T.heap.size]? = some (freshCell cX kX) := by rw [← hT1]; exact State.heap_pushCell_size _ _
  have d3' : decode c.code (pc + 3) = .ok (.dup, 1) := by rw [hb]; exact d3
  have d4' : decode c.code (pc + 4) = .ok (.ldc_w is, 3) := by rw [hb]; exact d4
  have hstr' : vk_R own is text sa s' := vk_R.warm hW0 hstr
  obtain ⟨U, hsteps, hrun, hend, hW, hsame, ce, hce, hO⟩ := X₁.ctorThrowS hexec htr (own := own) (cls := cls) (names := names) (ic := ic) hown' hcls hnames h (fun x hx => nomatch hx) hfX hkX hcellA (by rw [hhp, hT]; exact Nat.le_refl _) (msg := .ref sa) rfl
    (g := { method := m, pc := pc + 7, locals := ls, stack := .ref sa :: .ref T.heap.size :: .ref T.heap.size :: rest, locked := none }) rfl hsize rfl rfl (rest := rest) rfl
    (by rw [hb]; exact d7) (by rw [hb]; exact d10) hout hRframes (by simp only [List.map_cons, List.sum_cons, hcat]; omega) hlocks
  obtain ⟨f1, f2⟩ := vx_frame hsame
  rw [hhp] at f1 f2
  have hWs : s.WarmedH U.vm := State.WarmedH.trans hW0 hW
  have hcl : s.vm.findClass cls = some ce.cls := by
    have h9 := hO.cls
    rw [hvm] at h9
    exact h9
  have hall : s.sameButNew ({ U with vm := s.vm } : State) locs mc ms := by
    subst hA
    obtain ⟨e1, e2⟩ := hsame
    rw [State.setFrames_setFrames] at e1
    have h2 : (T.setVm s.vm).sameButNew ({ U with vm := s.vm } : State) [] (0 + 1) (0 + 6) := ⟨e1, e2⟩
    have h3 := X.same.trans h2
    rw [List.append_nil] at h3
    exact h3.mono hc hs
  refine ⟨U, ?_, .threw T.heap.size, hrun, hend, Or.inr ⟨T.heap.size, rfl, cls, ce, locs, hx U hWs.alike f1 (fun q hq => f2 q hq (fun z hz => nomatch hz)), hce, hO.vm, hcl, hWs, hall, hf⟩⟩
  refine st1 _ ?_
  show Steps p.tables e below (T1.setTop { method := m, pc := pc + 3, locals := ls, stack := .ref T.heap.size :: rest, locked := none }) _
  jvm_step X₁.here [X₁.here.top, hexec, d3', Value.category]
  exact X₁.ldcStringW hexec (own := own) (text := text) (index := is) (a := sa) hown' hstr'.1 hstr'.2
    (g := { method := m, pc := pc + 4, locals := ls, stack := .ref T.heap.size :: .ref T.heap.size :: rest, locked := none }) rfl d4' _ hsteps
end Ends
section Bodies
variable {l : Launch}
theorem vx_ofW {y : MethodName} {ws ws' : List Cond} {rm : Room} {Pc : Array Value → State → Prop} {Qc : Array Value → State → Outcome → State → Prop} {XC : String → State → State → Prop} {mc ms : Nat} {free : Addr → Prop} {cc : ByteArray} {maxL : Nat} {ret : Option FieldType}
    (hy : plainName y.cls = true) (hw : ws = Cond.code y cc maxL ret :: ws')
    (body : ∀ p e s m args below meth c s₁, BodyLoose p l y (headSpec ws rm) cc maxL ret e s m args below meth c s₁ → c.maxLocals = maxL → (∀ x ∈ c.exceptionTable.toList, False) → Pc args s →
      W p l e (headSpec ws rm).room s m args below meth c s.heap [] 0 0 (vx_MQ below Qc XC args s mc ms free) (entryFrame m args maxL)) : vx_Met l y ws rm Pc Qc XC mc ms free := by
  refine MetFree.of_bodyS (code := cc) (maxLocals := maxL) (ret := ret) hy ?_ ?_
  · intro args s m h hn
    obtain ⟨meth, c, h1, h2, h3, h4, h5, h6, -, -⟩ := Cond.code_spec hn (atoms_spec (ws := ws) h _ (by rw [hw]; exact List.mem_cons_self))
    exact ⟨meth, c, h1, h2, h3, h4, h5, h6⟩
  · intro p e s m args below meth c s₁ B hml hP _
    have hh0 : s₁.heap = s.heap := by rw [B.state]; rfl
    have ht : ∀ x ∈ c.exceptionTable.toList, False := by
      obtain ⟨meth9, c9, h1, h2, -, -, -, -, h7, -⟩ := Cond.code_spec B.named (atoms_spec (ws := ws) B.pre _ (by rw [hw]; exact List.mem_cons_self))
      cases Option.some.inj (h1.symm.trans B.method)
      cases Option.some.inj (h2.symm.trans (Stand.of_body B).code)
      intro x hx
      rw [Array.isEmpty_iff.mp h7] at hx
      cases hx
    obtain ⟨t, a1, o, b1, b2, b3⟩ := body p e s m args below meth c s₁ B hml ht hP s₁ hh0 (Stand.of_body B)
    exact ⟨t, o, a1, b1, b2, b3⟩
/-- the table of a body with handlers -/
theorem vx_table {p : Program} {x y : MethodName} {S : Spec} {cc bytes : ByteArray} {maxL maxL' : Nat} {ret ret' : Option FieldType} {e : Env} {s s₁ : State} {m : MethodId} {args : Array Value} {below : List Frame} {meth : Method} {c : Code} {hh : List (Nat × Nat × Nat × Nat)}
    (B : BodyLoose p l y S cc maxL ret e s m args below meth c s₁) (h : (Cond.codeWith y bytes maxL' ret' hh).before args s = true) : c.exceptionTable.toList = tableOf hh := by
  obtain ⟨m9, meth9, c9, hn9, h1, h2, -, -, h6, -⟩ := Cond.codeWith_spec h
  cases Option.some.inj (hn9.symm.trans B.named)
  cases Option.some.inj (h1.symm.trans B.method)
  cases Option.some.inj (h2.symm.trans (Stand.of_body B).code)
  rw [← h6, table_eq]
end Bodies
end VXA
/-! ===== END ===== -/
/-! ===== BEGIN a static call of a method with an exception table ===== -/
section VXS
variable {p : Program} {l : Launch} {e : Env} {R : Room} {s : State} {m : MethodId} {args : Array Value} {below : List Frame} {meth : Method} {c : Code} {T : State} {H : Heap} {locs : List Loc} {cells slots : Nat}
abbrev vx_CSW (R : Room) (s : State) (args : Array Value) (own : String) (index : Nat) (y : MethodName) (bytes : ByteArray) (maxL : Nat) (ret : Option FieldType) (hh : List (Nat × Nat × Nat × Nat)) (ws : List Cond) (rm : Room) (mc ms n : Nat) : Prop :=
  (rm.cells = mc ∧ rm.slots = ms ∧ rm.frames + 1 ≤ R.frames ∧ 8 + (maxL + 11) + rm.locals ≤ R.locals ∧ (∀ w ∈ ws, ∀ (a' : Array Value) (U : State), s.WarmedH U.vm → w.before a' U = true) ∧ Cond.codeWith y bytes maxL ret hh ∈ ws) ∧
  (Cond.codeWith y bytes maxL ret hh).before args s = true ∧ (Cond.initialized y.cls).before args s = true ∧ (y.cls ≠ "java/lang/invoke/MethodHandle" ∧ y.cls ≠ "java/lang/invoke/VarHandle") ∧
  (∀ sig, parseMethodDescriptor y.desc = some sig → n = sig.parameters.length) ∧ (Cond.methodLink own index y).before args s = true ∧ (Cond.static y).before args s = true
theorem vx_cwSW {own : String} {index maxL mc ms : Nat} {y : MethodName} {bytes : ByteArray} {ret : Option FieldType} {hh : List (Nat × Nat × Nat × Nat)} {Ts ws ws' : List Cond} {rm : Room} (n : Nat) (ht : ∀ w ∈ Ts, w.before args s = true) (hT : GoodIn Ts (va_wsS own index y ws)) (hw : ws = Cond.codeWith y bytes maxL ret hh :: ws') (hrc : rm.cells = mc) (hrs : rm.slots = ms)
    (hd : y.cls ≠ "java/lang/invoke/MethodHandle" ∧ y.cls ≠ "java/lang/invoke/VarHandle" ∧ (parseMethodDescriptor y.desc).map (fun d => d.parameters.length) = some n) (hR : rm.frames + 1 ≤ R.frames ∧ 8 + (maxL + 11) + rm.locals ≤ R.locals) :
    vx_CSW R s args own index y bytes maxL ret hh ws rm mc ms n := by
  have ok : ∀ w ∈ va_wsS own index y ws, w.before args s = true := fun w h => ht w (hT w h).1
  have hG : GoodIn Ts ws := fun w h => hT w (by unfold va_wsS; exact List.mem_append_right _ h)
  have hc : Cond.codeWith y bytes maxL ret hh ∈ ws := by rw [hw]; exact List.mem_cons_self
  refine ⟨⟨hrc, hrs, hR.1, hR.2, pay_in ht hG, hc⟩, ht _ (hG _ hc).1, ok _ (by simp [va_wsS]), ⟨hd.1, hd.2.1⟩, fun sig h => ?_, ok _ (by simp [va_wsS]), ok _ (by simp [va_wsS])⟩
  have h2 := hd.2.2
  rw [h] at h2
  exact (Option.some.inj h2).symm
theorem vx_callSW (X : Stand p l e R s m args below meth c T locs cells slots) (hexec : p.tables.exec = Jvm.exec) {own : String} {index : Nat} {y : MethodName} {bytes : ByteArray} {maxL : Nat} {ret : Option FieldType} {hh : List (Nat × Nat × Nat × Nat)}
    (hown : s.vm.findClass own = some m.cls) (hlink : (Cond.methodLink own index y).before args s = true) (hstat : (Cond.static y).before args s = true) (hinit : (Cond.initialized y.cls).before args s = true)
    (hcode : (Cond.codeWith y bytes maxL ret hh).before args s = true) (hy : y.cls ≠ "java/lang/invoke/MethodHandle" ∧ y.cls ≠ "java/lang/invoke/VarHandle")
    {W9 : Nat} {Pre : Pt → Array Value → Prop} {Post : Pt → Array Value → Option Value → Pt → Prop} (hK : Back l R p e below s args y 3 W9 Pre Post)
    {g : JFrame} (hg : g.method = m) (hsize : g.locals.size = c.maxLocals) {argsL rest : List Value} (hlen : ∀ sig, parseMethodDescriptor y.desc = some sig → argsL.length = sig.parameters.length)
    (hstack : g.stack = argsL.reverse ++ rest) (hW : 2 * g.monitorRoom + (rest.map fun v => v.category).sum ≤ W9) (hdg : decode c.code g.pc = .ok (.invokestatic index, 3))
    (hpre : ∀ vm₁, s.WarmedH vm₁ → Pre ⟨T.setVm vm₁, locs, cells, slots⟩ argsL.toArray) :
    ∃ (v : Option Value) (vm₁ : Vm) (B : Pt), s.WarmedH vm₁ ∧ Stand p l e R s m args below meth c B.U B.locs B.cells B.slots ∧ Post ⟨T.setVm vm₁, locs, cells, slots⟩ argsL.toArray v B ∧
      ∀ target, Steps p.tables e below (B.U.setTop { g with pc := g.pc + 3, stack := v.toList ++ rest }) target → Steps p.tables e below (T.setTop g) target := by
  obtain ⟨mk, methM, cM, hnamed, hmethM, -, -, -, -, -, -, hsigM⟩ := Cond.codeWith_spec hcode
  have hstatic : methM.isStatic = true := Cond.static_spec hnamed hmethM hstat
  obtain ⟨kP, hkP, -⟩ := className_of_methodNamed hnamed
  have hinitP : kP.init = .initialized := Cond.initialized_spec (findClass_of_methodNamed hnamed) hkP hinit
  obtain ⟨vm₁, X₁, hstep₁⟩ := X.invokestatic hexec hown hlink hnamed hmethM hstatic hkP hinitP hy (g := g) hg (argsL := argsL) (rest := rest) (hlen _ hsigM) hstack hdg
  obtain ⟨v, B, X', hpost, hsteps⟩ := hK m meth c ⟨T.setVm vm₁, locs, cells, slots⟩ { g with stack := rest } (.invokestatic index) mk argsL.toArray X₁ hg hsize hdg hW (X₁.named hnamed) (hpre vm₁ X₁.warmed)
  exact ⟨v, vm₁, B, X₁.warmed, X', hpost, fun target h => hstep₁ _ fun acts => by rw [doInvoke_state]; exact hsteps.trans h⟩
theorem vx_runSW {y : MethodName} {bytes cc : ByteArray} {maxL nL mc ms n index : Nat} {ret : Option FieldType} {hh : List (Nat × Nat × Nat × Nat)} {ws : List Cond} {rm : Room} {Pc : Array Value → State → Prop} {Qc : Array Value → State → Outcome → State → Prop} {free : Addr → Prop} {Ts : List Cond} {own : String} {As rest : List Value} {g : JFrame}
    (S : CallFix p m c cc nL s args Ts own) (hM : Met l y ws rm Pc Qc mc ms free) (cw : vx_CSW R s args own index y bytes maxL ret hh ws rm mc ms n) (hp : PreS s H Pc As)
    (hg : g.method = m) (hn : As.length = n) (hsize : g.locals.size = nL) (hstack : g.stack = As.reverse ++ rest) (hW : 2 * g.monitorRoom + (rest.map fun v => v.category).sum ≤ 8) (hdg : decode cc g.pc = .ok (.invokestatic index, 3)) (hf : cells + mc ≤ R.cells ∧ slots + ms ≤ R.slots) :
    va_Run p l e R s m args below meth c H locs cells slots mc ms g rest (Qc As.toArray) (free) := by
  obtain ⟨⟨hrc, hrs, hfr, hlo, hws, hcw⟩, hcode, hini, hy, hlen, hl, hstt⟩ := cw
  have hK : Back l R p e below s args y 3 8 (PreOf R mc ms Pc) (PostOf Qc mc ms free) := va_backW (hh := hh) (bytes := bytes) (maxL := maxL) (ret := ret) hM hp.1 hrc hrs hfr hlo hws hcw (fun a' U hW => word_at hW (Or.inl (by first | rfl | simp [Cond.onTables, Cond.keeps, Cond.steady])) hini)
  obtain ⟨hx, hb, hml, ho, -⟩ := S
  intro T hT X
  obtain ⟨v, vm₁, ⟨U', l2, c2, s2⟩, hW₁, X', ⟨g', mk, t, L, e1, e2, hq, h1, hL, h2, h3⟩, st⟩ := vx_callSW X hx (hh := hh) (bytes := bytes) (maxL := maxL) (ret := ret) ho hl hstt hini hcode hy hK hg (hsize.trans hml.symm) (argsL := As) (rest := rest) (fun sig h => hn.trans (hlen sig h)) hstack hW (by rw [hb]; exact hdg)
    (fun vm₁ hW₁ => ⟨hf.1, hf.2, hp.2 (T.setVm vm₁) hT hW₁⟩)
  dsimp only [Pt.U, Pt.locs, Pt.cells, Pt.slots] at X' e1 e2 h1 h2 h3 st
  subst h1; subst h2; subst h3
  exact ⟨v, (T.setVm vm₁).calling g' mk As.toArray, t, U', L, hT, X', hL, e1, e2, hq, st⟩
/-- not caught here, past rows that name other classes: it goes on to the caller -/
theorem vx_outP {p : Program} {l : Launch} {e : Env} {R : Room} {s : State} {m : MethodId} {args : Array Value} {below : List Frame} {meth : Method} {c : Code} {H : Heap} {locs : List Loc} {cells slots : Nat} {free : Addr → Prop} {ls : Array Slot} {rest : List Value} {Qc : Array Value → State → Outcome → State → Prop} {XC : String → State → State → Prop}
    {pc : Nat} {own E : String} {ce : Cell} {q : Addr} {mc ms : Nat} (hown : s.vm.findClass own = some m.cls) (hlocks : meth.locks = false)
    (hpass : ∀ z ∈ c.exceptionTable.toList, covers z pc = false ∨ (z.catchType ≠ 0 ∧ ∃ nm : String, (Cond.classLink own z.catchType nm).before args s = true ∧ va_Nc E nm s)) (hcell : H[q]? = some ce) (hv : ce.vm = .none) (hcl : s.vm.findClass E = some ce.cls)
    (hx : ∀ t : State, t.heap = H → s.vm.Alike t.vm → XC E s t) (hf : ∀ z ∈ locs, free z.base) (hc : cells ≤ mc) (hs : slots ≤ ms) :
    vx_W p l e R s m args below meth c H locs cells slots (vx_MQ below Qc XC args s mc ms free) (F0 m pc ls rest) q := by
  intro T hT X
  have hpl : e.platform.magicAccessors = ({} : Platform).magicAccessors := by rw [X.admits.platform]
  obtain ⟨vm', hW', X', st⟩ := X.outThrough hlocks q (g := F0 m pc ls rest) rfl rfl rfl (cell := ce) (by rw [hT]; exact hcell) (by rw [hv]; rfl)
    (by obtain ⟨k9, h9, -⟩ := Vm.findClass_spec hcl; exact ⟨k9, h9⟩) (fun z hz => by
      rcases hpass z hz with h | ⟨hz0, nm, hl1, hn1⟩
      · exact Or.inl h
      · obtain ⟨c6, hc6, hcl6⟩ := Cond.classLink_spec hown hl1 e.platform hpl
        obtain ⟨a8, b8, h1, h2, h3⟩ := hn1
        cases Option.some.inj (h1.symm.trans hcl)
        cases Option.some.inj (h2.symm.trans hc6)
        exact Or.inr ⟨hz0, _, hcl6, h3⟩)
  obtain ⟨g₀, hfr⟩ := X'.frames_eq
  have hcell9 : ((T.setVm vm').setFrames (.throwing q :: below)).heap[q]? = some ce := by
    show T.heap[q]? = some ce
    rw [hT]; exact hcell
  have hend : Ended ((T.setVm vm').setFrames (.throwing q :: below)) below (.threw q) := State.frames_setFrames _ (State.cur_lt_of_frames hfr)
  refine ⟨(T.setVm vm').setFrames (.throwing q :: below), ?_, .threw q, X'.here.running, hend, Or.inr ⟨q, rfl, E, ce, locs, hx _ hT (X'.ends _).1.alike, hcell9, hv, hcl, (X'.ends _).1, (X'.ends _).2.mono hc hs, hf⟩⟩
  rw [X.pushThrowing_eq]
  exact st
/-- a thing of a world lies in the heap -/
theorem vx_lt {D : va_G} {cl : List vw_C} {ws : va_W} {H1 : Heap} (h : va_P D cl ws H1) {k : Nat} {q : Nat × va_E} (hk : ws[k]? = some q) : q.1 < H1.size := (h k q hk).lt
end VXS
/-! ===== END ===== -/
/-! ===== BEGIN methods with a table of their own: called by a name, returning or throwing ===== -/
section VXH
/-! vx_backW, vx_callVX, vx_callSX, vx_callVW, vx_runVW, vx_runVX, vx_runSX, vx_ofWH follow the same proofs as their sisters above (Free/Laws.lean, Shelf42/LK1.lean); vx_outP calls Shelf42/NT130.lean (outThrough). -/
section
variable {l : Launch} {R : Room} {p : Program} {e : Env} {below : List Frame} {s : State} {sargs : Array Value} {y : MethodName} {len W9 : Nat}
theorem vx_backW {ws : List Cond} {rm : Room} {Pc : Array Value → State → Prop} {Qc : Array Value → State → Outcome → State → Prop} {XC : String → State → State → Prop} {mc ms : Nat} {free : Addr → Prop} {bytes : ByteArray} {maxL : Nat} {ret : Option FieldType} {hh : List (Nat × Nat × Nat × Nat)}
    (hM : vx_Met l y ws rm Pc Qc XC mc ms free) (hblind : FrameBlind Pc) (hrc : rm.cells = mc) (hrs : rm.slots = ms)
    (hframes : rm.frames + 1 ≤ R.frames) (hlocals : W9 + (maxL + 11) + rm.locals ≤ R.locals)
    (hws : ∀ w ∈ ws, ∀ a' U, s.WarmedH U.vm → w.before a' U = true) (hcode : Cond.codeWith y bytes maxL ret hh ∈ ws) (hinit : ∀ a' U, s.WarmedH U.vm → (Cond.initialized y.cls).before a' U = true) :
    vx_Back l R p e below s sargs y len W9 (PreOf R mc ms Pc) (PostOf Qc mc ms free) (vx_Post XC mc ms free) := by
  intro m meth c A g ig mk a X hg hsize hdg hW hn hp
  have h1 : (headSpec ws rm).pre.before a A.U = true := atoms_intro fun w hw => hws w hw _ _ X.warmed
  have h2 : (Cond.codeWith y bytes maxL ret hh).before a A.U = true := hws _ hcode _ _ X.warmed
  have h3 : (Cond.initialized y.cls).before a A.U = true := hinit _ _ X.warmed
  have h4 : A.cells + (headSpec ws rm).room.cells ≤ R.cells := by rw [show (headSpec ws rm).room.cells = mc from hrc]; exact hp.1
  have h5 : A.slots + (headSpec ws rm).room.slots ≤ R.slots := by rw [show (headSpec ws rm).room.slots = ms from hrs]; exact hp.2.1
  have hPc : Pc a (A.U.calling g mk a) := hblind _ _ _ _ hp.2.2
  obtain ⟨U, Ls, c0, s0⟩ := A
  dsimp only [Pt.U, Pt.locs, Pt.cells, Pt.slots] at h1 h2 h3 h4 h5 X hn hPc ⊢
  obtain ⟨m9, methY, cY, hn9, hmY, hcY, -, hlY, -⟩ := Cond.codeWith_spec h2
  cases Option.some.inj (hn9.symm.trans hn)
  obtain ⟨kY, hkY, -⟩ := className_of_methodNamed hn
  have hinitY : kY.init = .initialized := Cond.initialized_spec (findClass_of_methodNamed hn) hkY h3
  have h : At U g.method c below := by rw [hg]; exact X.here
  have hlocals9 : W9 + (maxL + 11) + (headSpec ws rm).room.locals ≤ R.locals := hlocals
  have happ : (headSpec ws rm).appliesLoose y e.platform (U.calling g mk a) = true :=
    Spec.appliesLoose_calling (g := g) h hdg hn hkY hinitY
      (X.room_calling (g := g) (R' := (headSpec ws rm).room) hsize hmY hcY hframes (by rw [hlY]; omega) h4 h5) h1
  obtain ⟨mid, hmid⟩ := h.above
  have hfr : (U.setTop g).frames = (.java g :: mid) ++ below := by rw [State.frames_setTop' g h.top, hmid]; rfl
  obtain ⟨o, s₂, hsteps, -, hend, hq⟩ := Steps.callFree hM p X.admits X.cas X.clock (acts := []) hfr happ hPc trivial
  have hq' : vx_Q Qc XC mc ms free a (U.calling g mk a) o s₂ := hq
  rw [State.frames_setTop' g h.top] at hend
  obtain ⟨g₀, hg0⟩ := Option.isSome_iff_exists.mp h.top
  obtain ⟨r, hr⟩ := State.topJava?_eq_some.mp hg0
  have hr' : (({ U with heap := s₂.heap, slotsUsed := s₂.slotsUsed } : State).setVm s₂.vm).frames = .java g₀ :: r := hr
  rcases hq' with ⟨hqc, L, hfe, hL⟩ | ⟨q, rfl, E, ce, L, hx, hce, hcv, hcl, hW₂, hsm, hL⟩
  · obtain ⟨⟨v, rfl⟩, hW₂, e2, q2, q3, q4, q5, q6⟩ := id hfe
    have e3 : s₂ = ({ (U.calling g mk a).setFrames s₂.frames with heap := s₂.heap, slotsUsed := s₂.slotsUsed } : State).setVm s₂.vm := by
      have : s₂ = ({ s₂ with vm := (U.calling g mk a).vm } : State).setVm s₂.vm := rfl
      rw [e2] at this
      exact this
    obtain ⟨c₂, i₂, len₂, hc₂, hd₂, hf₂⟩ := hend
    have hW' : U.WarmedH s₂.vm := hW₂
    have hcc : c₂ = c := by
      have h1 : s₂.code? g.method = U.code? g.method := by
        rw [State.code?_eq, State.code?_eq, hW'.alike.method?]
      exact Option.some.inj (hc₂.symm.trans (h1.trans h.code))
    subst hcc
    have hlen : len₂ = len := by rw [hdg] at hd₂; cases hd₂; rfl
    subst hlen
    have hs₂ : s₂ = (({ U with heap := s₂.heap, slotsUsed := s₂.slotsUsed } : State).setVm s₂.vm).setTop { g with pc := g.pc + len₂, stack := v.toList ++ g.stack } := by
      refine e3.trans ?_
      rw [hf₂, State.calling_eq h.top, State.setFrames_setFrames, State.setTop_of_frames _ hr', hr]
      rfl
    have hsame : U.sameButNew ({ U with heap := s₂.heap, slotsUsed := s₂.slotsUsed } : State) L mc ms := by
      refine ⟨?_, q2, q3, q4, q5, q6⟩
      obtain ⟨t, ht, -⟩ := State.frames_cons hr
      show ({ U with heap := s₂.heap, slotsUsed := s₂.slotsUsed } : State) = { U.setFrames U.frames with heap := s₂.heap, slotsUsed := s₂.slotsUsed }
      rw [State.setFrames_self ht]
    subst hg
    refine Or.inl ⟨v, ⟨(({ U with heap := s₂.heap, slotsUsed := s₂.slotsUsed } : State).setVm s₂.vm), Ls ++ L, c0 + mc, s0 + ms⟩,
      ⟨X.admits, X.cas, X.clock, X.frames, X.room, X.hears, X.method, X.code, (X.here.setHeapUsed s₂.heap s₂.slotsUsed).setVm hW'.alike, X.tail, State.WarmedH.trans X.warmed hW', X.limits, X.bytes, X.same.trans (hsame.setVm s.vm)⟩,
      ⟨g, mk, s₂, L, rfl, rfl, hqc, rfl, hL, rfl, rfl⟩, ?_⟩
    show Steps p.tables e below _ ((({ U with heap := s₂.heap, slotsUsed := s₂.slotsUsed } : State).setVm s₂.vm).setTop { g with pc := g.pc + len₂, stack := v.toList ++ g.stack })
    rw [← hs₂]
    exact hsteps
  · obtain ⟨e2, q2, q3, q4, q5, q6⟩ := id hsm
    have e3 : s₂ = ({ (U.calling g mk a).setFrames s₂.frames with heap := s₂.heap, slotsUsed := s₂.slotsUsed } : State).setVm s₂.vm := by
      have : s₂ = ({ s₂ with vm := (U.calling g mk a).vm } : State).setVm s₂.vm := rfl
      rw [e2] at this
      exact this
    have hf₂ : s₂.frames = .throwing q :: .java g :: U.frames.tail := hend
    have hW' : U.WarmedH s₂.vm := hW₂
    have hs₂ : s₂ = ((({ U with heap := s₂.heap, slotsUsed := s₂.slotsUsed } : State).setVm s₂.vm).setTop g).pushFrame (.throwing q) := by
      refine e3.trans ?_
      rw [hf₂, State.calling_eq h.top, State.setFrames_setFrames, State.pushFrame, State.frames_setTop _ hr', State.setTop_of_frames _ hr', State.setFrames_setFrames, hr]
      rfl
    have hsame : U.sameButNew ({ U with heap := s₂.heap, slotsUsed := s₂.slotsUsed } : State) L mc ms := by
      refine ⟨?_, q2, q3, q4, q5, q6⟩
      obtain ⟨t, ht, -⟩ := State.frames_cons hr
      show ({ U with heap := s₂.heap, slotsUsed := s₂.slotsUsed } : State) = { U.setFrames U.frames with heap := s₂.heap, slotsUsed := s₂.slotsUsed }
      rw [State.setFrames_self ht]
    subst hg
    refine Or.inr ⟨q, ⟨(({ U with heap := s₂.heap, slotsUsed := s₂.slotsUsed } : State).setVm s₂.vm), Ls ++ L, c0 + mc, s0 + ms⟩,
      ⟨X.admits, X.cas, X.clock, X.frames, X.room, X.hears, X.method, X.code, (X.here.setHeapUsed s₂.heap s₂.slotsUsed).setVm hW'.alike, X.tail, State.WarmedH.trans X.warmed hW', X.limits, X.bytes, X.same.trans (hsame.setVm s.vm)⟩,
      ⟨g, mk, s₂, L, E, ce, rfl, rfl, hx, hce, hcv, hcl, rfl, hL, rfl, rfl⟩, ?_⟩
    show Steps p.tables e below _ (((({ U with heap := s₂.heap, slotsUsed := s₂.slotsUsed } : State).setVm s₂.vm).setTop g).pushFrame (.throwing q))
    rw [← hs₂]
    exact hsteps
end
variable {p : Program} {l : Launch} {e : Env} {R : Room} {s : State} {m : MethodId} {args : Array Value} {below : List Frame} {meth : Method} {c : Code} {T : State} {H : Heap} {locs : List Loc} {cells slots : Nat}
theorem vx_callVX (X : Stand p l e R s m args below meth c T locs cells slots) (hexec : p.tables.exec = Jvm.exec) {own C : String} {index : Nat} {y : MethodName} {bytes : ByteArray} {maxL : Nat} {ret : Option FieldType} {hh : List (Nat × Nat × Nat × Nat)}
    (hown : s.vm.findClass own = some m.cls) (hlink : (Cond.methodLink own index y).before args s = true) (hinst : (Cond.instanceMethod y).before args s = true) (hsel : (Cond.selects C y y).before args s = true)
    (hcode : (Cond.codeWith y bytes maxL ret hh).before args s = true) (hy : y.cls ≠ "java/lang/invoke/MethodHandle" ∧ y.cls ≠ "java/lang/invoke/VarHandle")
    {W9 : Nat} {Pre : Pt → Array Value → Prop} {Post : Pt → Array Value → Option Value → Pt → Prop} {PostX : Pt → Array Value → Addr → Pt → Prop} (hK : vx_Back l R p e below s args y 3 W9 Pre Post PostX)
    {b : Addr} {cellB : Cell} (hcell : T.heap[b]? = some cellB) (hobj : cellB.vm.isStatics = false) (hcls : s.vm.findClass C = some cellB.cls)
    {g : JFrame} (hg : g.method = m) (hsize : g.locals.size = c.maxLocals) {argsL rest : List Value} (hlen : ∀ sig, parseMethodDescriptor y.desc = some sig → argsL.length = sig.parameters.length)
    (hstack : g.stack = argsL.reverse ++ .ref b :: rest) (hW : 2 * g.monitorRoom + (rest.map fun v => v.category).sum ≤ W9) (hdg : decode c.code g.pc = .ok (.invokevirtual index, 3))
    (hpre : ∀ vm₁, s.WarmedH vm₁ → Pre ⟨T.setVm vm₁, locs, cells, slots⟩ (Value.ref b :: argsL).toArray) :
    (∃ (v : Option Value) (vm₁ : Vm) (B : Pt), s.WarmedH vm₁ ∧ Stand p l e R s m args below meth c B.U B.locs B.cells B.slots ∧ Post ⟨T.setVm vm₁, locs, cells, slots⟩ (Value.ref b :: argsL).toArray v B ∧
      ∀ target, Steps p.tables e below (B.U.setTop { g with pc := g.pc + 3, stack := v.toList ++ rest }) target → Steps p.tables e below (T.setTop g) target) ∨
    (∃ (q : Addr) (vm₁ : Vm) (B : Pt), s.WarmedH vm₁ ∧ Stand p l e R s m args below meth c B.U B.locs B.cells B.slots ∧ PostX ⟨T.setVm vm₁, locs, cells, slots⟩ (Value.ref b :: argsL).toArray q B ∧
      Steps p.tables e below (T.setTop g) ((B.U.setTop { g with stack := rest }).pushFrame (.throwing q))) := by
  obtain ⟨mk, methM, hnamed, hmethM, hstM, habM⟩ := Cond.instanceMethod_spec hinst
  obtain ⟨m8, methM', cM, hn8, hmethM', -, -, -, -, -, -, hsigM⟩ := Cond.codeWith_spec hcode
  cases Option.some.inj (hn8.symm.trans hnamed)
  cases hmethM.symm.trans hmethM'
  obtain ⟨c2, r2, m2, q1, q2, q3, q4, kP, hkP, hkPi⟩ := Cond.selects_spec hsel
  cases hcls.symm.trans q1
  cases (State.methodFound?_of_named hnamed hy).symm.trans q2
  cases hnamed.symm.trans q3
  have hselP : selectMethod e.platform s.vm cellB.cls mk = .method mk := by rw [Launch.admits_selectMethod X.admits]; exact q4
  obtain ⟨vm₁, X₁, hstep₁⟩ := X.invokevirtual hexec hown hlink hnamed hmethM hstM hkP hkPi hy (a := b) (cell := cellB) hcell
    (fun z h => by rw [h] at hobj; cases hobj) hselP hmethM habM hkP hkPi (g := g) hg (argsL := argsL) (rest := rest) (hlen _ hsigM) hstack hdg
  rcases hK m meth c ⟨T.setVm vm₁, locs, cells, slots⟩ { g with stack := rest } (.invokevirtual index) mk (Value.ref b :: argsL).toArray X₁ hg hsize hdg hW (X₁.named hnamed) (hpre vm₁ X₁.warmed) with ⟨v, B, X', hpost, hsteps⟩ | ⟨q, B, X', hpost, hsteps⟩
  · exact Or.inl ⟨v, vm₁, B, X₁.warmed, X', hpost, fun target h => hstep₁ _ fun acts => by rw [doInvoke_state]; exact hsteps.trans h⟩
  · exact Or.inr ⟨q, vm₁, B, X₁.warmed, X', hpost, hstep₁ _ fun acts => by rw [doInvoke_state]; exact hsteps⟩
theorem vx_callSX (X : Stand p l e R s m args below meth c T locs cells slots) (hexec : p.tables.exec = Jvm.exec) {own : String} {index : Nat} {y : MethodName} {bytes : ByteArray} {maxL : Nat} {ret : Option FieldType} {hh : List (Nat × Nat × Nat × Nat)}
    (hown : s.vm.findClass own = some m.cls) (hlink : (Cond.methodLink own index y).before args s = true) (hstat : (Cond.static y).before args s = true) (hinit : (Cond.initialized y.cls).before args s = true)
    (hcode : (Cond.codeWith y bytes maxL ret hh).before args s = true) (hy : y.cls ≠ "java/lang/invoke/MethodHandle" ∧ y.cls ≠ "java/lang/invoke/VarHandle")
    {W9 : Nat} {Pre : Pt → Array Value → Prop} {Post : Pt → Array Value → Option Value → Pt → Prop} {PostX : Pt → Array Value → Addr → Pt → Prop} (hK : vx_Back l R p e below s args y 3 W9 Pre Post PostX)
    {g : JFrame} (hg : g.method = m) (hsize : g.locals.size = c.maxLocals) {argsL rest : List Value} (hlen : ∀ sig, parseMethodDescriptor y.desc = some sig → argsL.length = sig.parameters.length)
    (hstack : g.stack = argsL.reverse ++ rest) (hW : 2 * g.monitorRoom + (rest.map fun v => v.category).sum ≤ W9) (hdg : decode c.code g.pc = .ok (.invokestatic index, 3))
    (hpre : ∀ vm₁, s.WarmedH vm₁ → Pre ⟨T.setVm vm₁, locs, cells, slots⟩ argsL.toArray) :
    (∃ (v : Option Value) (vm₁ : Vm) (B : Pt), s.WarmedH vm₁ ∧ Stand p l e R s m args below meth c B.U B.locs B.cells B.slots ∧ Post ⟨T.setVm vm₁, locs, cells, slots⟩ argsL.toArray v B ∧
      ∀ target, Steps p.tables e below (B.U.setTop { g with pc := g.pc + 3, stack := v.toList ++ rest }) target → Steps p.tables e below (T.setTop g) target) ∨
    (∃ (q : Addr) (vm₁ : Vm) (B : Pt), s.WarmedH vm₁ ∧ Stand p l e R s m args below meth c B.U B.locs B.cells B.slots ∧ PostX ⟨T.setVm vm₁, locs, cells, slots⟩ argsL.toArray q B ∧
      Steps p.tables e below (T.setTop g) ((B.U.setTop { g with stack := rest }).pushFrame (.throwing q))) := by
  obtain ⟨mk, methM, cM, hnamed, hmethM, -, -, -, -, -, -, hsigM⟩ := Cond.codeWith_spec hcode
  have hstatic : methM.isStatic = true := Cond.static_spec hnamed hmethM hstat
  obtain ⟨kP, hkP, -⟩ := className_of_methodNamed hnamed
  have hinitP : kP.init = .initialized := Cond.initialized_spec (findClass_of_methodNamed hnamed) hkP hinit
  obtain ⟨vm₁, X₁, hstep₁⟩ := X.invokestatic hexec hown hlink hnamed hmethM hstatic hkP hinitP hy (g := g) hg (argsL := argsL) (rest := rest) (hlen _ hsigM) hstack hdg
  rcases hK m meth c ⟨T.setVm vm₁, locs, cells, slots⟩ { g with stack := rest } (.invokestatic index) mk argsL.toArray X₁ hg hsize hdg hW (X₁.named hnamed) (hpre vm₁ X₁.warmed) with ⟨v, B, X', hpost, hsteps⟩ | ⟨q, B, X', hpost, hsteps⟩
  · exact Or.inl ⟨v, vm₁, B, X₁.warmed, X', hpost, fun target h => hstep₁ _ fun acts => by rw [doInvoke_state]; exact hsteps.trans h⟩
  · exact Or.inr ⟨q, vm₁, B, X₁.warmed, X', hpost, hstep₁ _ fun acts => by rw [doInvoke_state]; exact hsteps⟩
theorem vx_callVW (X : Stand p l e R s m args below meth c T locs cells slots) (hexec : p.tables.exec = Jvm.exec) {own C : String} {index : Nat} {y : MethodName} {bytes : ByteArray} {maxL : Nat} {ret : Option FieldType} {hh : List (Nat × Nat × Nat × Nat)}
    (hown : s.vm.findClass own = some m.cls) (hlink : (Cond.methodLink own index y).before args s = true) (hinst : (Cond.instanceMethod y).before args s = true) (hsel : (Cond.selects C y y).before args s = true)
    (hcode : (Cond.codeWith y bytes maxL ret hh).before args s = true) (hy : y.cls ≠ "java/lang/invoke/MethodHandle" ∧ y.cls ≠ "java/lang/invoke/VarHandle")
    {W9 : Nat} {Pre : Pt → Array Value → Prop} {Post : Pt → Array Value → Option Value → Pt → Prop} (hK : Back l R p e below s args y 3 W9 Pre Post)
    {b : Addr} {cellB : Cell} (hcell : T.heap[b]? = some cellB) (hobj : cellB.vm.isStatics = false) (hcls : s.vm.findClass C = some cellB.cls)
    {g : JFrame} (hg : g.method = m) (hsize : g.locals.size = c.maxLocals) {argsL rest : List Value} (hlen : ∀ sig, parseMethodDescriptor y.desc = some sig → argsL.length = sig.parameters.length)
    (hstack : g.stack = argsL.reverse ++ .ref b :: rest) (hW : 2 * g.monitorRoom + (rest.map fun v => v.category).sum ≤ W9) (hdg : decode c.code g.pc = .ok (.invokevirtual index, 3))
    (hpre : ∀ vm₁, s.WarmedH vm₁ → Pre ⟨T.setVm vm₁, locs, cells, slots⟩ (Value.ref b :: argsL).toArray) :
    ∃ (v : Option Value) (vm₁ : Vm) (B : Pt), s.WarmedH vm₁ ∧ Stand p l e R s m args below meth c B.U B.locs B.cells B.slots ∧ Post ⟨T.setVm vm₁, locs, cells, slots⟩ (Value.ref b :: argsL).toArray v B ∧
      ∀ target, Steps p.tables e below (B.U.setTop { g with pc := g.pc + 3, stack := v.toList ++ rest }) target → Steps p.tables e below (T.setTop g) target := by
  obtain ⟨mk, methM, hnamed, hmethM, hstM, habM⟩ := Cond.instanceMethod_spec hinst
  obtain ⟨m8, methM', cM, hn8, hmethM', -, -, -, -, -, -, hsigM⟩ := Cond.codeWith_spec hcode
  cases Option.some.inj (hn8.symm.trans hnamed)
  cases hmethM.symm.trans hmethM'
  obtain ⟨c2, r2, m2, q1, q2, q3, q4, kP, hkP, hkPi⟩ := Cond.selects_spec hsel
  cases hcls.symm.trans q1
  cases (State.methodFound?_of_named hnamed hy).symm.trans q2
  cases hnamed.symm.trans q3
  have hselP : selectMethod e.platform s.vm cellB.cls mk = .method mk := by rw [Launch.admits_selectMethod X.admits]; exact q4
  obtain ⟨vm₁, X₁, hstep₁⟩ := X.invokevirtual hexec hown hlink hnamed hmethM hstM hkP hkPi hy (a := b) (cell := cellB) hcell
    (fun z h => by rw [h] at hobj; cases hobj) hselP hmethM habM hkP hkPi (g := g) hg (argsL := argsL) (rest := rest) (hlen _ hsigM) hstack hdg
  obtain ⟨v, B, X', hpost, hsteps⟩ := hK m meth c ⟨T.setVm vm₁, locs, cells, slots⟩ { g with stack := rest } (.invokevirtual index) mk (Value.ref b :: argsL).toArray X₁ hg hsize hdg hW (X₁.named hnamed) (hpre vm₁ X₁.warmed)
  exact ⟨v, vm₁, B, X₁.warmed, X', hpost, fun target h => hstep₁ _ fun acts => by rw [doInvoke_state]; exact hsteps.trans h⟩
abbrev vx_CVW (R : Room) (s : State) (args : Array Value) (own C : String) (index : Nat) (y : MethodName) (bytes : ByteArray) (maxL : Nat) (ret : Option FieldType) (hh : List (Nat × Nat × Nat × Nat)) (ws : List Cond) (rm : Room) (mc ms n : Nat) : Prop :=
  (rm.cells = mc ∧ rm.slots = ms ∧ rm.frames + 1 ≤ R.frames ∧ 8 + (maxL + 11) + rm.locals ≤ R.locals ∧ (∀ w ∈ ws, ∀ (a' : Array Value) (U : State), s.WarmedH U.vm → w.before a' U = true) ∧ Cond.codeWith y bytes maxL ret hh ∈ ws) ∧
  (Cond.codeWith y bytes maxL ret hh).before args s = true ∧ (Cond.initialized y.cls).before args s = true ∧ (y.cls ≠ "java/lang/invoke/MethodHandle" ∧ y.cls ≠ "java/lang/invoke/VarHandle") ∧
  (∀ sig, parseMethodDescriptor y.desc = some sig → n = sig.parameters.length) ∧ (Cond.methodLink own index y).before args s = true ∧ (Cond.instanceMethod y).before args s = true ∧ (Cond.selects C y y).before args s = true
theorem vx_cwVW {own C : String} {index maxL mc ms : Nat} {y : MethodName} {bytes : ByteArray} {ret : Option FieldType} {hh : List (Nat × Nat × Nat × Nat)} {Ts ws ws' : List Cond} {rm : Room} (n : Nat) (ht : ∀ w ∈ Ts, w.before args s = true) (hT : GoodIn Ts (wsV own index C y ws)) (hw : ws = Cond.codeWith y bytes maxL ret hh :: ws') (hrc : rm.cells = mc) (hrs : rm.slots = ms)
    (hd : y.cls = C ∧ y.cls ≠ "java/lang/invoke/MethodHandle" ∧ y.cls ≠ "java/lang/invoke/VarHandle" ∧ (parseMethodDescriptor y.desc).map (fun d => d.parameters.length) = some n) (hR : rm.frames + 1 ≤ R.frames ∧ 8 + (maxL + 11) + rm.locals ≤ R.locals) :
    vx_CVW R s args own C index y bytes maxL ret hh ws rm mc ms n := by
  obtain ⟨hC, hd⟩ := hd
  subst hC
  have ok : ∀ w ∈ wsV own index y.cls y ws, w.before args s = true := fun w h => ht w (hT w h).1
  have hG : GoodIn Ts ws := fun w h => hT w (by unfold wsV; exact List.mem_append_right _ h)
  have hc : Cond.codeWith y bytes maxL ret hh ∈ ws := by rw [hw]; exact List.mem_cons_self
  refine ⟨⟨hrc, hrs, hR.1, hR.2, pay_in ht hG, hc⟩, ht _ (hG _ hc).1, ok _ (by simp [wsV]), ⟨hd.1, hd.2.1⟩, fun sig h => ?_, ok _ (by simp [wsV]), ok _ (by simp [wsV]), ok _ (by simp [wsV])⟩
  have h2 := hd.2.2
  rw [h] at h2
  exact (Option.some.inj h2).symm
theorem vx_runVW {y : MethodName} {bytes cc : ByteArray} {maxL nL mc ms n index : Nat} {ret : Option FieldType} {hh : List (Nat × Nat × Nat × Nat)} {ws : List Cond} {rm : Room} {Pc : Array Value → State → Prop} {Qc : Array Value → State → Outcome → State → Prop} {free : Addr → Prop} {Ts : List Cond} {own C : String} {b : Addr} {As rest : List Value} {g : JFrame}
    (S : CallFix p m c cc nL s args Ts own) (hM : Met l y ws rm Pc Qc mc ms free) (cw : vx_CVW R s args own C index y bytes maxL ret hh ws rm mc ms n) (hp : PreV s H C b Pc As)
    (hg : g.method = m) (hn : As.length = n) (hsize : g.locals.size = nL) (hstack : g.stack = As.reverse ++ .ref b :: rest) (hW : 2 * g.monitorRoom + (rest.map fun v => v.category).sum ≤ 8) (hdg : decode cc g.pc = .ok (.invokevirtual index, 3)) (hf : cells + mc ≤ R.cells ∧ slots + ms ≤ R.slots) :
    va_Run p l e R s m args below meth c H locs cells slots mc ms g rest (Qc (Value.ref b :: As).toArray) free := by
  obtain ⟨⟨hrc, hrs, hfr, hlo, hws, hcw⟩, hcode, hini, hy, hlen, hl, hin, hse⟩ := cw
  have hK : Back l R p e below s args y 3 8 (PreOf R mc ms Pc) (PostOf Qc mc ms free) := va_backW (hh := hh) (bytes := bytes) (maxL := maxL) (ret := ret) hM hp.1 hrc hrs hfr hlo hws hcw (fun a' U hW => word_at hW (Or.inl (by first | rfl | simp [Cond.onTables, Cond.keeps, Cond.steady])) hini)
  obtain ⟨hx, hb, hml, ho, -⟩ := S
  obtain ⟨-, ⟨cellB, hcB, hoB, hclB⟩, hPc⟩ := hp
  intro T hT X
  obtain ⟨v, vm₁, ⟨U', l2, c2, s2⟩, hW₁, X', ⟨g', mk, t, L, e1, e2, hq, h1, hL, h2, h3⟩, st⟩ := vx_callVW X hx (C := C) (hh := hh) (bytes := bytes) (maxL := maxL) (ret := ret) ho hl hin hse hcode hy hK (by rw [hT]; exact hcB) hoB hclB hg (hsize.trans hml.symm) (argsL := As) (rest := rest) (fun sig h => hn.trans (hlen sig h)) hstack hW (by rw [hb]; exact hdg)
    (fun vm₁ hW₁ => ⟨hf.1, hf.2, hPc (T.setVm vm₁) hT hW₁⟩)
  dsimp only [Pt.U, Pt.locs, Pt.cells, Pt.slots] at X' e1 e2 h1 h2 h3 st
  subst h1; subst h2; subst h3
  exact ⟨v, (T.setVm vm₁).calling g' mk (Value.ref b :: As).toArray, t, U', L, hT, X', hL, e1, e2, hq, st⟩
section
variable {y : MethodName} {bytes cc : ByteArray} {maxL nL mc ms n index : Nat} {ret : Option FieldType} {ws : List Cond} {rm : Room} {Pc : Array Value → State → Prop} {Qc : Array Value → State → Outcome → State → Prop} {XC : String → State → State → Prop} {free : Addr → Prop} {Ts : List Cond} {own C : String} {b : Addr} {As rest : List Value} {g : JFrame}
theorem vx_runVX {hh : List (Nat × Nat × Nat × Nat)} (S : CallFix p m c cc nL s args Ts own) (hM : vx_Met l y ws rm Pc Qc XC mc ms free) (cw : vx_CVW R s args own C index y bytes maxL ret hh ws rm mc ms n) (hp : PreV s H C b Pc As)
    (hg : g.method = m) (hn : As.length = n) (hsize : g.locals.size = nL) (hstack : g.stack = As.reverse ++ .ref b :: rest) (hW : 2 * g.monitorRoom + (rest.map fun v => v.category).sum ≤ 8) (hdg : decode cc g.pc = .ok (.invokevirtual index, 3)) (hf : cells + mc ≤ R.cells ∧ slots + ms ≤ R.slots) :
    vx_Run p l e R s m args below meth c H locs cells slots mc ms g rest (Qc (Value.ref b :: As).toArray) XC free := by
  obtain ⟨⟨hrc, hrs, hfr, hlo, hws, hcw⟩, hcode, hini, hy, hlen, hl, hin, hse⟩ := cw
  have hK : vx_Back l R p e below s args y 3 8 (PreOf R mc ms Pc) (PostOf Qc mc ms free) (vx_Post XC mc ms free) := vx_backW (hh := hh) (bytes := bytes) (maxL := maxL) (ret := ret) hM hp.1 hrc hrs hfr hlo hws hcw (fun a' U hW => word_at hW (Or.inl (by first | rfl | simp [Cond.onTables, Cond.keeps, Cond.steady])) hini)
  obtain ⟨hx, hb, hml, ho, -⟩ := S
  obtain ⟨-, ⟨cellB, hcB, hoB, hclB⟩, hPc⟩ := hp
  intro T hT X
  rcases vx_callVX X hx (C := C) (hh := hh) (bytes := bytes) (maxL := maxL) (ret := ret) ho hl hin hse hcode hy hK (by rw [hT]; exact hcB) hoB hclB hg (hsize.trans hml.symm) (argsL := As) (rest := rest) (fun sig h => hn.trans (hlen sig h)) hstack hW (by rw [hb]; exact hdg)
    (fun vm₁ hW₁ => ⟨hf.1, hf.2, hPc (T.setVm vm₁) hT hW₁⟩) with ⟨v, vm₁, ⟨U', l2, c2, s2⟩, hW₁, X', ⟨g', mk, t, L, e1, e2, hq, h1, hL, h2, h3⟩, st⟩ | ⟨q, vm₁, ⟨U', l2, c2, s2⟩, hW₁, X', ⟨g', mk, t, L, E, ce, e1, e2, hq, hce, hcv, hcl, h1, hL, h2, h3⟩, st⟩
  · dsimp only [Pt.U, Pt.locs, Pt.cells, Pt.slots] at X' e1 e2 h1 h2 h3 st
    subst h1; subst h2; subst h3
    exact Or.inl ⟨v, (T.setVm vm₁).calling g' mk (Value.ref b :: As).toArray, t, U', L, hT, X', hL, e1, e2, hq, st⟩
  · dsimp only [Pt.U, Pt.locs, Pt.cells, Pt.slots] at X' e1 e2 h1 h2 h3 st hcl
    subst h1; subst h2; subst h3
    exact Or.inr ⟨q, (T.setVm vm₁).calling g' mk (Value.ref b :: As).toArray, t, U', L, E, ce, hT, X', hL, e1, e2, hq, hce, hcv, vx_cls hW₁ hcl, st⟩
theorem vx_runSX {hh : List (Nat × Nat × Nat × Nat)} (S : CallFix p m c cc nL s args Ts own) (hM : vx_Met l y ws rm Pc Qc XC mc ms free) (cw : vx_CSW R s args own index y bytes maxL ret hh ws rm mc ms n) (hp : PreS s H Pc As)
    (hg : g.method = m) (hn : As.length = n) (hsize : g.locals.size = nL) (hstack : g.stack = As.reverse ++ rest) (hW : 2 * g.monitorRoom + (rest.map fun v => v.category).sum ≤ 8) (hdg : decode cc g.pc = .ok (.invokestatic index, 3)) (hf : cells + mc ≤ R.cells ∧ slots + ms ≤ R.slots) :
    vx_Run p l e R s m args below meth c H locs cells slots mc ms g rest (Qc As.toArray) XC free := by
  obtain ⟨⟨hrc, hrs, hfr, hlo, hws, hcw⟩, hcode, hini, hy, hlen, hl, hstt⟩ := cw
  have hK : vx_Back l R p e below s args y 3 8 (PreOf R mc ms Pc) (PostOf Qc mc ms free) (vx_Post XC mc ms free) := vx_backW (hh := hh) (bytes := bytes) (maxL := maxL) (ret := ret) hM hp.1 hrc hrs hfr hlo hws hcw (fun a' U hW => word_at hW (Or.inl (by first | rfl | simp [Cond.onTables, Cond.keeps, Cond.steady])) hini)
  obtain ⟨hx, hb, hml, ho, -⟩ := S
  intro T hT X
  rcases vx_callSX X hx (hh := hh) (bytes := bytes) (maxL := maxL) (ret := ret) ho hl hstt hini hcode hy hK hg (hsize.trans hml.symm) (argsL := As) (rest := rest) (fun sig h => hn.trans (hlen sig h)) hstack hW (by rw [hb]; exact hdg)
    (fun vm₁ hW₁ => ⟨hf.1, hf.2, hp.2 (T.setVm vm₁) hT hW₁⟩) with ⟨v, vm₁, ⟨U', l2, c2, s2⟩, hW₁, X', ⟨g', mk, t, L, e1, e2, hq, h1, hL, h2, h3⟩, st⟩ | ⟨q, vm₁, ⟨U', l2, c2, s2⟩, hW₁, X', ⟨g', mk, t, L, E, ce, e1, e2, hq, hce, hcv, hcl, h1, hL, h2, h3⟩, st⟩
  · dsimp only [Pt.U, Pt.locs, Pt.cells, Pt.slots] at X' e1 e2 h1 h2 h3 st
    subst h1; subst h2; subst h3
    exact Or.inl ⟨v, (T.setVm vm₁).calling g' mk As.toArray, t, U', L, hT, X', hL, e1, e2, hq, st⟩
  · dsimp only [Pt.U, Pt.locs, Pt.cells, Pt.slots] at X' e1 e2 h1 h2 h3 st hcl
    subst h1; subst h2; subst h3
    exact Or.inr ⟨q, (T.setVm vm₁).calling g' mk As.toArray, t, U', L, E, ce, hT, X', hL, e1, e2, hq, hce, hcv, vx_cls hW₁ hcl, st⟩
end
end VXH
theorem vx_ofWH {l : Launch} {y : MethodName} {ws ws' : List Cond} {rm : Room} {Pc : Array Value → State → Prop} {Qc : Array Value → State → Outcome → State → Prop} {XC : String → State → State → Prop} {mc ms : Nat} {free : Addr → Prop} {cc : ByteArray} {maxL : Nat} {ret : Option FieldType} {hh : List (Nat × Nat × Nat × Nat)}
    (hy : plainName y.cls = true) (hw : ws = Cond.codeWith y cc maxL ret hh :: ws')
    (body : ∀ p e s m args below meth c s₁, BodyLoose p l y (headSpec ws rm) cc maxL ret e s m args below meth c s₁ → c.maxLocals = maxL → Pc args s →
      W p l e (headSpec ws rm).room s m args below meth c s.heap [] 0 0 (vx_MQ below Qc XC args s mc ms free) (entryFrame m args maxL)) : vx_Met l y ws rm Pc Qc XC mc ms free := by
  refine MetFree.of_bodyS (code := cc) (maxLocals := maxL) (ret := ret) hy ?_ ?_
  · intro args s m h hn
    obtain ⟨m9, meth, c, hn9, h1, h2, h3, h4, -, h5, h6, -⟩ := Cond.codeWith_spec (atoms_spec (ws := ws) h _ (by rw [hw]; exact List.mem_cons_self))
    cases hn.symm.trans hn9
    exact ⟨meth, c, h1, h2, h3, h4, h5, h6⟩
  · intro p e s m args below meth c s₁ B hml hP _
    have hh0 : s₁.heap = s.heap := by rw [B.state]; rfl
    obtain ⟨t, a1, o, b1, b2, b3⟩ := body p e s m args below meth c s₁ B hml hP s₁ hh0 (Stand.of_body B)
    exact ⟨t, o, a1, b1, b2, b3⟩
/-! ===== END ===== -/
/-! ===== BEGIN a constructor that throws (launches without stack traces) ===== -/
section VXIA
variable {p : Program} {l : Launch} {e : Env} {R : Room} {s : State} {m : MethodId} {args : Array Value} {below : List Frame} {meth : Method} {c : Code} {T : State} {locs : List Loc} {cells slots : Nat}
theorem vx_callI (X : Stand p l e R s m args below meth c T locs cells slots) (hexec : p.tables.exec = Jvm.exec) {own : String} {index : Nat} {y : MethodName} {bytes : ByteArray} {maxL : Nat}
    (hown : s.vm.findClass own = some m.cls) (hy1 : y.name = "<init>") (hlink : (Cond.methodLink own index y).before args s = true) (hinst : (Cond.instanceMethod y).before args s = true)
    (hcode : (Cond.code y bytes maxL none).before args s = true) (hy : y.cls ≠ "java/lang/invoke/MethodHandle" ∧ y.cls ≠ "java/lang/invoke/VarHandle")
    {W9 : Nat} {Pre : Pt → Array Value → Prop} {Post : Pt → Array Value → Option Value → Pt → Prop} {PostX : Pt → Array Value → Addr → Pt → Prop} (hK : vx_Back l R p e below s args y 3 W9 Pre Post PostX)
    {g : JFrame} (hg : g.method = m) (hsize : g.locals.size = c.maxLocals) {a : Addr} {argsL rest : List Value} (hlen : ∀ sig, parseMethodDescriptor y.desc = some sig → argsL.length = sig.parameters.length)
    (hstack : g.stack = argsL.reverse ++ .ref a :: rest) (hW : 2 * g.monitorRoom + (rest.map fun v => v.category).sum ≤ W9) (hdg : decode c.code g.pc = .ok (.invokespecial index, 3))
    (hpre : ∀ vm₁, s.WarmedH vm₁ → Pre ⟨T.setVm vm₁, locs, cells, slots⟩ (Value.ref a :: argsL).toArray) :
    (∃ (v : Option Value) (vm₁ : Vm) (B : Pt), s.WarmedH vm₁ ∧ Stand p l e R s m args below meth c B.U B.locs B.cells B.slots ∧ Post ⟨T.setVm vm₁, locs, cells, slots⟩ (Value.ref a :: argsL).toArray v B ∧
      ∀ target, Steps p.tables e below (B.U.setTop { g with pc := g.pc + 3, stack := v.toList ++ rest }) target → Steps p.tables e below (T.setTop g) target) ∨
    (∃ (q : Addr) (vm₁ : Vm) (B : Pt), s.WarmedH vm₁ ∧ Stand p l e R s m args below meth c B.U B.locs B.cells B.slots ∧ PostX ⟨T.setVm vm₁, locs, cells, slots⟩ (Value.ref a :: argsL).toArray q B ∧
      Steps p.tables e below (T.setTop g) ((B.U.setTop { g with stack := rest }).pushFrame (.throwing q))) := by
  subst hg
  have hpl : e.platform.magicAccessors = ({} : Platform).magicAccessors := by rw [X.admits.platform]
  obtain ⟨mk, methM, cM, kP, vm₁, hnamed, hmethM, hcodeM, -, hlocalsM, -, hkP, -, hW₁, hstep₁⟩ := Steps.initColdArgs (e := e) X.here hexec X.warmed hpl hown hy1 hy hlink hinst hcode (f := g) rfl hlen hstack hdg
  have X₁ := X.noted hW₁
  rcases hK g.method meth c ⟨T.setVm vm₁, locs, cells, slots⟩ { g with stack := rest } (.invokespecial index) mk (Value.ref a :: argsL).toArray X₁ rfl hsize hdg hW (X₁.named hnamed) (hpre vm₁ X₁.warmed) with ⟨v, B, X', hpost, hsteps⟩ | ⟨q, B, X', hpost, hsteps⟩
  · exact Or.inl ⟨v, vm₁, B, X₁.warmed, X', hpost, fun target h => hstep₁ _ fun acts => by rw [doInvoke_state]; exact hsteps.trans h⟩
  · exact Or.inr ⟨q, vm₁, B, X₁.warmed, X', hpost, hstep₁ _ fun acts => by rw [doInvoke_state]; exact hsteps⟩
end VXIA
section VXIB
variable {p : Program} {l : Launch} {e : Env} {R : Room} {s : State} {m : MethodId} {args : Array Value} {below : List Frame} {meth : Method} {c : Code} {H : Heap} {locs : List Loc} {cells slots : Nat}
variable {y : MethodName} {bytes cc : ByteArray} {maxL nL mc ms n index : Nat} {ret : Option FieldType} {ws : List Cond} {rm : Room} {Pc : Array Value → State → Prop} {Qc : Array Value → State → Outcome → State → Prop} {XC : String → State → State → Prop} {free : Addr → Prop} {Ts : List Cond} {own C : String} {b : Addr} {As rest : List Value} {g : JFrame}
theorem vx_runI (S : CallFix p m c cc nL s args Ts own) (hM : vx_Met l y ws rm Pc Qc XC mc ms free) (cw : CallB R s args own index y bytes maxL none ws rm mc ms n ∧ y.name = "<init>" ∧ (Cond.instanceMethod y).before args s = true) (hp : PreS s H Pc (.ref b :: As))
    (hg : g.method = m) (hn : As.length = n) (hsize : g.locals.size = nL) (hstack : g.stack = As.reverse ++ .ref b :: rest) (hW : 2 * g.monitorRoom + (rest.map fun v => v.category).sum ≤ 8) (hdg : decode cc g.pc = .ok (.invokespecial index, 3)) (hf : cells + mc ≤ R.cells ∧ slots + ms ≤ R.slots) :
    vx_Run p l e R s m args below meth c H locs cells slots mc ms g rest (Qc (Value.ref b :: As).toArray) XC free := by
  have hK : vx_Back l R p e below s args y 3 8 (PreOf R mc ms Pc) (PostOf Qc mc ms free) (vx_Post XC mc ms free) := vx_callBack cw.1 hM hp.1
  obtain ⟨⟨-, -, -, -, -, -, hcode, -, hy, hlen, hl⟩, hy1, hin⟩ := cw
  obtain ⟨hx, hb, hml, ho, -⟩ := S
  have hPc := hp.2
  intro T hT X
  rcases vx_callI X hx (bytes := bytes) (maxL := maxL) ho hy1 hl hin hcode hy hK hg (hsize.trans hml.symm) (a := b) (argsL := As) (rest := rest) (fun sig h => hn.trans (hlen sig h)) hstack hW (by rw [hb]; exact hdg)
    (fun vm₁ hW₁ => ⟨hf.1, hf.2, hPc (T.setVm vm₁) hT hW₁⟩) with ⟨v, vm₁, ⟨U', l2, c2, s2⟩, hW₁, X', ⟨g', mk, t, L, e1, e2, hq, h1, hL, h2, h3⟩, st⟩ | ⟨q, vm₁, ⟨U', l2, c2, s2⟩, hW₁, X', ⟨g', mk, t, L, E, ce, e1, e2, hq, hce, hcv, hcl, h1, hL, h2, h3⟩, st⟩
  · dsimp only [Pt.U, Pt.locs, Pt.cells, Pt.slots] at X' e1 e2 h1 h2 h3 st
    subst h1; subst h2; subst h3
    exact Or.inl ⟨v, (T.setVm vm₁).calling g' mk (Value.ref b :: As).toArray, t, U', L, hT, X', hL, e1, e2, hq, st⟩
  · dsimp only [Pt.U, Pt.locs, Pt.cells, Pt.slots] at X' e1 e2 h1 h2 h3 st hcl
    subst h1; subst h2; subst h3
    exact Or.inr ⟨q, (T.setVm vm₁).calling g' mk (Value.ref b :: As).toArray, t, U', L, E, ce, hT, X', hL, e1, e2, hq, hce, hcv, vx_cls hW₁ hcl, st⟩
end VXIB
/-! ===== END ===== -/
/-! ===== BEGIN a private method of a nest mate that may throw (follows va_callVN, va_callSN, va_runVN, va_runSN) ===== -/
section
variable {p : Program} {l : Launch} {e : Env} {R : Room} {s : State} {m : MethodId} {args : Array Value} {below : List Frame} {meth : Method} {c : Code} {H : Heap} {locs : List Loc} {cells slots : Nat}
variable {T : State}
theorem vx_callVN (X : Stand p l e R s m args below meth c T locs cells slots) (hexec : p.tables.exec = Jvm.exec) {own C : String} {index : Nat} {host : String} {y : MethodName} {bytes : ByteArray} {maxL : Nat} {ret : Option FieldType}
    (hown : s.vm.findClass own = some m.cls) (hlink : (Cond.methodLinkNest own index y host).before args s = true) (hinst : (Cond.instanceMethod y).before args s = true) (hsel : (Cond.selects C y y).before args s = true)
    (hcode : (Cond.code y bytes maxL ret).before args s = true) (hy : y.cls ≠ "java/lang/invoke/MethodHandle" ∧ y.cls ≠ "java/lang/invoke/VarHandle")
    {W : Nat} {Pre : Pt → Array Value → Prop} {Post : Pt → Array Value → Option Value → Pt → Prop} {PostX : Pt → Array Value → Addr → Pt → Prop} (hK : vx_Back l R p e below s args y 3 W Pre Post PostX)
    {b : Addr} {cellB : Cell} (hcell : T.heap[b]? = some cellB) (hobj : cellB.vm.isStatics = false) (hcls : s.vm.findClass C = some cellB.cls)
    {g : JFrame} (hg : g.method = m) (hsize : g.locals.size = c.maxLocals) {argsL rest : List Value} (hlen : ∀ sig, parseMethodDescriptor y.desc = some sig → argsL.length = sig.parameters.length)
    (hstack : g.stack = argsL.reverse ++ .ref b :: rest) (hW : 2 * g.monitorRoom + (rest.map fun v => v.category).sum ≤ W) (hdg : decode c.code g.pc = .ok (.invokevirtual index, 3))
    (hpre : ∀ vm₁, s.WarmedH vm₁ → Pre ⟨T.setVm vm₁, locs, cells, slots⟩ (Value.ref b :: argsL).toArray) :
    (∃ (v : Option Value) (vm₁ : Vm) (B : Pt), s.WarmedH vm₁ ∧ Stand p l e R s m args below meth c B.U B.locs B.cells B.slots ∧ Post ⟨T.setVm vm₁, locs, cells, slots⟩ (Value.ref b :: argsL).toArray v B ∧
      ∀ target, Steps p.tables e below (B.U.setTop { g with pc := g.pc + 3, stack := v.toList ++ rest }) target → Steps p.tables e below (T.setTop g) target) ∨
    (∃ (q : Addr) (vm₁ : Vm) (B : Pt), s.WarmedH vm₁ ∧ Stand p l e R s m args below meth c B.U B.locs B.cells B.slots ∧ PostX ⟨T.setVm vm₁, locs, cells, slots⟩ (Value.ref b :: argsL).toArray q B ∧
      Steps p.tables e below (T.setTop g) ((B.U.setTop { g with stack := rest }).pushFrame (.throwing q))) := by
  obtain ⟨mk, methM, hnamed, hmethM, hstM, habM⟩ := Cond.instanceMethod_spec hinst
  obtain ⟨methM', cM, hmethM', -, -, -, -, -, -, hsigM⟩ := Cond.code_spec hnamed hcode
  cases hmethM.symm.trans hmethM'
  obtain ⟨c2, r2, m2, q1, q2, q3, q4, kP, hkP, hkPi⟩ := Cond.selects_spec hsel
  cases hcls.symm.trans q1
  cases (State.methodFound?_of_named hnamed hy).symm.trans q2
  cases hnamed.symm.trans q3
  have hselP : selectMethod e.platform s.vm cellB.cls mk = .method mk := by rw [Launch.admits_selectMethod X.admits]; exact q4
  obtain ⟨vm₁, X₁, hstep₁⟩ := X.invokevirtualNest hexec hown hlink hnamed hmethM hstM hkP hkPi hy (a := b) (cell := cellB) hcell
    (fun z h => by rw [h] at hobj; cases hobj) hselP hmethM habM hkP hkPi (g := g) hg (argsL := argsL) (rest := rest) (hlen _ hsigM) hstack hdg
  rcases hK m meth c ⟨T.setVm vm₁, locs, cells, slots⟩ { g with stack := rest } (.invokevirtual index) mk (Value.ref b :: argsL).toArray X₁ hg hsize hdg hW (X₁.named hnamed) (hpre vm₁ X₁.warmed) with ⟨v, B, X', hpost, hsteps⟩ | ⟨q, B, X', hpost, hsteps⟩
  · exact Or.inl ⟨v, vm₁, B, X₁.warmed, X', hpost, fun target h => hstep₁ _ fun acts => by rw [doInvoke_state]; exact hsteps.trans h⟩
  · exact Or.inr ⟨q, vm₁, B, X₁.warmed, X', hpost, hstep₁ _ fun acts => by rw [doInvoke_state]; exact hsteps⟩
theorem vx_callSN (X : Stand p l e R s m args below meth c T locs cells slots) (hexec : p.tables.exec = Jvm.exec) {own : String} {index : Nat} {host : String} {y : MethodName} {bytes : ByteArray} {maxL : Nat} {ret : Option FieldType}
    (hown : s.vm.findClass own = some m.cls) (hlink : (Cond.methodLinkNest own index y host).before args s = true) (hstat : (Cond.static y).before args s = true) (hinit : (Cond.initialized y.cls).before args s = true)
    (hcode : (Cond.code y bytes maxL ret).before args s = true) (hy : y.cls ≠ "java/lang/invoke/MethodHandle" ∧ y.cls ≠ "java/lang/invoke/VarHandle")
    {W : Nat} {Pre : Pt → Array Value → Prop} {Post : Pt → Array Value → Option Value → Pt → Prop} {PostX : Pt → Array Value → Addr → Pt → Prop} (hK : vx_Back l R p e below s args y 3 W Pre Post PostX)
    {g : JFrame} (hg : g.method = m) (hsize : g.locals.size = c.maxLocals) {argsL rest : List Value} (hlen : ∀ sig, parseMethodDescriptor y.desc = some sig → argsL.length = sig.parameters.length)
    (hstack : g.stack = argsL.reverse ++ rest) (hW : 2 * g.monitorRoom + (rest.map fun v => v.category).sum ≤ W) (hdg : decode c.code g.pc = .ok (.invokestatic index, 3))
    (hpre : ∀ vm₁, s.WarmedH vm₁ → Pre ⟨T.setVm vm₁, locs, cells, slots⟩ argsL.toArray) :
    (∃ (v : Option Value) (vm₁ : Vm) (B : Pt), s.WarmedH vm₁ ∧ Stand p l e R s m args below meth c B.U B.locs B.cells B.slots ∧ Post ⟨T.setVm vm₁, locs, cells, slots⟩ argsL.toArray v B ∧
      ∀ target, Steps p.tables e below (B.U.setTop { g with pc := g.pc + 3, stack := v.toList ++ rest }) target → Steps p.tables e below (T.setTop g) target) ∨
    (∃ (q : Addr) (vm₁ : Vm) (B : Pt), s.WarmedH vm₁ ∧ Stand p l e R s m args below meth c B.U B.locs B.cells B.slots ∧ PostX ⟨T.setVm vm₁, locs, cells, slots⟩ argsL.toArray q B ∧
      Steps p.tables e below (T.setTop g) ((B.U.setTop { g with stack := rest }).pushFrame (.throwing q))) := by
  obtain ⟨mk, hnamed⟩ := Cond.code_named hcode
  obtain ⟨methM, cM, hmethM, -, -, -, -, -, -, hsigM⟩ := Cond.code_spec hnamed hcode
  have hstatic : methM.isStatic = true := Cond.static_spec hnamed hmethM hstat
  obtain ⟨kP, hkP, -⟩ := className_of_methodNamed hnamed
  have hinitP : kP.init = .initialized := Cond.initialized_spec (findClass_of_methodNamed hnamed) hkP hinit
  obtain ⟨vm₁, X₁, hstep₁⟩ := X.invokestaticNest hexec hown hlink hnamed hmethM hstatic hkP hinitP hy (g := g) hg (argsL := argsL) (rest := rest) (hlen _ hsigM) hstack hdg
  rcases hK m meth c ⟨T.setVm vm₁, locs, cells, slots⟩ { g with stack := rest } (.invokestatic index) mk argsL.toArray X₁ hg hsize hdg hW (X₁.named hnamed) (hpre vm₁ X₁.warmed) with ⟨v, B, X', hpost, hsteps⟩ | ⟨q, B, X', hpost, hsteps⟩
  · exact Or.inl ⟨v, vm₁, B, X₁.warmed, X', hpost, fun target h => hstep₁ _ fun acts => by rw [doInvoke_state]; exact hsteps.trans h⟩
  · exact Or.inr ⟨q, vm₁, B, X₁.warmed, X', hpost, hstep₁ _ fun acts => by rw [doInvoke_state]; exact hsteps⟩
theorem vx_runVN {y : MethodName} {bytes cc : ByteArray} {maxL nL mc ms n index : Nat} {ret : Option FieldType} {ws : List Cond} {rm : Room} {Pc : Array Value → State → Prop} {Qc : Array Value → State → Outcome → State → Prop} {XC : String → State → State → Prop} {free : Addr → Prop} {Ts : List Cond} {own C host : String} {b : Addr} {As rest : List Value} {g : JFrame}
    (S : CallFix p m c cc nL s args Ts own) (hM : vx_Met l y ws rm Pc Qc XC mc ms free) (cw : va_CN R s args own index y host bytes maxL ret ws rm mc ms n ∧ (Cond.instanceMethod y).before args s = true ∧ (Cond.selects C y y).before args s = true) (hp : PreV s H C b Pc As)
    (hg : g.method = m) (hn : As.length = n) (hsize : g.locals.size = nL) (hstack : g.stack = As.reverse ++ .ref b :: rest) (hW : 2 * g.monitorRoom + (rest.map fun v => v.category).sum ≤ 8) (hdg : decode cc g.pc = .ok (.invokevirtual index, 3)) (hf : cells + mc ≤ R.cells ∧ slots + ms ≤ R.slots) :
    vx_Run p l e R s m args below meth c H locs cells slots mc ms g rest (Qc (Value.ref b :: As).toArray) XC free := by
  obtain ⟨⟨⟨hrc, hrs, hfr, hlo, hws, hcw⟩, hcode, hini, hy, hlen, hl⟩, hx1, hx2⟩ := cw
  have hK : vx_Back l R p e below s args y 3 8 (PreOf R mc ms Pc) (PostOf Qc mc ms free) (vx_Post XC mc ms free) := vx_back (bytes := bytes) (maxL := maxL) (ret := ret) hM hp.1 hrc hrs hfr hlo hws hcw (fun a' U hW => word_at hW (Or.inl (by first | rfl | simp [Cond.onTables, Cond.keeps, Cond.steady])) hini)
  obtain ⟨hx, hb, hml, ho, -⟩ := S
  obtain ⟨-, ⟨cellB, hcB, hoB, hclB⟩, hPc⟩ := hp
  intro T hT X
  rcases vx_callVN X hx (C := C) (bytes := bytes) (maxL := maxL) (ret := ret) ho hl hx1 hx2 hcode hy hK (by rw [hT]; exact hcB) hoB hclB hg (hsize.trans hml.symm) (argsL := As) (rest := rest) (fun sig h => hn.trans (hlen sig h)) hstack hW (by rw [hb]; exact hdg)
    (fun vm₁ hW₁ => ⟨hf.1, hf.2, hPc (T.setVm vm₁) hT hW₁⟩) with ⟨v, vm₁, ⟨U', l2, c2, s2⟩, hW₁, X', ⟨g', mk, t, L, e1, e2, hq, h1, hL, h2, h3⟩, st⟩ | ⟨q, vm₁, ⟨U', l2, c2, s2⟩, hW₁, X', ⟨g', mk, t, L, E, ce, e1, e2, hq, hce, hcv, hcl, h1, hL, h2, h3⟩, st⟩
  · dsimp only [Pt.U, Pt.locs, Pt.cells, Pt.slots] at X' e1 e2 h1 h2 h3 st
    subst h1; subst h2; subst h3
    exact Or.inl ⟨v, (T.setVm vm₁).calling g' mk (Value.ref b :: As).toArray, t, U', L, hT, X', hL, e1, e2, hq, st⟩
  · dsimp only [Pt.U, Pt.locs, Pt.cells, Pt.slots] at X' e1 e2 h1 h2 h3 st hcl
    subst h1; subst h2; subst h3
    exact Or.inr ⟨q, (T.setVm vm₁).calling g' mk (Value.ref b :: As).toArray, t, U', L, E, ce, hT, X', hL, e1, e2, hq, hce, hcv, vx_cls hW₁ hcl, st⟩
theorem vx_runSN {y : MethodName} {bytes cc : ByteArray} {maxL nL mc ms n index : Nat} {ret : Option FieldType} {ws : List Cond} {rm : Room} {Pc : Array Value → State → Prop} {Qc : Array Value → State → Outcome → State → Prop} {XC : String → State → State → Prop} {free : Addr → Prop} {Ts : List Cond} {own host : String} {As rest : List Value} {g : JFrame}
    (S : CallFix p m c cc nL s args Ts own) (hM : vx_Met l y ws rm Pc Qc XC mc ms free) (cw : va_CN R s args own index y host bytes maxL ret ws rm mc ms n ∧ (Cond.static y).before args s = true ∧ True) (hp : PreS s H Pc As)
    (hg : g.method = m) (hn : As.length = n) (hsize : g.locals.size = nL) (hstack : g.stack = As.reverse ++ rest) (hW : 2 * g.monitorRoom + (rest.map fun v => v.category).sum ≤ 8) (hdg : decode cc g.pc = .ok (.invokestatic index, 3)) (hf : cells + mc ≤ R.cells ∧ slots + ms ≤ R.slots) :
    vx_Run p l e R s m args below meth c H locs cells slots mc ms g rest (Qc As.toArray) XC free := by
  obtain ⟨⟨⟨hrc, hrs, hfr, hlo, hws, hcw⟩, hcode, hini, hy, hlen, hl⟩, hx1, hx2⟩ := cw
  have hK : vx_Back l R p e below s args y 3 8 (PreOf R mc ms Pc) (PostOf Qc mc ms free) (vx_Post XC mc ms free) := vx_back (bytes := bytes) (maxL := maxL) (ret := ret) hM hp.1 hrc hrs hfr hlo hws hcw (fun a' U hW => word_at hW (Or.inl (by first | rfl | simp [Cond.onTables, Cond.keeps, Cond.steady])) hini)
  obtain ⟨hx, hb, hml, ho, -⟩ := S
  have hPc := hp.2
  intro T hT X
  rcases vx_callSN X hx (bytes := bytes) (maxL := maxL) (ret := ret) ho hl hx1 hini hcode hy hK hg (hsize.trans hml.symm) (argsL := As) (rest := rest) (fun sig h => hn.trans (hlen sig h)) hstack hW (by rw [hb]; exact hdg)
    (fun vm₁ hW₁ => ⟨hf.1, hf.2, hPc (T.setVm vm₁) hT hW₁⟩) with ⟨v, vm₁, ⟨U', l2, c2, s2⟩, hW₁, X', ⟨g', mk, t, L, e1, e2, hq, h1, hL, h2, h3⟩, st⟩ | ⟨q, vm₁, ⟨U', l2, c2, s2⟩, hW₁, X', ⟨g', mk, t, L, E, ce, e1, e2, hq, hce, hcv, hcl, h1, hL, h2, h3⟩, st⟩
  · dsimp only [Pt.U, Pt.locs, Pt.cells, Pt.slots] at X' e1 e2 h1 h2 h3 st
    subst h1; subst h2; subst h3
    exact Or.inl ⟨v, (T.setVm vm₁).calling g' mk As.toArray, t, U', L, hT, X', hL, e1, e2, hq, st⟩
  · dsimp only [Pt.U, Pt.locs, Pt.cells, Pt.slots] at X' e1 e2 h1 h2 h3 st hcl
    subst h1; subst h2; subst h3
    exact Or.inr ⟨q, (T.setVm vm₁).calling g' mk As.toArray, t, U', L, E, ce, hT, X', hL, e1, e2, hq, hce, hcv, vx_cls hW₁ hcl, st⟩
end
/-! ===== END ===== -/
end
section
-- ===== PART A: goes FIRST, ahead of the names: the tables' words, and 'selects' of the private methods out of them =====
/-- a private method of a class that the tables say can be made, by its rows of tables_1 -/
def lw_okq (q : MethodName × Nat) : Prop := (q.1.cls ≠ "java/lang/invoke/MethodHandle" ∧ q.1.cls ≠ "java/lang/invoke/VarHandle") ∧ Cond.instantiable q.1.cls q.2 ∈ tables_1 ∧ Cond.privateMethod q.1 ∈ tables_1 ∧ Cond.instanceMethod q.1 ∈ tables_1
theorem lw_p0 : lw_okq (⟨"PatentPool", "appendFour", "(I)V"⟩, 10) := ⟨⟨by decide +kernel, by decide +kernel⟩, List.mem_of_getElem? (i := 26) (by decide +kernel), List.mem_of_getElem? (i := 394) (by decide +kernel), List.mem_of_getElem? (i := 395) (by decide +kernel)⟩
theorem lw_p1 : lw_okq (⟨"PatentPool", "weighMembers", "()V"⟩, 10) := ⟨⟨by decide +kernel, by decide +kernel⟩, List.mem_of_getElem? (i := 26) (by decide +kernel), List.mem_of_getElem? (i := 414) (by decide +kernel), List.mem_of_getElem? (i := 415) (by decide +kernel)⟩
theorem lw_p2 : lw_okq (⟨"PatentPool$Assessor", "versionsOn", "(II)I"⟩, 2) := ⟨⟨by decide +kernel, by decide +kernel⟩, List.mem_of_getElem? (i := 302) (by decide +kernel), List.mem_of_getElem? (i := 422) (by decide +kernel), List.mem_of_getElem? (i := 423) (by decide +kernel)⟩
theorem lw_p3 : lw_okq (⟨"PatentPool$Assessor", "outcome", "(II)I"⟩, 2) := ⟨⟨by decide +kernel, by decide +kernel⟩, List.mem_of_getElem? (i := 302) (by decide +kernel), List.mem_of_getElem? (i := 451) (by decide +kernel), List.mem_of_getElem? (i := 452) (by decide +kernel)⟩
theorem lw_p4 : lw_okq (⟨"java/lang/Throwable", "fillInStackTrace", "(I)Ljava/lang/Throwable;"⟩, 6) := ⟨⟨by decide +kernel, by decide +kernel⟩, List.mem_of_getElem? (i := 542) (by decide +kernel), List.mem_of_getElem? (i := 540) (by decide +kernel), List.mem_of_getElem? (i := 541) (by decide +kernel)⟩
theorem lw_p5 : lw_okq (⟨"PatentPool$Tokens", "endOfRun", "(II)I"⟩, 6) := ⟨⟨by decide +kernel, by decide +kernel⟩, List.mem_of_getElem? (i := 246) (by decide +kernel), List.mem_of_getElem? (i := 586) (by decide +kernel), List.mem_of_getElem? (i := 587) (by decide +kernel)⟩
theorem lw_p6 : lw_okq (⟨"PatentPool$Tokens", "numberAtStart", "()I"⟩, 6) := ⟨⟨by decide +kernel, by decide +kernel⟩, List.mem_of_getElem? (i := 246) (by decide +kernel), List.mem_of_getElem? (i := 590) (by decide +kernel), List.mem_of_getElem? (i := 591) (by decide +kernel)⟩
theorem lw_p7 : lw_okq (⟨"PatentPool$Parser", "readStatement", "()I"⟩, 7) := ⟨⟨by decide +kernel, by decide +kernel⟩, List.mem_of_getElem? (i := 34) (by decide +kernel), List.mem_of_getElem? (i := 594) (by decide +kernel), List.mem_of_getElem? (i := 595) (by decide +kernel)⟩
theorem lw_p8 : lw_okq (⟨"PatentPool$Parser", "statementAtToken", "()I"⟩, 7) := ⟨⟨by decide +kernel, by decide +kernel⟩, List.mem_of_getElem? (i := 34) (by decide +kernel), List.mem_of_getElem? (i := 598) (by decide +kernel), List.mem_of_getElem? (i := 599) (by decide +kernel)⟩
theorem lw_p9 : lw_okq (⟨"PatentPool$Parser", "admit", "(I)I"⟩, 7) := ⟨⟨by decide +kernel, by decide +kernel⟩, List.mem_of_getElem? (i := 34) (by decide +kernel), List.mem_of_getElem? (i := 666) (by decide +kernel), List.mem_of_getElem? (i := 667) (by decide +kernel)⟩
theorem lw_p10 : lw_okq (⟨"PatentPool$Parser", "readSum", "(I)I"⟩, 7) := ⟨⟨by decide +kernel, by decide +kernel⟩, List.mem_of_getElem? (i := 34) (by decide +kernel), List.mem_of_getElem? (i := 672) (by decide +kernel), List.mem_of_getElem? (i := 673) (by decide +kernel)⟩
theorem lw_p11 : lw_okq (⟨"PatentPool$Parser", "readTerm", "(I)I"⟩, 7) := ⟨⟨by decide +kernel, by decide +kernel⟩, List.mem_of_getElem? (i := 34) (by decide +kernel), List.mem_of_getElem? (i := 676) (by decide +kernel), List.mem_of_getElem? (i := 677) (by decide +kernel)⟩
theorem lw_p12 : lw_okq (⟨"PatentPool$Parser", "readFactor", "(I)I"⟩, 7) := ⟨⟨by decide +kernel, by decide +kernel⟩, List.mem_of_getElem? (i := 34) (by decide +kernel), List.mem_of_getElem? (i := 680) (by decide +kernel), List.mem_of_getElem? (i := 681) (by decide +kernel)⟩
theorem lw_p13 : lw_okq (⟨"PatentPool$Parser", "readNumbers", "(I)I"⟩, 7) := ⟨⟨by decide +kernel, by decide +kernel⟩, List.mem_of_getElem? (i := 34) (by decide +kernel), List.mem_of_getElem? (i := 692) (by decide +kernel), List.mem_of_getElem? (i := 693) (by decide +kernel)⟩
theorem lw_p14 : lw_okq (⟨"PatentPool$Parser", "readOne", "(II)I"⟩, 7) := ⟨⟨by decide +kernel, by decide +kernel⟩, List.mem_of_getElem? (i := 34) (by decide +kernel), List.mem_of_getElem? (i := 696) (by decide +kernel), List.mem_of_getElem? (i := 697) (by decide +kernel)⟩
theorem lw_p15 : lw_okq (⟨"PatentPool$Parser", "readTwo", "(IIII)I"⟩, 7) := ⟨⟨by decide +kernel, by decide +kernel⟩, List.mem_of_getElem? (i := 34) (by decide +kernel), List.mem_of_getElem? (i := 700) (by decide +kernel), List.mem_of_getElem? (i := 701) (by decide +kernel)⟩
def lw_privs_1 : List (MethodName × Nat) := [(⟨"PatentPool", "appendFour", "(I)V"⟩, 10), (⟨"PatentPool", "weighMembers", "()V"⟩, 10), (⟨"PatentPool$Assessor", "versionsOn", "(II)I"⟩, 2), (⟨"PatentPool$Assessor", "outcome", "(II)I"⟩, 2), (⟨"java/lang/Throwable", "fillInStackTrace", "(I)Ljava/lang/Throwable;"⟩, 6), (⟨"PatentPool$Tokens", "endOfRun", "(II)I"⟩, 6), (⟨"PatentPool$Tokens", "numberAtStart", "()I"⟩, 6), (⟨"PatentPool$Parser", "readStatement", "()I"⟩, 7), (⟨"PatentPool$Parser", "statementAtToken", "()I"⟩, 7), (⟨"PatentPool$Parser", "admit", "(I)I"⟩, 7), (⟨"PatentPool$Parser", "readSum", "(I)I"⟩, 7), (⟨"PatentPool$Parser", "readTerm", "(I)I"⟩, 7), (⟨"PatentPool$Parser", "readFactor", "(I)I"⟩, 7), (⟨"PatentPool$Parser", "readNumbers", "(I)I"⟩, 7), (⟨"PatentPool$Parser", "readOne", "(II)I"⟩, 7), (⟨"PatentPool$Parser", "readTwo", "(IIII)I"⟩, 7)]
theorem lw_r1 : ∀ q ∈ lw_privs_1, lw_okq q := List.forall_mem_cons.mpr ⟨lw_p0, List.forall_mem_cons.mpr ⟨lw_p1, List.forall_mem_cons.mpr ⟨lw_p2, List.forall_mem_cons.mpr ⟨lw_p3, List.forall_mem_cons.mpr ⟨lw_p4, List.forall_mem_cons.mpr ⟨lw_p5, List.forall_mem_cons.mpr ⟨lw_p6, List.forall_mem_cons.mpr ⟨lw_p7, List.forall_mem_cons.mpr ⟨lw_p8, List.forall_mem_cons.mpr ⟨lw_p9, List.forall_mem_cons.mpr ⟨lw_p10, List.forall_mem_cons.mpr ⟨lw_p11, List.forall_mem_cons.mpr ⟨lw_p12, List.forall_mem_cons.mpr ⟨lw_p13, List.forall_mem_cons.mpr ⟨lw_p14, List.forall_mem_cons.mpr ⟨lw_p15, fun _ h => absurd h List.not_mem_nil⟩⟩⟩⟩⟩⟩⟩⟩⟩⟩⟩⟩⟩⟩⟩⟩
theorem lw_p16 : lw_okq (⟨"PatentPool$Parser", "keep", "(I)V"⟩, 7) := ⟨⟨by decide +kernel, by decide +kernel⟩, List.mem_of_getElem? (i := 34) (by decide +kernel), List.mem_of_getElem? (i := 704) (by decide +kernel), List.mem_of_getElem? (i := 705) (by decide +kernel)⟩
theorem lw_p17 : lw_okq (⟨"PatentPool$Parser", "keepRule", "(I)V"⟩, 7) := ⟨⟨by decide +kernel, by decide +kernel⟩, List.mem_of_getElem? (i := 34) (by decide +kernel), List.mem_of_getElem? (i := 724) (by decide +kernel), List.mem_of_getElem? (i := 725) (by decide +kernel)⟩
theorem lw_p18 : lw_okq (⟨"PatentPool", "startOver", "()V"⟩, 10) := ⟨⟨by decide +kernel, by decide +kernel⟩, List.mem_of_getElem? (i := 26) (by decide +kernel), List.mem_of_getElem? (i := 728) (by decide +kernel), List.mem_of_getElem? (i := 729) (by decide +kernel)⟩
theorem lw_p19 : lw_okq (⟨"PatentPool", "checkPatent", "(I)V"⟩, 10) := ⟨⟨by decide +kernel, by decide +kernel⟩, List.mem_of_getElem? (i := 26) (by decide +kernel), List.mem_of_getElem? (i := 767) (by decide +kernel), List.mem_of_getElem? (i := 768) (by decide +kernel)⟩
theorem lw_p20 : lw_okq (⟨"PatentPool", "checkVersion", "(I)V"⟩, 10) := ⟨⟨by decide +kernel, by decide +kernel⟩, List.mem_of_getElem? (i := 26) (by decide +kernel), List.mem_of_getElem? (i := 787) (by decide +kernel), List.mem_of_getElem? (i := 788) (by decide +kernel)⟩
theorem lw_p21 : lw_okq (⟨"PatentPool", "checkMember", "(I)V"⟩, 10) := ⟨⟨by decide +kernel, by decide +kernel⟩, List.mem_of_getElem? (i := 26) (by decide +kernel), List.mem_of_getElem? (i := 827) (by decide +kernel), List.mem_of_getElem? (i := 828) (by decide +kernel)⟩
theorem lw_p22 : lw_okq (⟨"PatentPool$Divider", "closeAbove", "(J)Z"⟩, 5) := ⟨⟨by decide +kernel, by decide +kernel⟩, List.mem_of_getElem? (i := 315) (by decide +kernel), List.mem_of_getElem? (i := 862) (by decide +kernel), List.mem_of_getElem? (i := 863) (by decide +kernel)⟩
theorem lw_p23 : lw_okq (⟨"PatentPool$Divider", "openWeight", "()J"⟩, 5) := ⟨⟨by decide +kernel, by decide +kernel⟩, List.mem_of_getElem? (i := 315) (by decide +kernel), List.mem_of_getElem? (i := 866) (by decide +kernel), List.mem_of_getElem? (i := 867) (by decide +kernel)⟩
theorem lw_p24 : lw_okq (⟨"PatentPool$Divider", "giveQuotas", "()V"⟩, 5) := ⟨⟨by decide +kernel, by decide +kernel⟩, List.mem_of_getElem? (i := 315) (by decide +kernel), List.mem_of_getElem? (i := 870) (by decide +kernel), List.mem_of_getElem? (i := 871) (by decide +kernel)⟩
theorem lw_p25 : lw_okq (⟨"PatentPool$Divider", "giveRemainders", "(J)V"⟩, 5) := ⟨⟨by decide +kernel, by decide +kernel⟩, List.mem_of_getElem? (i := 315) (by decide +kernel), List.mem_of_getElem? (i := 874) (by decide +kernel), List.mem_of_getElem? (i := 875) (by decide +kernel)⟩
theorem lw_p26 : lw_okq (⟨"PatentPool$Divider", "openWithLargestRemainder", "()I"⟩, 5) := ⟨⟨by decide +kernel, by decide +kernel⟩, List.mem_of_getElem? (i := 315) (by decide +kernel), List.mem_of_getElem? (i := 878) (by decide +kernel), List.mem_of_getElem? (i := 879) (by decide +kernel)⟩
theorem lw_p27 : lw_okq (⟨"PatentPool", "checkLicensee", "(I)V"⟩, 10) := ⟨⟨by decide +kernel, by decide +kernel⟩, List.mem_of_getElem? (i := 26) (by decide +kernel), List.mem_of_getElem? (i := 896) (by decide +kernel), List.mem_of_getElem? (i := 897) (by decide +kernel)⟩
theorem lw_p28 : lw_okq (⟨"PatentPool", "royaltyOf", "(III)J"⟩, 10) := ⟨⟨by decide +kernel, by decide +kernel⟩, List.mem_of_getElem? (i := 26) (by decide +kernel), List.mem_of_getElem? (i := 1005) (by decide +kernel), List.mem_of_getElem? (i := 1006) (by decide +kernel)⟩
theorem lw_p29 : lw_okq (⟨"PatentPool", "checkSlot", "(I)V"⟩, 10) := ⟨⟨by decide +kernel, by decide +kernel⟩, List.mem_of_getElem? (i := 26) (by decide +kernel), List.mem_of_getElem? (i := 1071) (by decide +kernel), List.mem_of_getElem? (i := 1072) (by decide +kernel)⟩
theorem lw_p30 : lw_okq (⟨"PatentPoolModel", "clearDraft", "()V"⟩, 31) := ⟨⟨by decide +kernel, by decide +kernel⟩, List.mem_of_getElem? (i := 1084) (by decide +kernel), List.mem_of_getElem? (i := 1090) (by decide +kernel), List.mem_of_getElem? (i := 1091) (by decide +kernel)⟩
theorem lw_p31 : lw_okq (⟨"PatentPoolModel", "emit", "(I)Z"⟩, 31) := ⟨⟨by decide +kernel, by decide +kernel⟩, List.mem_of_getElem? (i := 1084) (by decide +kernel), List.mem_of_getElem? (i := 1094) (by decide +kernel), List.mem_of_getElem? (i := 1095) (by decide +kernel)⟩
def lw_privs_2 : List (MethodName × Nat) := [(⟨"PatentPool$Parser", "keep", "(I)V"⟩, 7), (⟨"PatentPool$Parser", "keepRule", "(I)V"⟩, 7), (⟨"PatentPool", "startOver", "()V"⟩, 10), (⟨"PatentPool", "checkPatent", "(I)V"⟩, 10), (⟨"PatentPool", "checkVersion", "(I)V"⟩, 10), (⟨"PatentPool", "checkMember", "(I)V"⟩, 10), (⟨"PatentPool$Divider", "closeAbove", "(J)Z"⟩, 5), (⟨"PatentPool$Divider", "openWeight", "()J"⟩, 5), (⟨"PatentPool$Divider", "giveQuotas", "()V"⟩, 5), (⟨"PatentPool$Divider", "giveRemainders", "(J)V"⟩, 5), (⟨"PatentPool$Divider", "openWithLargestRemainder", "()I"⟩, 5), (⟨"PatentPool", "checkLicensee", "(I)V"⟩, 10), (⟨"PatentPool", "royaltyOf", "(III)J"⟩, 10), (⟨"PatentPool", "checkSlot", "(I)V"⟩, 10), (⟨"PatentPoolModel", "clearDraft", "()V"⟩, 31), (⟨"PatentPoolModel", "emit", "(I)Z"⟩, 31)]
theorem lw_r2 : ∀ q ∈ lw_privs_2, lw_okq q := List.forall_mem_cons.mpr ⟨lw_p16, List.forall_mem_cons.mpr ⟨lw_p17, List.forall_mem_cons.mpr ⟨lw_p18, List.forall_mem_cons.mpr ⟨lw_p19, List.forall_mem_cons.mpr ⟨lw_p20, List.forall_mem_cons.mpr ⟨lw_p21, List.forall_mem_cons.mpr ⟨lw_p22, List.forall_mem_cons.mpr ⟨lw_p23, List.forall_mem_cons.mpr ⟨lw_p24, List.forall_mem_cons.mpr ⟨lw_p25, List.forall_mem_cons.mpr ⟨lw_p26, List.forall_mem_cons.mpr ⟨lw_p27, List.forall_mem_cons.mpr ⟨lw_p28, List.forall_mem_cons.mpr ⟨lw_p29, List.forall_mem_cons.mpr ⟨lw_p30, List.forall_mem_cons.mpr ⟨lw_p31, fun _ h => absurd h List.not_mem_nil⟩⟩⟩⟩⟩⟩⟩⟩⟩⟩⟩⟩⟩⟩⟩⟩
theorem lw_p32 : lw_okq (⟨"PatentPoolModel", "liftsAll", "()V"⟩, 31) := ⟨⟨by decide +kernel, by decide +kernel⟩, List.mem_of_getElem? (i := 1084) (by decide +kernel), List.mem_of_getElem? (i := 1098) (by decide +kernel), List.mem_of_getElem? (i := 1099) (by decide +kernel)⟩
theorem lw_p33 : lw_okq (⟨"PatentPoolModel", "begins", "()V"⟩, 31) := ⟨⟨by decide +kernel, by decide +kernel⟩, List.mem_of_getElem? (i := 1084) (by decide +kernel), List.mem_of_getElem? (i := 1105) (by decide +kernel), List.mem_of_getElem? (i := 1106) (by decide +kernel)⟩
theorem lw_p34 : lw_okq (⟨"PatentPoolModel", "bytesOf", "(I)V"⟩, 31) := ⟨⟨by decide +kernel, by decide +kernel⟩, List.mem_of_getElem? (i := 1084) (by decide +kernel), List.mem_of_getElem? (i := 1211) (by decide +kernel), List.mem_of_getElem? (i := 1212) (by decide +kernel)⟩
theorem lw_p35 : lw_okq (⟨"PatentPoolModel", "throwsIf", "(ZI)Z"⟩, 31) := ⟨⟨by decide +kernel, by decide +kernel⟩, List.mem_of_getElem? (i := 1084) (by decide +kernel), List.mem_of_getElem? (i := 1222) (by decide +kernel), List.mem_of_getElem? (i := 1223) (by decide +kernel)⟩
theorem lw_p36 : lw_okq (⟨"PatentPoolModel", "advance", "()V"⟩, 31) := ⟨⟨by decide +kernel, by decide +kernel⟩, List.mem_of_getElem? (i := 1084) (by decide +kernel), List.mem_of_getElem? (i := 1226) (by decide +kernel), List.mem_of_getElem? (i := 1227) (by decide +kernel)⟩
theorem lw_p37 : lw_okq (⟨"PatentPoolModel", "byteAt", "(I)I"⟩, 31) := ⟨⟨by decide +kernel, by decide +kernel⟩, List.mem_of_getElem? (i := 1084) (by decide +kernel), List.mem_of_getElem? (i := 1230) (by decide +kernel), List.mem_of_getElem? (i := 1231) (by decide +kernel)⟩
theorem lw_p38 : lw_okq (⟨"PatentPoolModel", "statement", "()Z"⟩, 31) := ⟨⟨by decide +kernel, by decide +kernel⟩, List.mem_of_getElem? (i := 1084) (by decide +kernel), List.mem_of_getElem? (i := 1241) (by decide +kernel), List.mem_of_getElem? (i := 1242) (by decide +kernel)⟩
theorem lw_p39 : lw_okq (⟨"PatentPoolModel", "isWord", "(Ljava/lang/String;)Z"⟩, 31) := ⟨⟨by decide +kernel, by decide +kernel⟩, List.mem_of_getElem? (i := 1084) (by decide +kernel), List.mem_of_getElem? (i := 1246) (by decide +kernel), List.mem_of_getElem? (i := 1247) (by decide +kernel)⟩
theorem lw_p40 : lw_okq (⟨"PatentPoolModel", "oneMore", "(II)Z"⟩, 31) := ⟨⟨by decide +kernel, by decide +kernel⟩, List.mem_of_getElem? (i := 1084) (by decide +kernel), List.mem_of_getElem? (i := 1252) (by decide +kernel), List.mem_of_getElem? (i := 1253) (by decide +kernel)⟩
theorem lw_p41 : lw_okq (⟨"PatentPoolModel", "starts", "(IZ)Z"⟩, 31) := ⟨⟨by decide +kernel, by decide +kernel⟩, List.mem_of_getElem? (i := 1084) (by decide +kernel), List.mem_of_getElem? (i := 1256) (by decide +kernel), List.mem_of_getElem? (i := 1257) (by decide +kernel)⟩
theorem lw_p42 : lw_okq (⟨"PatentPoolModel", "fails", "(I)Z"⟩, 31) := ⟨⟨by decide +kernel, by decide +kernel⟩, List.mem_of_getElem? (i := 1084) (by decide +kernel), List.mem_of_getElem? (i := 1260) (by decide +kernel), List.mem_of_getElem? (i := 1261) (by decide +kernel)⟩
theorem lw_p43 : lw_okq (⟨"PatentPoolModel", "lays", "([IIII)Z"⟩, 31) := ⟨⟨by decide +kernel, by decide +kernel⟩, List.mem_of_getElem? (i := 1084) (by decide +kernel), List.mem_of_getElem? (i := 1264) (by decide +kernel), List.mem_of_getElem? (i := 1265) (by decide +kernel)⟩
theorem lw_p44 : lw_okq (⟨"PatentPoolModel", "takes", "(II)Z"⟩, 31) := ⟨⟨by decide +kernel, by decide +kernel⟩, List.mem_of_getElem? (i := 1084) (by decide +kernel), List.mem_of_getElem? (i := 1268) (by decide +kernel), List.mem_of_getElem? (i := 1269) (by decide +kernel)⟩
theorem lw_p45 : lw_okq (⟨"PatentPoolModel", "counted", "(I)Z"⟩, 31) := ⟨⟨by decide +kernel, by decide +kernel⟩, List.mem_of_getElem? (i := 1084) (by decide +kernel), List.mem_of_getElem? (i := 1272) (by decide +kernel), List.mem_of_getElem? (i := 1273) (by decide +kernel)⟩
theorem lw_p46 : lw_okq (⟨"PatentPoolModel", "setting", "()Z"⟩, 31) := ⟨⟨by decide +kernel, by decide +kernel⟩, List.mem_of_getElem? (i := 1084) (by decide +kernel), List.mem_of_getElem? (i := 1279) (by decide +kernel), List.mem_of_getElem? (i := 1280) (by decide +kernel)⟩
theorem lw_p47 : lw_okq (⟨"PatentPoolModel", "once", "(I)Z"⟩, 31) := ⟨⟨by decide +kernel, by decide +kernel⟩, List.mem_of_getElem? (i := 1084) (by decide +kernel), List.mem_of_getElem? (i := 1284) (by decide +kernel), List.mem_of_getElem? (i := 1285) (by decide +kernel)⟩
def lw_privs_3 : List (MethodName × Nat) := [(⟨"PatentPoolModel", "liftsAll", "()V"⟩, 31), (⟨"PatentPoolModel", "begins", "()V"⟩, 31), (⟨"PatentPoolModel", "bytesOf", "(I)V"⟩, 31), (⟨"PatentPoolModel", "throwsIf", "(ZI)Z"⟩, 31), (⟨"PatentPoolModel", "advance", "()V"⟩, 31), (⟨"PatentPoolModel", "byteAt", "(I)I"⟩, 31), (⟨"PatentPoolModel", "statement", "()Z"⟩, 31), (⟨"PatentPoolModel", "isWord", "(Ljava/lang/String;)Z"⟩, 31), (⟨"PatentPoolModel", "oneMore", "(II)Z"⟩, 31), (⟨"PatentPoolModel", "starts", "(IZ)Z"⟩, 31), (⟨"PatentPoolModel", "fails", "(I)Z"⟩, 31), (⟨"PatentPoolModel", "lays", "([IIII)Z"⟩, 31), (⟨"PatentPoolModel", "takes", "(II)Z"⟩, 31), (⟨"PatentPoolModel", "counted", "(I)Z"⟩, 31), (⟨"PatentPoolModel", "setting", "()Z"⟩, 31), (⟨"PatentPoolModel", "once", "(I)Z"⟩, 31)]
theorem lw_r3 : ∀ q ∈ lw_privs_3, lw_okq q := List.forall_mem_cons.mpr ⟨lw_p32, List.forall_mem_cons.mpr ⟨lw_p33, List.forall_mem_cons.mpr ⟨lw_p34, List.forall_mem_cons.mpr ⟨lw_p35, List.forall_mem_cons.mpr ⟨lw_p36, List.forall_mem_cons.mpr ⟨lw_p37, List.forall_mem_cons.mpr ⟨lw_p38, List.forall_mem_cons.mpr ⟨lw_p39, List.forall_mem_cons.mpr ⟨lw_p40, List.forall_mem_cons.mpr ⟨lw_p41, List.forall_mem_cons.mpr ⟨lw_p42, List.forall_mem_cons.mpr ⟨lw_p43, List.forall_mem_cons.mpr ⟨lw_p44, List.forall_mem_cons.mpr ⟨lw_p45, List.forall_mem_cons.mpr ⟨lw_p46, List.forall_mem_cons.mpr ⟨lw_p47, fun _ h => absurd h List.not_mem_nil⟩⟩⟩⟩⟩⟩⟩⟩⟩⟩⟩⟩⟩⟩⟩⟩
theorem lw_p48 : lw_okq (⟨"PatentPoolModel", "sets", "(III)Z"⟩, 31) := ⟨⟨by decide +kernel, by decide +kernel⟩, List.mem_of_getElem? (i := 1084) (by decide +kernel), List.mem_of_getElem? (i := 1291) (by decide +kernel), List.mem_of_getElem? (i := 1292) (by decide +kernel)⟩
theorem lw_p49 : lw_okq (⟨"PatentPoolModel", "sum", "()Z"⟩, 31) := ⟨⟨by decide +kernel, by decide +kernel⟩, List.mem_of_getElem? (i := 1084) (by decide +kernel), List.mem_of_getElem? (i := 1302) (by decide +kernel), List.mem_of_getElem? (i := 1303) (by decide +kernel)⟩
theorem lw_p50 : lw_okq (⟨"PatentPoolModel", "term", "()Z"⟩, 31) := ⟨⟨by decide +kernel, by decide +kernel⟩, List.mem_of_getElem? (i := 1084) (by decide +kernel), List.mem_of_getElem? (i := 1306) (by decide +kernel), List.mem_of_getElem? (i := 1307) (by decide +kernel)⟩
theorem lw_p51 : lw_okq (⟨"PatentPoolModel", "factor", "()Z"⟩, 31) := ⟨⟨by decide +kernel, by decide +kernel⟩, List.mem_of_getElem? (i := 1084) (by decide +kernel), List.mem_of_getElem? (i := 1310) (by decide +kernel), List.mem_of_getElem? (i := 1311) (by decide +kernel)⟩
theorem lw_p52 : lw_okq (⟨"PatentPoolModel", "isSignHere", "(I)Z"⟩, 31) := ⟨⟨by decide +kernel, by decide +kernel⟩, List.mem_of_getElem? (i := 1084) (by decide +kernel), List.mem_of_getElem? (i := 1314) (by decide +kernel), List.mem_of_getElem? (i := 1315) (by decide +kernel)⟩
theorem lw_p53 : lw_okq (⟨"PatentPoolModel", "closes", "(I)Z"⟩, 31) := ⟨⟨by decide +kernel, by decide +kernel⟩, List.mem_of_getElem? (i := 1084) (by decide +kernel), List.mem_of_getElem? (i := 1318) (by decide +kernel), List.mem_of_getElem? (i := 1319) (by decide +kernel)⟩
theorem lw_p54 : lw_okq (⟨"PatentPoolModel", "noPair", "(II)Z"⟩, 31) := ⟨⟨by decide +kernel, by decide +kernel⟩, List.mem_of_getElem? (i := 1084) (by decide +kernel), List.mem_of_getElem? (i := 1346) (by decide +kernel), List.mem_of_getElem? (i := 1347) (by decide +kernel)⟩
theorem lw_p55 : lw_okq (⟨"PatentPoolModel", "no", "(JJ)Z"⟩, 31) := ⟨⟨by decide +kernel, by decide +kernel⟩, List.mem_of_getElem? (i := 1084) (by decide +kernel), List.mem_of_getElem? (i := 1350) (by decide +kernel), List.mem_of_getElem? (i := 1351) (by decide +kernel)⟩
theorem lw_p56 : lw_okq (⟨"PatentPoolModel", "decided", "(II)I"⟩, 31) := ⟨⟨by decide +kernel, by decide +kernel⟩, List.mem_of_getElem? (i := 1084) (by decide +kernel), List.mem_of_getElem? (i := 1354) (by decide +kernel), List.mem_of_getElem? (i := 1355) (by decide +kernel)⟩
theorem lw_p57 : lw_okq (⟨"PatentPoolModel", "isPositive", "(II)Z"⟩, 31) := ⟨⟨by decide +kernel, by decide +kernel⟩, List.mem_of_getElem? (i := 1084) (by decide +kernel), List.mem_of_getElem? (i := 1364) (by decide +kernel), List.mem_of_getElem? (i := 1365) (by decide +kernel)⟩
theorem lw_p58 : lw_okq (⟨"PatentPoolModel", "isCounted", "(IIJ)Z"⟩, 31) := ⟨⟨by decide +kernel, by decide +kernel⟩, List.mem_of_getElem? (i := 1084) (by decide +kernel), List.mem_of_getElem? (i := 1380) (by decide +kernel), List.mem_of_getElem? (i := 1381) (by decide +kernel)⟩
theorem lw_p59 : lw_okq (⟨"PatentPoolModel", "isReleased", "(IJ)Z"⟩, 31) := ⟨⟨by decide +kernel, by decide +kernel⟩, List.mem_of_getElem? (i := 1084) (by decide +kernel), List.mem_of_getElem? (i := 1384) (by decide +kernel), List.mem_of_getElem? (i := 1385) (by decide +kernel)⟩
theorem lw_p60 : lw_okq (⟨"PatentPoolModel", "isInForce", "(IJ)Z"⟩, 31) := ⟨⟨by decide +kernel, by decide +kernel⟩, List.mem_of_getElem? (i := 1084) (by decide +kernel), List.mem_of_getElem? (i := 1388) (by decide +kernel), List.mem_of_getElem? (i := 1389) (by decide +kernel)⟩
theorem lw_p61 : lw_okq (⟨"PatentPoolModel", "noMember", "(I)Z"⟩, 31) := ⟨⟨by decide +kernel, by decide +kernel⟩, List.mem_of_getElem? (i := 1084) (by decide +kernel), List.mem_of_getElem? (i := 1396) (by decide +kernel), List.mem_of_getElem? (i := 1397) (by decide +kernel)⟩
theorem lw_p62 : lw_okq (⟨"PatentPoolModel", "weightOn", "(IJ)I"⟩, 31) := ⟨⟨by decide +kernel, by decide +kernel⟩, List.mem_of_getElem? (i := 1084) (by decide +kernel), List.mem_of_getElem? (i := 1404) (by decide +kernel), List.mem_of_getElem? (i := 1405) (by decide +kernel)⟩
theorem lw_p63 : lw_okq (⟨"PatentPoolModel", "worth", "()I"⟩, 31) := ⟨⟨by decide +kernel, by decide +kernel⟩, List.mem_of_getElem? (i := 1084) (by decide +kernel), List.mem_of_getElem? (i := 1408) (by decide +kernel), List.mem_of_getElem? (i := 1409) (by decide +kernel)⟩
def lw_privs_4 : List (MethodName × Nat) := [(⟨"PatentPoolModel", "sets", "(III)Z"⟩, 31), (⟨"PatentPoolModel", "sum", "()Z"⟩, 31), (⟨"PatentPoolModel", "term", "()Z"⟩, 31), (⟨"PatentPoolModel", "factor", "()Z"⟩, 31), (⟨"PatentPoolModel", "isSignHere", "(I)Z"⟩, 31), (⟨"PatentPoolModel", "closes", "(I)Z"⟩, 31), (⟨"PatentPoolModel", "noPair", "(II)Z"⟩, 31), (⟨"PatentPoolModel", "no", "(JJ)Z"⟩, 31), (⟨"PatentPoolModel", "decided", "(II)I"⟩, 31), (⟨"PatentPoolModel", "isPositive", "(II)Z"⟩, 31), (⟨"PatentPoolModel", "isCounted", "(IIJ)Z"⟩, 31), (⟨"PatentPoolModel", "isReleased", "(IJ)Z"⟩, 31), (⟨"PatentPoolModel", "isInForce", "(IJ)Z"⟩, 31), (⟨"PatentPoolModel", "noMember", "(I)Z"⟩, 31), (⟨"PatentPoolModel", "weightOn", "(IJ)I"⟩, 31), (⟨"PatentPoolModel", "worth", "()I"⟩, 31)]
theorem lw_r4 : ∀ q ∈ lw_privs_4, lw_okq q := List.forall_mem_cons.mpr ⟨lw_p48, List.forall_mem_cons.mpr ⟨lw_p49, List.forall_mem_cons.mpr ⟨lw_p50, List.forall_mem_cons.mpr ⟨lw_p51, List.forall_mem_cons.mpr ⟨lw_p52, List.forall_mem_cons.mpr ⟨lw_p53, List.forall_mem_cons.mpr ⟨lw_p54, List.forall_mem_cons.mpr ⟨lw_p55, List.forall_mem_cons.mpr ⟨lw_p56, List.forall_mem_cons.mpr ⟨lw_p57, List.forall_mem_cons.mpr ⟨lw_p58, List.forall_mem_cons.mpr ⟨lw_p59, List.forall_mem_cons.mpr ⟨lw_p60, List.forall_mem_cons.mpr ⟨lw_p61, List.forall_mem_cons.mpr ⟨lw_p62, List.forall_mem_cons.mpr ⟨lw_p63, fun _ h => absurd h List.not_mem_nil⟩⟩⟩⟩⟩⟩⟩⟩⟩⟩⟩⟩⟩⟩⟩⟩
theorem lw_p64 : lw_okq (⟨"PatentPoolModel", "shares", "(J)J"⟩, 31) := ⟨⟨by decide +kernel, by decide +kernel⟩, List.mem_of_getElem? (i := 1084) (by decide +kernel), List.mem_of_getElem? (i := 1426) (by decide +kernel), List.mem_of_getElem? (i := 1427) (by decide +kernel)⟩
theorem lw_p65 : lw_okq (⟨"PatentPoolModel", "weighs", "()V"⟩, 31) := ⟨⟨by decide +kernel, by decide +kernel⟩, List.mem_of_getElem? (i := 1084) (by decide +kernel), List.mem_of_getElem? (i := 1430) (by decide +kernel), List.mem_of_getElem? (i := 1431) (by decide +kernel)⟩
theorem lw_p66 : lw_okq (⟨"PatentPoolModel", "openOnes", "()J"⟩, 31) := ⟨⟨by decide +kernel, by decide +kernel⟩, List.mem_of_getElem? (i := 1084) (by decide +kernel), List.mem_of_getElem? (i := 1435) (by decide +kernel), List.mem_of_getElem? (i := 1436) (by decide +kernel)⟩
theorem lw_p67 : lw_okq (⟨"PatentPoolModel", "rounds", "(JJJ)J"⟩, 31) := ⟨⟨by decide +kernel, by decide +kernel⟩, List.mem_of_getElem? (i := 1084) (by decide +kernel), List.mem_of_getElem? (i := 1439) (by decide +kernel), List.mem_of_getElem? (i := 1440) (by decide +kernel)⟩
theorem lw_p68 : lw_okq (⟨"PatentPoolModel", "openAt", "(IJJ)I"⟩, 31) := ⟨⟨by decide +kernel, by decide +kernel⟩, List.mem_of_getElem? (i := 1084) (by decide +kernel), List.mem_of_getElem? (i := 1443) (by decide +kernel), List.mem_of_getElem? (i := 1444) (by decide +kernel)⟩
theorem lw_p69 : lw_okq (⟨"PatentPoolModel", "isMajority", "(I)Z"⟩, 31) := ⟨⟨by decide +kernel, by decide +kernel⟩, List.mem_of_getElem? (i := 1084) (by decide +kernel), List.mem_of_getElem? (i := 1452) (by decide +kernel), List.mem_of_getElem? (i := 1453) (by decide +kernel)⟩
theorem lw_p70 : lw_okq (⟨"PatentPoolModel", "heaviness", "(I)J"⟩, 31) := ⟨⟨by decide +kernel, by decide +kernel⟩, List.mem_of_getElem? (i := 1084) (by decide +kernel), List.mem_of_getElem? (i := 1457) (by decide +kernel), List.mem_of_getElem? (i := 1458) (by decide +kernel)⟩
theorem lw_p71 : lw_okq (⟨"PatentPoolModel", "noLicensee", "(I)Z"⟩, 31) := ⟨⟨by decide +kernel, by decide +kernel⟩, List.mem_of_getElem? (i := 1084) (by decide +kernel), List.mem_of_getElem? (i := 1469) (by decide +kernel), List.mem_of_getElem? (i := 1470) (by decide +kernel)⟩
theorem lw_p72 : lw_okq (⟨"PatentPoolModel", "noReport", "(II)Z"⟩, 31) := ⟨⟨by decide +kernel, by decide +kernel⟩, List.mem_of_getElem? (i := 1084) (by decide +kernel), List.mem_of_getElem? (i := 1477) (by decide +kernel), List.mem_of_getElem? (i := 1478) (by decide +kernel)⟩
theorem lw_p73 : lw_okq (⟨"PatentPoolModel", "keeps", "()V"⟩, 31) := ⟨⟨by decide +kernel, by decide +kernel⟩, List.mem_of_getElem? (i := 1084) (by decide +kernel), List.mem_of_getElem? (i := 1502) (by decide +kernel), List.mem_of_getElem? (i := 1503) (by decide +kernel)⟩
theorem lw_p74 : lw_okq (⟨"PatentPoolModel", "royalty", "(IIJ)J"⟩, 31) := ⟨⟨by decide +kernel, by decide +kernel⟩, List.mem_of_getElem? (i := 1084) (by decide +kernel), List.mem_of_getElem? (i := 1532) (by decide +kernel), List.mem_of_getElem? (i := 1533) (by decide +kernel)⟩
theorem lw_p75 : lw_okq (⟨"PatentPoolModel", "noSlot", "(I)Z"⟩, 31) := ⟨⟨by decide +kernel, by decide +kernel⟩, List.mem_of_getElem? (i := 1084) (by decide +kernel), List.mem_of_getElem? (i := 1565) (by decide +kernel), List.mem_of_getElem? (i := 1566) (by decide +kernel)⟩
def lw_privs_5 : List (MethodName × Nat) := [(⟨"PatentPoolModel", "shares", "(J)J"⟩, 31), (⟨"PatentPoolModel", "weighs", "()V"⟩, 31), (⟨"PatentPoolModel", "openOnes", "()J"⟩, 31), (⟨"PatentPoolModel", "rounds", "(JJJ)J"⟩, 31), (⟨"PatentPoolModel", "openAt", "(IJJ)I"⟩, 31), (⟨"PatentPoolModel", "isMajority", "(I)Z"⟩, 31), (⟨"PatentPoolModel", "heaviness", "(I)J"⟩, 31), (⟨"PatentPoolModel", "noLicensee", "(I)Z"⟩, 31), (⟨"PatentPoolModel", "noReport", "(II)Z"⟩, 31), (⟨"PatentPoolModel", "keeps", "()V"⟩, 31), (⟨"PatentPoolModel", "royalty", "(IIJ)J"⟩, 31), (⟨"PatentPoolModel", "noSlot", "(I)Z"⟩, 31)]
theorem lw_r5 : ∀ q ∈ lw_privs_5, lw_okq q := List.forall_mem_cons.mpr ⟨lw_p64, List.forall_mem_cons.mpr ⟨lw_p65, List.forall_mem_cons.mpr ⟨lw_p66, List.forall_mem_cons.mpr ⟨lw_p67, List.forall_mem_cons.mpr ⟨lw_p68, List.forall_mem_cons.mpr ⟨lw_p69, List.forall_mem_cons.mpr ⟨lw_p70, List.forall_mem_cons.mpr ⟨lw_p71, List.forall_mem_cons.mpr ⟨lw_p72, List.forall_mem_cons.mpr ⟨lw_p73, List.forall_mem_cons.mpr ⟨lw_p74, List.forall_mem_cons.mpr ⟨lw_p75, fun _ h => absurd h List.not_mem_nil⟩⟩⟩⟩⟩⟩⟩⟩⟩⟩⟩⟩
def lw_privs : List (MethodName × Nat) := lw_privs_1 ++ (lw_privs_2 ++ (lw_privs_3 ++ (lw_privs_4 ++ (lw_privs_5))))
def lw_tbl : List Cond := k2_sels lw_privs ++ tables_1
theorem lw_privs_ok : ∀ q ∈ lw_privs, lw_okq q := by
  show ∀ q ∈ lw_privs_1 ++ (lw_privs_2 ++ (lw_privs_3 ++ (lw_privs_4 ++ (lw_privs_5)))), lw_okq q
  exact List.forall_mem_append.mpr ⟨lw_r1, List.forall_mem_append.mpr ⟨lw_r2, List.forall_mem_append.mpr ⟨lw_r3, List.forall_mem_append.mpr ⟨lw_r4, lw_r5⟩⟩⟩⟩
-- ===== end of PART A; then your names; then what follows =====
end
section
/-! ===== BEGIN printed: names, fields, word lists, decode rows ===== -/
def RX0 : String := "PatentPool$Assessor"
def TX0 : u_T := fun k => match k with
  | 0 => ("PatentPool$Assessor", "terms", "LPatentPool$Terms;", true)
  | _ => ("PatentPool$Assessor", "ledger", "LPatentPool$Ledger;", true)
def tyX0 : Nat → FieldType := fun k => match k with
  | 0 => .object "PatentPool$Terms"
  | _ => .object "PatentPool$Ledger"
abbrev wsX00 : List Cond := u_ws RX0 TX0 2
theorem nmX0 : ∀ a, a < 2 → ∀ b, b < 2 → a ≠ b → (TX0 a).2.1 ≠ (TX0 b).2.1 := by decide +kernel
theorem tyX0_ok : ∀ k, k < 2 → parseFieldDescriptor (TX0 k).2.2.1 = some (tyX0 k) := by decide +kernel
abbrev cX0_init : ByteArray := prog_2_method_1_code
def yX0_init : MethodName := ⟨RX0, "<init>", "(LPatentPool$Terms;LPatentPool$Ledger;)V"⟩
abbrev cX0_decide : ByteArray := prog_2_method_2_code
def yX0_decide : MethodName := ⟨RX0, "decide", "(II)I"⟩
abbrev cX0_outcome : ByteArray := prog_2_method_3_code
def yX0_outcome : MethodName := ⟨RX0, "outcome", "(II)I"⟩
abbrev cX0_missingVotes : ByteArray := prog_2_method_4_code
def yX0_missingVotes : MethodName := ⟨RX0, "missingVotes", "(II)I"⟩
abbrev cX0_releasedOn : ByteArray := prog_2_method_5_code
def yX0_releasedOn : MethodName := ⟨RX0, "releasedOn", "(II)Z"⟩
abbrev cX0_inForceOn : ByteArray := prog_2_method_6_code
def yX0_inForceOn : MethodName := ⟨RX0, "inForceOn", "(II)Z"⟩
abbrev cX0_countsOn : ByteArray := prog_2_method_7_code
def yX0_countsOn : MethodName := ⟨RX0, "countsOn", "(III)Z"⟩
abbrev cX0_weightOn : ByteArray := prog_2_method_8_code
def yX0_weightOn : MethodName := ⟨RX0, "weightOn", "(II)I"⟩
abbrev cX0_versionsOn : ByteArray := prog_2_method_9_code
def yX0_versionsOn : MethodName := ⟨RX0, "versionsOn", "(II)I"⟩
def RX1 : String := "PatentPool$Divider"
def TX1 : u_T := fun k => match k with
  | 0 => ("PatentPool$Divider", "weights", "[I", true)
  | 1 => ("PatentPool$Divider", "shares", "[J", true)
  | 2 => ("PatentPool$Divider", "rest", "J", false)
  | 3 => ("PatentPool$Divider", "open", "[Z", true)
  | _ => ("PatentPool$Divider", "remainders", "[J", true)
def tyX1 : Nat → FieldType := fun k => match k with
  | 0 => .array .int
  | 1 => .array .long
  | 2 => .long
  | 3 => .array .boolean
  | _ => .array .long
abbrev wsX10 : List Cond := u_ws RX1 TX1 5
theorem nmX1 : ∀ a, a < 5 → ∀ b, b < 5 → a ≠ b → (TX1 a).2.1 ≠ (TX1 b).2.1 := by decide +kernel
theorem tyX1_ok : ∀ k, k < 5 → parseFieldDescriptor (TX1 k).2.2.1 = some (tyX1 k) := by decide +kernel
abbrev cX1_init : ByteArray := prog_3_method_1_code
def yX1_init : MethodName := ⟨RX1, "<init>", "()V"⟩
abbrev cX1_isMajority : ByteArray := prog_3_method_2_code
def yX1_isMajority : MethodName := ⟨RX1, "isMajority", "(I)Z"⟩
abbrev cX1_divide : ByteArray := prog_3_method_3_code
def yX1_divide : MethodName := ⟨RX1, "divide", "(JI)V"⟩
abbrev cX1_openWeight : ByteArray := prog_3_method_4_code
def yX1_openWeight : MethodName := ⟨RX1, "openWeight", "()J"⟩
abbrev cX1_closeAbove : ByteArray := prog_3_method_5_code
def yX1_closeAbove : MethodName := ⟨RX1, "closeAbove", "(J)Z"⟩
abbrev cX1_giveQuotas : ByteArray := prog_3_method_6_code
def yX1_giveQuotas : MethodName := ⟨RX1, "giveQuotas", "()V"⟩
abbrev cX1_giveRemainders : ByteArray := prog_3_method_7_code
def yX1_giveRemainders : MethodName := ⟨RX1, "giveRemainders", "(J)V"⟩
abbrev cX1_openWithLargestRemainder : ByteArray := prog_3_method_8_code
def yX1_openWithLargestRemainder : MethodName := ⟨RX1, "openWithLargestRemainder", "()I"⟩
def RX2 : String := "PatentPool$Formula"
def TX2 : u_T := fun k => match k with
  | 0 => ("PatentPool$Formula", "codes", "[I", true)
  | 1 => ("PatentPool$Formula", "length", "I", false)
  | _ => ("PatentPool$Formula", "stack", "[I", true)
def tyX2 : Nat → FieldType := fun k => match k with
  | 0 => .array .int
  | 1 => .int
  | _ => .array .int
abbrev wsX20 : List Cond := u_ws RX2 TX2 3
theorem nmX2 : ∀ a, a < 3 → ∀ b, b < 3 → a ≠ b → (TX2 a).2.1 ≠ (TX2 b).2.1 := by decide +kernel
theorem tyX2_ok : ∀ k, k < 3 → parseFieldDescriptor (TX2 k).2.2.1 = some (tyX2 k) := by decide +kernel
abbrev cX2_init : ByteArray := prog_4_method_1_code
def yX2_init : MethodName := ⟨RX2, "<init>", "()V"⟩
abbrev cX2_clear : ByteArray := prog_4_method_2_code
def yX2_clear : MethodName := ⟨RX2, "clear", "()V"⟩
abbrev cX2_add : ByteArray := prog_4_method_3_code
def yX2_add : MethodName := ⟨RX2, "add", "(I)V"⟩
abbrev cX2_copyFrom : ByteArray := prog_4_method_4_code
def yX2_copyFrom : MethodName := ⟨RX2, "copyFrom", "(LPatentPool$Formula;)V"⟩
abbrev cX2_evaluate : ByteArray := prog_4_method_5_code
def yX2_evaluate : MethodName := ⟨RX2, "evaluate", "(III)I"⟩
abbrev cX2_operand : ByteArray := prog_4_method_6_code
def yX2_operand : MethodName := ⟨RX2, "operand", "(IIII)I"⟩
abbrev cX2_combined : ByteArray := prog_4_method_7_code
def yX2_combined : MethodName := ⟨RX2, "combined", "(III)I"⟩
def RX3 : String := "PatentPool$History"
def TX3 : u_T := fun k => match k with
  | 0 => ("PatentPool$History", "ring", "[LPatentPool$Ledger;", true)
  | 1 => ("PatentPool$History", "newest", "I", false)
  | _ => ("PatentPool$History", "number", "I", false)
def tyX3 : Nat → FieldType := fun k => match k with
  | 0 => .array (.object "PatentPool$Ledger")
  | 1 => .int
  | _ => .int
abbrev wsX30 : List Cond := u_ws RX3 TX3 3
theorem nmX3 : ∀ a, a < 3 → ∀ b, b < 3 → a ≠ b → (TX3 a).2.1 ≠ (TX3 b).2.1 := by decide +kernel
theorem tyX3_ok : ∀ k, k < 3 → parseFieldDescriptor (TX3 k).2.2.1 = some (tyX3 k) := by decide +kernel
abbrev cX3_init : ByteArray := prog_5_method_1_code
def yX3_init : MethodName := ⟨RX3, "<init>", "()V"⟩
abbrev cX3_clear : ByteArray := prog_5_method_2_code
def yX3_clear : MethodName := ⟨RX3, "clear", "()V"⟩
abbrev cX3_remember : ByteArray := prog_5_method_3_code
def yX3_remember : MethodName := ⟨RX3, "remember", "(LPatentPool$Ledger;)V"⟩
abbrev cX3_takeBack : ByteArray := prog_5_method_4_code
def yX3_takeBack : MethodName := ⟨RX3, "takeBack", "(LPatentPool$Ledger;)I"⟩
def RX4 : String := "PatentPool$Ledger"
def TX4 : u_T := fun k => match k with
  | 0 => ("PatentPool$Ledger", "day", "I", false)
  | 1 => ("PatentPool$Ledger", "period", "I", false)
  | 2 => ("PatentPool$Ledger", "members", "I", false)
  | 3 => ("PatentPool$Ledger", "joinDay", "[I", true)
  | 4 => ("PatentPool$Ledger", "patents", "I", false)
  | 5 => ("PatentPool$Ledger", "owner", "[I", true)
  | 6 => ("PatentPool$Ledger", "expiry", "[I", true)
  | 7 => ("PatentPool$Ledger", "yesVotes", "[I", true)
  | 8 => ("PatentPool$Ledger", "noVotes", "[I", true)
  | 9 => ("PatentPool$Ledger", "units", "[I", true)
  | 10 => ("PatentPool$Ledger", "debts", "[J", true)
  | 11 => ("PatentPool$Ledger", "credited", "I", false)
  | 12 => ("PatentPool$Ledger", "accounts", "[J", true)
  | 13 => ("PatentPool$Ledger", "latestShares", "[J", true)
  | 14 => ("PatentPool$Ledger", "received", "J", false)
  | 15 => ("PatentPool$Ledger", "costs", "J", false)
  | 16 => ("PatentPool$Ledger", "reserve", "J", false)
  | 17 => ("PatentPool$Ledger", "paid", "J", false)
  | _ => ("PatentPool$Ledger", "paidOut", "J", false)
def tyX4 : Nat → FieldType := fun k => match k with
  | 0 => .int
  | 1 => .int
  | 2 => .int
  | 3 => .array .int
  | 4 => .int
  | 5 => .array .int
  | 6 => .array .int
  | 7 => .array .int
  | 8 => .array .int
  | 9 => .array .int
  | 10 => .array .long
  | 11 => .int
  | 12 => .array .long
  | 13 => .array .long
  | 14 => .long
  | 15 => .long
  | 16 => .long
  | 17 => .long
  | _ => .long
abbrev wsX40 : List Cond := u_ws RX4 TX4 19
theorem nmX4 : ∀ a, a < 19 → ∀ b, b < 19 → a ≠ b → (TX4 a).2.1 ≠ (TX4 b).2.1 := by decide +kernel
theorem tyX4_ok : ∀ k, k < 19 → parseFieldDescriptor (TX4 k).2.2.1 = some (tyX4 k) := by decide +kernel
abbrev cX4_init : ByteArray := prog_6_method_1_code
def yX4_init : MethodName := ⟨RX4, "<init>", "()V"⟩
abbrev cX4_copyFrom : ByteArray := prog_6_method_2_code
def yX4_copyFrom : MethodName := ⟨RX4, "copyFrom", "(LPatentPool$Ledger;)V"⟩
abbrev cX4_addMember : ByteArray := prog_6_method_3_code
def yX4_addMember : MethodName := ⟨RX4, "addMember", "(I)I"⟩
abbrev cX4_addPatent : ByteArray := prog_6_method_4_code
def yX4_addPatent : MethodName := ⟨RX4, "addPatent", "(II)I"⟩
abbrev cX4_bookShares : ByteArray := prog_6_method_5_code
def yX4_bookShares : MethodName := ⟨RX4, "bookShares", "([J)V"⟩
abbrev cX4_beginPeriod : ByteArray := prog_6_method_6_code
def yX4_beginPeriod : MethodName := ⟨RX4, "beginPeriod", "()V"⟩
def RX5 : String := "PatentPool$Parser"
def TX5 : u_T := fun k => match k with
  | 0 => ("PatentPool$Parser", "terms", "LPatentPool$Terms;", true)
  | 1 => ("PatentPool$Parser", "ledger", "LPatentPool$Ledger;", true)
  | 2 => ("PatentPool$Parser", "blank", "LPatentPool$Ledger;", true)
  | 3 => ("PatentPool$Parser", "tokens", "LPatentPool$Tokens;", true)
  | 4 => ("PatentPool$Parser", "seen", "I", false)
  | 5 => ("PatentPool$Parser", "first", "I", false)
  | _ => ("PatentPool$Parser", "second", "I", false)
def tyX5 : Nat → FieldType := fun k => match k with
  | 0 => .object "PatentPool$Terms"
  | 1 => .object "PatentPool$Ledger"
  | 2 => .object "PatentPool$Ledger"
  | 3 => .object "PatentPool$Tokens"
  | 4 => .int
  | 5 => .int
  | _ => .int
abbrev wsX50 : List Cond := u_ws RX5 TX5 7
theorem nmX5 : ∀ a, a < 7 → ∀ b, b < 7 → a ≠ b → (TX5 a).2.1 ≠ (TX5 b).2.1 := by decide +kernel
theorem tyX5_ok : ∀ k, k < 7 → parseFieldDescriptor (TX5 k).2.2.1 = some (tyX5 k) := by decide +kernel
abbrev cX5_init : ByteArray := prog_7_method_1_code
def yX5_init : MethodName := ⟨RX5, "<init>", "([B)V"⟩
abbrev cX5_position : ByteArray := prog_7_method_2_code
def yX5_position : MethodName := ⟨RX5, "position", "()I"⟩
abbrev cX5_readPool : ByteArray := prog_7_method_3_code
def yX5_readPool : MethodName := ⟨RX5, "readPool", "(I)I"⟩
abbrev cX5_readStatement : ByteArray := prog_7_method_4_code
def yX5_readStatement : MethodName := ⟨RX5, "readStatement", "()I"⟩
abbrev cX5_statementAtToken : ByteArray := prog_7_method_5_code
def yX5_statementAtToken : MethodName := ⟨RX5, "statementAtToken", "()I"⟩
abbrev cX5_admit : ByteArray := prog_7_method_6_code
def yX5_admit : MethodName := ⟨RX5, "admit", "(I)I"⟩
abbrev cX5_readNumbers : ByteArray := prog_7_method_7_code
def yX5_readNumbers : MethodName := ⟨RX5, "readNumbers", "(I)I"⟩
abbrev cX5_readTwo : ByteArray := prog_7_method_8_code
def yX5_readTwo : MethodName := ⟨RX5, "readTwo", "(IIII)I"⟩
abbrev cX5_readOne : ByteArray := prog_7_method_9_code
def yX5_readOne : MethodName := ⟨RX5, "readOne", "(II)I"⟩
abbrev cX5_keep : ByteArray := prog_7_method_10_code
def yX5_keep : MethodName := ⟨RX5, "keep", "(I)V"⟩
abbrev cX5_keepRule : ByteArray := prog_7_method_11_code
def yX5_keepRule : MethodName := ⟨RX5, "keepRule", "(I)V"⟩
abbrev cX5_readSum : ByteArray := prog_7_method_12_code
def yX5_readSum : MethodName := ⟨RX5, "readSum", "(I)I"⟩
abbrev cX5_readTerm : ByteArray := prog_7_method_13_code
def yX5_readTerm : MethodName := ⟨RX5, "readTerm", "(I)I"⟩
abbrev cX5_readFactor : ByteArray := prog_7_method_14_code
def yX5_readFactor : MethodName := ⟨RX5, "readFactor", "(I)I"⟩
def RX6 : String := "PatentPool$Terms"
def TX6 : u_T := fun k => match k with
  | 0 => ("PatentPool$Terms", "versions", "I", false)
  | 1 => ("PatentPool$Terms", "releaseDay", "[I", true)
  | 2 => ("PatentPool$Terms", "price", "[I", true)
  | 3 => ("PatentPool$Terms", "licensees", "I", false)
  | 4 => ("PatentPool$Terms", "discount", "[I", true)
  | 5 => ("PatentPool$Terms", "quorumVotes", "I", false)
  | 6 => ("PatentPool$Terms", "quorumPercent", "I", false)
  | 7 => ("PatentPool$Terms", "cap", "I", false)
  | 8 => ("PatentPool$Terms", "costs", "I", false)
  | 9 => ("PatentPool$Terms", "reserve", "I", false)
  | 10 => ("PatentPool$Terms", "lateDays", "I", false)
  | 11 => ("PatentPool$Terms", "latePercent", "I", false)
  | 12 => ("PatentPool$Terms", "creditAmount", "I", false)
  | 13 => ("PatentPool$Terms", "creditPercent", "I", false)
  | 14 => ("PatentPool$Terms", "penalty", "I", false)
  | _ => ("PatentPool$Terms", "formula", "LPatentPool$Formula;", true)
def tyX6 : Nat → FieldType := fun k => match k with
  | 0 => .int
  | 1 => .array .int
  | 2 => .array .int
  | 3 => .int
  | 4 => .array .int
  | 5 => .int
  | 6 => .int
  | 7 => .int
  | 8 => .int
  | 9 => .int
  | 10 => .int
  | 11 => .int
  | 12 => .int
  | 13 => .int
  | 14 => .int
  | _ => .object "PatentPool$Formula"
abbrev wsX60 : List Cond := u_ws RX6 TX6 16
theorem nmX6 : ∀ a, a < 16 → ∀ b, b < 16 → a ≠ b → (TX6 a).2.1 ≠ (TX6 b).2.1 := by decide +kernel
theorem tyX6_ok : ∀ k, k < 16 → parseFieldDescriptor (TX6 k).2.2.1 = some (tyX6 k) := by decide +kernel
abbrev cX6_init : ByteArray := prog_8_method_1_code
def yX6_init : MethodName := ⟨RX6, "<init>", "()V"⟩
abbrev cX6_reset : ByteArray := prog_8_method_2_code
def yX6_reset : MethodName := ⟨RX6, "reset", "()V"⟩
abbrev cX6_copyFrom : ByteArray := prog_8_method_3_code
def yX6_copyFrom : MethodName := ⟨RX6, "copyFrom", "(LPatentPool$Terms;)V"⟩
abbrev cX6_addVersion : ByteArray := prog_8_method_4_code
def yX6_addVersion : MethodName := ⟨RX6, "addVersion", "(II)V"⟩
abbrev cX6_addLicensee : ByteArray := prog_8_method_5_code
def yX6_addLicensee : MethodName := ⟨RX6, "addLicensee", "(I)V"⟩
def RX7 : String := "PatentPool$Tokens"
def TX7 : u_T := fun k => match k with
  | 0 => ("PatentPool$Tokens", "text", "[B", true)
  | 1 => ("PatentPool$Tokens", "length", "I", false)
  | 2 => ("PatentPool$Tokens", "end", "I", false)
  | 3 => ("PatentPool$Tokens", "kind", "I", false)
  | 4 => ("PatentPool$Tokens", "start", "I", false)
  | _ => ("PatentPool$Tokens", "value", "I", false)
def tyX7 : Nat → FieldType := fun k => match k with
  | 0 => .array .byte
  | 1 => .int
  | 2 => .int
  | 3 => .int
  | 4 => .int
  | _ => .int
abbrev wsX70 : List Cond := u_ws RX7 TX7 6
theorem nmX7 : ∀ a, a < 6 → ∀ b, b < 6 → a ≠ b → (TX7 a).2.1 ≠ (TX7 b).2.1 := by decide +kernel
theorem tyX7_ok : ∀ k, k < 6 → parseFieldDescriptor (TX7 k).2.2.1 = some (tyX7 k) := by decide +kernel
abbrev cX7_init : ByteArray := prog_9_method_1_code
def yX7_init : MethodName := ⟨RX7, "<init>", "([B)V"⟩
abbrev cX7_begin : ByteArray := prog_9_method_2_code
def yX7_begin : MethodName := ⟨RX7, "begin", "(I)V"⟩
abbrev cX7_next : ByteArray := prog_9_method_3_code
def yX7_next : MethodName := ⟨RX7, "next", "()V"⟩
abbrev cX7_endOfRun : ByteArray := prog_9_method_4_code
def yX7_endOfRun : MethodName := ⟨RX7, "endOfRun", "(II)I"⟩
abbrev cX7_numberAtStart : ByteArray := prog_9_method_5_code
def yX7_numberAtStart : MethodName := ⟨RX7, "numberAtStart", "()I"⟩
abbrev cX7_isWord : ByteArray := prog_9_method_6_code
def yX7_isWord : MethodName := ⟨RX7, "isWord", "(Ljava/lang/String;)Z"⟩
abbrev cX7_isSign : ByteArray := prog_9_method_7_code
def yX7_isSign : MethodName := ⟨RX7, "isSign", "(C)Z"⟩
def RX8 : String := "PatentPool"
def TX8 : u_T := fun k => match k with
  | 0 => ("PatentPool", "text", "[B", true)
  | 1 => ("PatentPool", "textLength", "I", false)
  | 2 => ("PatentPool", "errorPosition", "I", false)
  | 3 => ("PatentPool", "parser", "LPatentPool$Parser;", true)
  | 4 => ("PatentPool", "terms", "LPatentPool$Terms;", true)
  | 5 => ("PatentPool", "ledger", "LPatentPool$Ledger;", true)
  | 6 => ("PatentPool", "assessor", "LPatentPool$Assessor;", true)
  | 7 => ("PatentPool", "divider", "LPatentPool$Divider;", true)
  | 8 => ("PatentPool", "history", "LPatentPool$History;", true)
  | _ => ("PatentPool", "slots", "[LPatentPool$Ledger;", true)
def tyX8 : Nat → FieldType := fun k => match k with
  | 0 => .array .byte
  | 1 => .int
  | 2 => .int
  | 3 => .object "PatentPool$Parser"
  | 4 => .object "PatentPool$Terms"
  | 5 => .object "PatentPool$Ledger"
  | 6 => .object "PatentPool$Assessor"
  | 7 => .object "PatentPool$Divider"
  | 8 => .object "PatentPool$History"
  | _ => .array (.object "PatentPool$Ledger")
abbrev wsX80 : List Cond := u_ws RX8 TX8 10
theorem nmX8 : ∀ a, a < 10 → ∀ b, b < 10 → a ≠ b → (TX8 a).2.1 ≠ (TX8 b).2.1 := by decide +kernel
theorem tyX8_ok : ∀ k, k < 10 → parseFieldDescriptor (TX8 k).2.2.1 = some (tyX8 k) := by decide +kernel
abbrev cX8_init : ByteArray := prog_1_method_1_code
def yX8_init : MethodName := ⟨RX8, "<init>", "()V"⟩
abbrev cX8_append : ByteArray := prog_1_method_2_code
def yX8_append : MethodName := ⟨RX8, "append", "(IIIII)I"⟩
abbrev cX8_appendFour : ByteArray := prog_1_method_3_code
def yX8_appendFour : MethodName := ⟨RX8, "appendFour", "(I)V"⟩
abbrev cX8_parse : ByteArray := prog_1_method_4_code
def yX8_parse : MethodName := ⟨RX8, "parse", "(I)I"⟩
abbrev cX8_startOver : ByteArray := prog_1_method_5_code
def yX8_startOver : MethodName := ⟨RX8, "startOver", "()V"⟩
abbrev cX8_errorPosition : ByteArray := prog_1_method_6_code
def yX8_errorPosition : MethodName := ⟨RX8, "errorPosition", "()I"⟩
abbrev cX8_size : ByteArray := prog_1_method_7_code
def yX8_size : MethodName := ⟨RX8, "size", "(I)I"⟩
abbrev cX8_today : ByteArray := prog_1_method_8_code
def yX8_today : MethodName := ⟨RX8, "today", "()I"⟩
abbrev cX8_period : ByteArray := prog_1_method_9_code
def yX8_period : MethodName := ⟨RX8, "period", "()I"⟩
abbrev cX8_decision : ByteArray := prog_1_method_10_code
def yX8_decision : MethodName := ⟨RX8, "decision", "(II)I"⟩
abbrev cX8_voters : ByteArray := prog_1_method_11_code
def yX8_voters : MethodName := ⟨RX8, "voters", "(IIZ)I"⟩
abbrev cX8_votesNeeded : ByteArray := prog_1_method_12_code
def yX8_votesNeeded : MethodName := ⟨RX8, "votesNeeded", "(II)I"⟩
abbrev cX8_counts : ByteArray := prog_1_method_13_code
def yX8_counts : MethodName := ⟨RX8, "counts", "(II)Z"⟩
abbrev cX8_firstToExpire : ByteArray := prog_1_method_14_code
def yX8_firstToExpire : MethodName := ⟨RX8, "firstToExpire", "(I)I"⟩
abbrev cX8_weight : ByteArray := prog_1_method_15_code
def yX8_weight : MethodName := ⟨RX8, "weight", "(I)I"⟩
abbrev cX8_weightAfter : ByteArray := prog_1_method_16_code
def yX8_weightAfter : MethodName := ⟨RX8, "weightAfter", "(II)I"⟩
abbrev cX8_shareOf : ByteArray := prog_1_method_17_code
def yX8_shareOf : MethodName := ⟨RX8, "shareOf", "(II)I"⟩
abbrev cX8_smallestMajority : ByteArray := prog_1_method_18_code
def yX8_smallestMajority : MethodName := ⟨RX8, "smallestMajority", "()I"⟩
abbrev cX8_power : ByteArray := prog_1_method_19_code
def yX8_power : MethodName := ⟨RX8, "power", "(I)I"⟩
abbrev cX8_weighMembers : ByteArray := prog_1_method_20_code
def yX8_weighMembers : MethodName := ⟨RX8, "weighMembers", "()V"⟩
abbrev cX8_owed : ByteArray := prog_1_method_21_code
def yX8_owed : MethodName := ⟨RX8, "owed", "(I)J"⟩
abbrev cX8_reported : ByteArray := prog_1_method_22_code
def yX8_reported : MethodName := ⟨RX8, "reported", "(II)I"⟩
abbrev cX8_account : ByteArray := prog_1_method_23_code
def yX8_account : MethodName := ⟨RX8, "account", "(I)J"⟩
abbrev cX8_latestShare : ByteArray := prog_1_method_24_code
def yX8_latestShare : MethodName := ⟨RX8, "latestShare", "(I)J"⟩
abbrev cX8_total : ByteArray := prog_1_method_25_code
def yX8_total : MethodName := ⟨RX8, "total", "(I)J"⟩
abbrev cX8_largestDebtor : ByteArray := prog_1_method_26_code
def yX8_largestDebtor : MethodName := ⟨RX8, "largestDebtor", "()I"⟩
abbrev cX8_advance : ByteArray := prog_1_method_27_code
def yX8_advance : MethodName := ⟨RX8, "advance", "(I)I"⟩
abbrev cX8_join : ByteArray := prog_1_method_28_code
def yX8_join : MethodName := ⟨RX8, "join", "()I"⟩
abbrev cX8_declare : ByteArray := prog_1_method_29_code
def yX8_declare : MethodName := ⟨RX8, "declare", "(II)I"⟩
abbrev cX8_vote : ByteArray := prog_1_method_30_code
def yX8_vote : MethodName := ⟨RX8, "vote", "(IIIZ)I"⟩
abbrev cX8_reopen : ByteArray := prog_1_method_31_code
def yX8_reopen : MethodName := ⟨RX8, "reopen", "(II)I"⟩
abbrev cX8_report : ByteArray := prog_1_method_32_code
def yX8_report : MethodName := ⟨RX8, "report", "(III)I"⟩
abbrev cX8_grantBack : ByteArray := prog_1_method_33_code
def yX8_grantBack : MethodName := ⟨RX8, "grantBack", "(I)I"⟩
abbrev cX8_pay : ByteArray := prog_1_method_34_code
def yX8_pay : MethodName := ⟨RX8, "pay", "(II)J"⟩
abbrev cX8_audit : ByteArray := prog_1_method_35_code
def yX8_audit : MethodName := ⟨RX8, "audit", "(III)J"⟩
abbrev cX8_royaltyOf : ByteArray := prog_1_method_36_code
def yX8_royaltyOf : MethodName := ⟨RX8, "royaltyOf", "(III)J"⟩
abbrev cX8_close : ByteArray := prog_1_method_37_code
def yX8_close : MethodName := ⟨RX8, "close", "()J"⟩
abbrev cX8_payOut : ByteArray := prog_1_method_38_code
def yX8_payOut : MethodName := ⟨RX8, "payOut", "(I)J"⟩
abbrev cX8_undo : ByteArray := prog_1_method_39_code
def yX8_undo : MethodName := ⟨RX8, "undo", "()I"⟩
abbrev cX8_saveSnapshot : ByteArray := prog_1_method_40_code
def yX8_saveSnapshot : MethodName := ⟨RX8, "saveSnapshot", "(I)Z"⟩
abbrev cX8_restoreSnapshot : ByteArray := prog_1_method_41_code
def yX8_restoreSnapshot : MethodName := ⟨RX8, "restoreSnapshot", "(I)I"⟩
abbrev cX8_checkMember : ByteArray := prog_1_method_42_code
def yX8_checkMember : MethodName := ⟨RX8, "checkMember", "(I)V"⟩
abbrev cX8_checkVersion : ByteArray := prog_1_method_43_code
def yX8_checkVersion : MethodName := ⟨RX8, "checkVersion", "(I)V"⟩
abbrev cX8_checkPatent : ByteArray := prog_1_method_44_code
def yX8_checkPatent : MethodName := ⟨RX8, "checkPatent", "(I)V"⟩
abbrev cX8_checkLicensee : ByteArray := prog_1_method_45_code
def yX8_checkLicensee : MethodName := ⟨RX8, "checkLicensee", "(I)V"⟩
abbrev cX8_checkSlot : ByteArray := prog_1_method_46_code
def yX8_checkSlot : MethodName := ⟨RX8, "checkSlot", "(I)V"⟩
abbrev cX8_pairOf : ByteArray := prog_1_method_47_code
def yX8_pairOf : MethodName := ⟨RX8, "pairOf", "(II)I"⟩
def RX9 : String := "PatentPoolModel"
def TX9 : u_T := fun k => match k with
  | 0 => ("PatentPoolModel", "thrown", "I", false)
  | 1 => ("PatentPoolModel", "now", "[J", true)
  | 2 => ("PatentPoolModel", "told", "[I", true)
  | 3 => ("PatentPoolModel", "members", "[I", true)
  | 4 => ("PatentPoolModel", "versions", "[I", true)
  | 5 => ("PatentPoolModel", "patents", "[I", true)
  | 6 => ("PatentPoolModel", "discounts", "[I", true)
  | 7 => ("PatentPoolModel", "codes", "[I", true)
  | 8 => ("PatentPoolModel", "code", "[I", true)
  | 9 => ("PatentPoolModel", "text", "[B", true)
  | 10 => ("PatentPoolModel", "length", "I", false)
  | 11 => ("PatentPoolModel", "textSize", "I", false)
  | 12 => ("PatentPoolModel", "start", "I", false)
  | 13 => ("PatentPoolModel", "next", "I", false)
  | 14 => ("PatentPoolModel", "token", "I", false)
  | 15 => ("PatentPoolModel", "value", "I", false)
  | 16 => ("PatentPoolModel", "error", "I", false)
  | 17 => ("PatentPoolModel", "errorAt", "I", false)
  | 18 => ("PatentPoolModel", "number", "I", false)
  | 19 => ("PatentPoolModel", "seen", "I", false)
  | 20 => ("PatentPoolModel", "opened", "I", false)
  | 21 => ("PatentPoolModel", "pile", "[I", true)
  | 22 => ("PatentPoolModel", "facts", "[I", true)
  | 23 => ("PatentPoolModel", "weights", "[I", true)
  | 24 => ("PatentPoolModel", "shares", "[J", true)
  | 25 => ("PatentPoolModel", "quotas", "[J", true)
  | 26 => ("PatentPoolModel", "isOpen", "[Z", true)
  | 27 => ("PatentPoolModel", "undos", "I", false)
  | 28 => ("PatentPoolModel", "undo", "[J", true)
  | 29 => ("PatentPoolModel", "slots", "[J", true)
  | _ => ("PatentPoolModel", "isSaved", "[Z", true)
def tyX9 : Nat → FieldType := fun k => match k with
  | 0 => .int
  | 1 => .array .long
  | 2 => .array .int
  | 3 => .array .int
  | 4 => .array .int
  | 5 => .array .int
  | 6 => .array .int
  | 7 => .array .int
  | 8 => .array .int
  | 9 => .array .byte
  | 10 => .int
  | 11 => .int
  | 12 => .int
  | 13 => .int
  | 14 => .int
  | 15 => .int
  | 16 => .int
  | 17 => .int
  | 18 => .int
  | 19 => .int
  | 20 => .int
  | 21 => .array .int
  | 22 => .array .int
  | 23 => .array .int
  | 24 => .array .long
  | 25 => .array .long
  | 26 => .array .boolean
  | 27 => .int
  | 28 => .array .long
  | 29 => .array .long
  | _ => .array .boolean
abbrev wsX90 : List Cond := u_ws RX9 TX9 31
theorem nmX9 : ∀ a, a < 31 → ∀ b, b < 31 → a ≠ b → (TX9 a).2.1 ≠ (TX9 b).2.1 := by decide +kernel
theorem tyX9_ok : ∀ k, k < 31 → parseFieldDescriptor (TX9 k).2.2.1 = some (tyX9 k) := by decide +kernel
abbrev cX9_init : ByteArray := prog_11_method_1_code
def yX9_init : MethodName := ⟨RX9, "<init>", "()V"⟩
abbrev cX9_thrown : ByteArray := prog_11_method_2_code
def yX9_thrown : MethodName := ⟨RX9, "thrown", "()I"⟩
abbrev cX9_within : ByteArray := prog_11_method_3_code
def yX9_within : MethodName := ⟨RX9, "within", "(JJJ)Z"⟩
abbrev cX9_has : ByteArray := prog_11_method_4_code
def yX9_has : MethodName := ⟨RX9, "has", "(II)Z"⟩
abbrev cX9_bits : ByteArray := prog_11_method_5_code
def yX9_bits : MethodName := ⟨RX9, "bits", "(J)I"⟩
abbrev cX9_throwsIf : ByteArray := prog_11_method_6_code
def yX9_throwsIf : MethodName := ⟨RX9, "throwsIf", "(ZI)Z"⟩
abbrev cX9_lifts : ByteArray := prog_11_method_7_code
def yX9_lifts : MethodName := ⟨RX9, "lifts", "([I)V"⟩
abbrev cX9_liftsAll : ByteArray := prog_11_method_8_code
def yX9_liftsAll : MethodName := ⟨RX9, "liftsAll", "()V"⟩
abbrev cX9_clearDraft : ByteArray := prog_11_method_9_code
def yX9_clearDraft : MethodName := ⟨RX9, "clearDraft", "()V"⟩
abbrev cX9_append : ByteArray := prog_11_method_10_code
def yX9_append : MethodName := ⟨RX9, "append", "(IIIII)I"⟩
abbrev cX9_bytesOf : ByteArray := prog_11_method_11_code
def yX9_bytesOf : MethodName := ⟨RX9, "bytesOf", "(I)V"⟩
abbrev cX9_byteAt : ByteArray := prog_11_method_12_code
def yX9_byteAt : MethodName := ⟨RX9, "byteAt", "(I)I"⟩
abbrev cX9_isSign : ByteArray := prog_11_method_13_code
def yX9_isSign : MethodName := ⟨RX9, "isSign", "(I)Z"⟩
abbrev cX9_advance : ByteArray := prog_11_method_14_code
def yX9_advance : MethodName := ⟨RX9, "advance", "()V"⟩
abbrev cX9_isWord : ByteArray := prog_11_method_15_code
def yX9_isWord : MethodName := ⟨RX9, "isWord", "(Ljava/lang/String;)Z"⟩
abbrev cX9_isSignHere : ByteArray := prog_11_method_16_code
def yX9_isSignHere : MethodName := ⟨RX9, "isSignHere", "(I)Z"⟩
abbrev cX9_fails : ByteArray := prog_11_method_17_code
def yX9_fails : MethodName := ⟨RX9, "fails", "(I)Z"⟩
abbrev cX9_takes : ByteArray := prog_11_method_18_code
def yX9_takes : MethodName := ⟨RX9, "takes", "(II)Z"⟩
abbrev cX9_starts : ByteArray := prog_11_method_19_code
def yX9_starts : MethodName := ⟨RX9, "starts", "(IZ)Z"⟩
abbrev cX9_once : ByteArray := prog_11_method_20_code
def yX9_once : MethodName := ⟨RX9, "once", "(I)Z"⟩
abbrev cX9_sets : ByteArray := prog_11_method_21_code
def yX9_sets : MethodName := ⟨RX9, "sets", "(III)Z"⟩
abbrev cX9_closes : ByteArray := prog_11_method_22_code
def yX9_closes : MethodName := ⟨RX9, "closes", "(I)Z"⟩
abbrev cX9_lays : ByteArray := prog_11_method_23_code
def yX9_lays : MethodName := ⟨RX9, "lays", "([IIII)Z"⟩
abbrev cX9_oneMore : ByteArray := prog_11_method_24_code
def yX9_oneMore : MethodName := ⟨RX9, "oneMore", "(II)Z"⟩
abbrev cX9_counted : ByteArray := prog_11_method_25_code
def yX9_counted : MethodName := ⟨RX9, "counted", "(I)Z"⟩
abbrev cX9_statement : ByteArray := prog_11_method_26_code
def yX9_statement : MethodName := ⟨RX9, "statement", "()Z"⟩
abbrev cX9_setting : ByteArray := prog_11_method_27_code
def yX9_setting : MethodName := ⟨RX9, "setting", "()Z"⟩
abbrev cX9_emit : ByteArray := prog_11_method_28_code
def yX9_emit : MethodName := ⟨RX9, "emit", "(I)Z"⟩
abbrev cX9_sum : ByteArray := prog_11_method_29_code
def yX9_sum : MethodName := ⟨RX9, "sum", "()Z"⟩
abbrev cX9_term : ByteArray := prog_11_method_30_code
def yX9_term : MethodName := ⟨RX9, "term", "()Z"⟩
abbrev cX9_factor : ByteArray := prog_11_method_31_code
def yX9_factor : MethodName := ⟨RX9, "factor", "()Z"⟩
abbrev cX9_worth : ByteArray := prog_11_method_32_code
def yX9_worth : MethodName := ⟨RX9, "worth", "()I"⟩
abbrev cX9_joined : ByteArray := prog_11_method_33_code
def yX9_joined : MethodName := ⟨RX9, "joined", "(III)I"⟩
abbrev cX9_parse : ByteArray := prog_11_method_34_code
def yX9_parse : MethodName := ⟨RX9, "parse", "(I)I"⟩
abbrev cX9_errorPosition : ByteArray := prog_11_method_35_code
def yX9_errorPosition : MethodName := ⟨RX9, "errorPosition", "()I"⟩
abbrev cX9_begins : ByteArray := prog_11_method_36_code
def yX9_begins : MethodName := ⟨RX9, "begins", "()V"⟩
abbrev cX9_size : ByteArray := prog_11_method_37_code
def yX9_size : MethodName := ⟨RX9, "size", "(I)I"⟩
abbrev cX9_today : ByteArray := prog_11_method_38_code
def yX9_today : MethodName := ⟨RX9, "today", "()I"⟩
abbrev cX9_period : ByteArray := prog_11_method_39_code
def yX9_period : MethodName := ⟨RX9, "period", "()I"⟩
abbrev cX9_no : ByteArray := prog_11_method_40_code
def yX9_no : MethodName := ⟨RX9, "no", "(JJ)Z"⟩
abbrev cX9_noMember : ByteArray := prog_11_method_41_code
def yX9_noMember : MethodName := ⟨RX9, "noMember", "(I)Z"⟩
abbrev cX9_noPair : ByteArray := prog_11_method_42_code
def yX9_noPair : MethodName := ⟨RX9, "noPair", "(II)Z"⟩
abbrev cX9_pair : ByteArray := prog_11_method_43_code
def yX9_pair : MethodName := ⟨RX9, "pair", "(II)I"⟩
abbrev cX9_isPositive : ByteArray := prog_11_method_44_code
def yX9_isPositive : MethodName := ⟨RX9, "isPositive", "(II)Z"⟩
abbrev cX9_decided : ByteArray := prog_11_method_45_code
def yX9_decided : MethodName := ⟨RX9, "decided", "(II)I"⟩
abbrev cX9_decision : ByteArray := prog_11_method_46_code
def yX9_decision : MethodName := ⟨RX9, "decision", "(II)I"⟩
abbrev cX9_voters : ByteArray := prog_11_method_47_code
def yX9_voters : MethodName := ⟨RX9, "voters", "(IIZ)I"⟩
abbrev cX9_votesNeeded : ByteArray := prog_11_method_48_code
def yX9_votesNeeded : MethodName := ⟨RX9, "votesNeeded", "(II)I"⟩
abbrev cX9_isReleased : ByteArray := prog_11_method_49_code
def yX9_isReleased : MethodName := ⟨RX9, "isReleased", "(IJ)Z"⟩
abbrev cX9_isInForce : ByteArray := prog_11_method_50_code
def yX9_isInForce : MethodName := ⟨RX9, "isInForce", "(IJ)Z"⟩
abbrev cX9_isCounted : ByteArray := prog_11_method_51_code
def yX9_isCounted : MethodName := ⟨RX9, "isCounted", "(IIJ)Z"⟩
abbrev cX9_counts : ByteArray := prog_11_method_52_code
def yX9_counts : MethodName := ⟨RX9, "counts", "(II)Z"⟩
abbrev cX9_firstToExpire : ByteArray := prog_11_method_53_code
def yX9_firstToExpire : MethodName := ⟨RX9, "firstToExpire", "(I)I"⟩
abbrev cX9_weightOn : ByteArray := prog_11_method_54_code
def yX9_weightOn : MethodName := ⟨RX9, "weightOn", "(IJ)I"⟩
abbrev cX9_weight : ByteArray := prog_11_method_55_code
def yX9_weight : MethodName := ⟨RX9, "weight", "(I)I"⟩
abbrev cX9_weightAfter : ByteArray := prog_11_method_56_code
def yX9_weightAfter : MethodName := ⟨RX9, "weightAfter", "(II)I"⟩
abbrev cX9_weighs : ByteArray := prog_11_method_57_code
def yX9_weighs : MethodName := ⟨RX9, "weighs", "()V"⟩
abbrev cX9_shares : ByteArray := prog_11_method_58_code
def yX9_shares : MethodName := ⟨RX9, "shares", "(J)J"⟩
abbrev cX9_openOnes : ByteArray := prog_11_method_59_code
def yX9_openOnes : MethodName := ⟨RX9, "openOnes", "()J"⟩
abbrev cX9_rounds : ByteArray := prog_11_method_60_code
def yX9_rounds : MethodName := ⟨RX9, "rounds", "(JJJ)J"⟩
abbrev cX9_openAt : ByteArray := prog_11_method_61_code
def yX9_openAt : MethodName := ⟨RX9, "openAt", "(IJJ)I"⟩
abbrev cX9_shareOf : ByteArray := prog_11_method_62_code
def yX9_shareOf : MethodName := ⟨RX9, "shareOf", "(II)I"⟩
abbrev cX9_heaviness : ByteArray := prog_11_method_63_code
def yX9_heaviness : MethodName := ⟨RX9, "heaviness", "(I)J"⟩
abbrev cX9_isMajority : ByteArray := prog_11_method_64_code
def yX9_isMajority : MethodName := ⟨RX9, "isMajority", "(I)Z"⟩
abbrev cX9_smallestMajority : ByteArray := prog_11_method_65_code
def yX9_smallestMajority : MethodName := ⟨RX9, "smallestMajority", "()I"⟩
abbrev cX9_power : ByteArray := prog_11_method_66_code
def yX9_power : MethodName := ⟨RX9, "power", "(I)I"⟩
abbrev cX9_noLicensee : ByteArray := prog_11_method_67_code
def yX9_noLicensee : MethodName := ⟨RX9, "noLicensee", "(I)Z"⟩
abbrev cX9_noReport : ByteArray := prog_11_method_68_code
def yX9_noReport : MethodName := ⟨RX9, "noReport", "(II)Z"⟩
abbrev cX9_owed : ByteArray := prog_11_method_69_code
def yX9_owed : MethodName := ⟨RX9, "owed", "(I)J"⟩
abbrev cX9_reported : ByteArray := prog_11_method_70_code
def yX9_reported : MethodName := ⟨RX9, "reported", "(II)I"⟩
abbrev cX9_account : ByteArray := prog_11_method_71_code
def yX9_account : MethodName := ⟨RX9, "account", "(I)J"⟩
abbrev cX9_latestShare : ByteArray := prog_11_method_72_code
def yX9_latestShare : MethodName := ⟨RX9, "latestShare", "(I)J"⟩
abbrev cX9_total : ByteArray := prog_11_method_73_code
def yX9_total : MethodName := ⟨RX9, "total", "(I)J"⟩
abbrev cX9_largestDebtor : ByteArray := prog_11_method_74_code
def yX9_largestDebtor : MethodName := ⟨RX9, "largestDebtor", "()I"⟩
abbrev cX9_advance_ : ByteArray := prog_11_method_75_code
def yX9_advance_ : MethodName := ⟨RX9, "advance", "(I)I"⟩
abbrev cX9_join : ByteArray := prog_11_method_76_code
def yX9_join : MethodName := ⟨RX9, "join", "()I"⟩
abbrev cX9_declare : ByteArray := prog_11_method_77_code
def yX9_declare : MethodName := ⟨RX9, "declare", "(II)I"⟩
abbrev cX9_vote : ByteArray := prog_11_method_78_code
def yX9_vote : MethodName := ⟨RX9, "vote", "(IIIZ)I"⟩
abbrev cX9_reopen : ByteArray := prog_11_method_79_code
def yX9_reopen : MethodName := ⟨RX9, "reopen", "(II)I"⟩
abbrev cX9_royalty : ByteArray := prog_11_method_80_code
def yX9_royalty : MethodName := ⟨RX9, "royalty", "(IIJ)J"⟩
abbrev cX9_report : ByteArray := prog_11_method_81_code
def yX9_report : MethodName := ⟨RX9, "report", "(III)I"⟩
abbrev cX9_grantBack : ByteArray := prog_11_method_82_code
def yX9_grantBack : MethodName := ⟨RX9, "grantBack", "(I)I"⟩
abbrev cX9_pay : ByteArray := prog_11_method_83_code
def yX9_pay : MethodName := ⟨RX9, "pay", "(II)J"⟩
abbrev cX9_audit : ByteArray := prog_11_method_84_code
def yX9_audit : MethodName := ⟨RX9, "audit", "(III)J"⟩
abbrev cX9_close : ByteArray := prog_11_method_85_code
def yX9_close : MethodName := ⟨RX9, "close", "()J"⟩
abbrev cX9_payOut : ByteArray := prog_11_method_86_code
def yX9_payOut : MethodName := ⟨RX9, "payOut", "(I)J"⟩
abbrev cX9_copies : ByteArray := prog_11_method_87_code
def yX9_copies : MethodName := ⟨RX9, "copies", "([JI[JII)V"⟩
abbrev cX9_keeps : ByteArray := prog_11_method_88_code
def yX9_keeps : MethodName := ⟨RX9, "keeps", "()V"⟩
abbrev cX9_undo : ByteArray := prog_11_method_89_code
def yX9_undo : MethodName := ⟨RX9, "undo", "()I"⟩
abbrev cX9_noSlot : ByteArray := prog_11_method_90_code
def yX9_noSlot : MethodName := ⟨RX9, "noSlot", "(I)Z"⟩
abbrev cX9_saveSnapshot : ByteArray := prog_11_method_91_code
def yX9_saveSnapshot : MethodName := ⟨RX9, "saveSnapshot", "(I)Z"⟩
abbrev cX9_restoreSnapshot : ByteArray := prog_11_method_92_code
def yX9_restoreSnapshot : MethodName := ⟨RX9, "restoreSnapshot", "(I)I"⟩
def RJx145de : String := "java/io/Serializable"
def TJx145de : u_T := fun k => match k with
  | _ => ("", "", "", false)
def tyJx145de : Nat → FieldType := fun k => match k with
  | _ => .int
abbrev wsJx145de0 : List Cond := u_ws RJx145de TJx145de 0
theorem nmJx145de : ∀ a, a < 0 → ∀ b, b < 0 → a ≠ b → (TJx145de a).2.1 ≠ (TJx145de b).2.1 := by decide +kernel
theorem tyJx145de_ok : ∀ k, k < 0 → parseFieldDescriptor (TJx145de k).2.2.1 = some (tyJx145de k) := by decide +kernel
def RJx9f9b0 : String := "java/lang/CharSequence"
def TJx9f9b0 : u_T := fun k => match k with
  | _ => ("", "", "", false)
def tyJx9f9b0 : Nat → FieldType := fun k => match k with
  | _ => .int
abbrev wsJx9f9b00 : List Cond := u_ws RJx9f9b0 TJx9f9b0 0
theorem nmJx9f9b0 : ∀ a, a < 0 → ∀ b, b < 0 → a ≠ b → (TJx9f9b0 a).2.1 ≠ (TJx9f9b0 b).2.1 := by decide +kernel
theorem tyJx9f9b0_ok : ∀ k, k < 0 → parseFieldDescriptor (TJx9f9b0 k).2.2.1 = some (tyJx9f9b0 k) := by decide +kernel
def RJxb160c : String := "java/lang/Comparable"
def TJxb160c : u_T := fun k => match k with
  | _ => ("", "", "", false)
def tyJxb160c : Nat → FieldType := fun k => match k with
  | _ => .int
abbrev wsJxb160c0 : List Cond := u_ws RJxb160c TJxb160c 0
theorem nmJxb160c : ∀ a, a < 0 → ∀ b, b < 0 → a ≠ b → (TJxb160c a).2.1 ≠ (TJxb160c b).2.1 := by decide +kernel
theorem tyJxb160c_ok : ∀ k, k < 0 → parseFieldDescriptor (TJxb160c k).2.2.1 = some (tyJxb160c k) := by decide +kernel
def RJ6 : String := "java/lang/Integer"
def TJ6 : u_T := fun k => match k with
  | _ => ("", "", "", false)
def tyJ6 : Nat → FieldType := fun k => match k with
  | _ => .int
abbrev wsJ60 : List Cond := u_ws RJ6 TJ6 0
theorem nmJ6 : ∀ a, a < 0 → ∀ b, b < 0 → a ≠ b → (TJ6 a).2.1 ≠ (TJ6 b).2.1 := by decide +kernel
theorem tyJ6_ok : ∀ k, k < 0 → parseFieldDescriptor (TJ6 k).2.2.1 = some (tyJ6 k) := by decide +kernel
abbrev cJ6_bitCount_0f7a4 : ByteArray := prog_16_method_49_code
def yJ6_bitCount_0f7a4 : MethodName := ⟨RJ6, "bitCount", "(I)I"⟩
def RJ9 : String := "java/lang/Math"
def TJ9 : u_T := fun k => match k with
  | _ => ("", "", "", false)
def tyJ9 : Nat → FieldType := fun k => match k with
  | _ => .int
abbrev wsJ90 : List Cond := u_ws RJ9 TJ9 0
theorem nmJ9 : ∀ a, a < 0 → ∀ b, b < 0 → a ≠ b → (TJ9 a).2.1 ≠ (TJ9 b).2.1 := by decide +kernel
theorem tyJ9_ok : ∀ k, k < 0 → parseFieldDescriptor (TJ9 k).2.2.1 = some (tyJ9 k) := by decide +kernel
abbrev cJ9_max_7cf53 : ByteArray := prog_17_method_65_code
def yJ9_max_7cf53 : MethodName := ⟨RJ9, "max", "(II)I"⟩
abbrev cJ9_min_7cf53 : ByteArray := prog_17_method_69_code
def yJ9_min_7cf53 : MethodName := ⟨RJ9, "min", "(II)I"⟩
abbrev cJ9_min_f86c9 : ByteArray := prog_17_method_70_code
def yJ9_min_f86c9 : MethodName := ⟨RJ9, "min", "(JJ)J"⟩
def RJ0 : String := "java/lang/String"
def TJ0 : u_T := fun k => match k with
  | _ => ("", "", "", false)
def tyJ0 : Nat → FieldType := fun k => match k with
  | _ => .int
abbrev wsJ00 : List Cond := u_ws RJ0 TJ0 0
theorem nmJ0 : ∀ a, a < 0 → ∀ b, b < 0 → a ≠ b → (TJ0 a).2.1 ≠ (TJ0 b).2.1 := by decide +kernel
theorem tyJ0_ok : ∀ k, k < 0 → parseFieldDescriptor (TJ0 k).2.2.1 = some (tyJ0 k) := by decide +kernel
abbrev cJ0_length_8abf5 : ByteArray := prog_19_method_54_code
def yJ0_length_8abf5 : MethodName := ⟨RJ0, "length", "()I"⟩
abbrev cJ0_charAt_5068e : ByteArray := prog_19_method_56_code
def yJ0_charAt_5068e : MethodName := ⟨RJ0, "charAt", "(I)C"⟩
abbrev cJ0_coder_7d493 : ByteArray := prog_19_method_152_code
def yJ0_coder_7d493 : MethodName := ⟨RJ0, "coder", "()B"⟩
abbrev cJ0_isLatin1_aae02 : ByteArray := prog_19_method_154_code
def yJ0_isLatin1_aae02 : MethodName := ⟨RJ0, "isLatin1", "()Z"⟩
abbrev cJ0_checkIndex_df160 : ByteArray := prog_19_method_155_code
def yJ0_checkIndex_df160 : MethodName := ⟨RJ0, "checkIndex", "(II)V"⟩
def RJ1 : String := "java/lang/StringLatin1"
def TJ1 : u_T := fun k => match k with
  | _ => ("", "", "", false)
def tyJ1 : Nat → FieldType := fun k => match k with
  | _ => .int
abbrev wsJ10 : List Cond := u_ws RJ1 TJ1 0
theorem nmJ1 : ∀ a, a < 0 → ∀ b, b < 0 → a ≠ b → (TJ1 a).2.1 ≠ (TJ1 b).2.1 := by decide +kernel
theorem tyJ1_ok : ∀ k, k < 0 → parseFieldDescriptor (TJ1 k).2.2.1 = some (tyJ1 k) := by decide +kernel
abbrev cJ1_charAt_3b067 : ByteArray := prog_20_method_2_code
def yJ1_charAt_3b067 : MethodName := ⟨RJ1, "charAt", "([BI)C"⟩
def RJ2 : String := "java/lang/StringUTF16"
def TJ2 : u_T := fun k => match k with
  | _ => ("", "", "", false)
def tyJ2 : Nat → FieldType := fun k => match k with
  | _ => .int
abbrev wsJ20 : List Cond := u_ws RJ2 TJ2 0
theorem nmJ2 : ∀ a, a < 0 → ∀ b, b < 0 → a ≠ b → (TJ2 a).2.1 ≠ (TJ2 b).2.1 := by decide +kernel
theorem tyJ2_ok : ∀ k, k < 0 → parseFieldDescriptor (TJ2 k).2.2.1 = some (tyJ2 k) := by decide +kernel
abbrev cJ2_getChar_3b067 : ByteArray := prog_21_method_5_code
def yJ2_getChar_3b067 : MethodName := ⟨RJ2, "getChar", "([BI)C"⟩
abbrev cJ2_length_9d52b : ByteArray := prog_21_method_6_code
def yJ2_length_9d52b : MethodName := ⟨RJ2, "length", "([B)I"⟩
abbrev cJ2_charAt_3b067 : ByteArray := prog_21_method_83_code
def yJ2_charAt_3b067 : MethodName := ⟨RJ2, "charAt", "([BI)C"⟩
abbrev cJ2_checkIndex_2214a : ByteArray := prog_21_method_91_code
def yJ2_checkIndex_2214a : MethodName := ⟨RJ2, "checkIndex", "(I[B)V"⟩
def RJ10 : String := "java/lang/System"
def TJ10 : u_T := fun k => match k with
  | _ => ("", "", "", false)
def tyJ10 : Nat → FieldType := fun k => match k with
  | _ => .int
abbrev wsJ100 : List Cond := u_ws RJ10 TJ10 0
theorem nmJ10 : ∀ a, a < 0 → ∀ b, b < 0 → a ≠ b → (TJ10 a).2.1 ≠ (TJ10 b).2.1 := by decide +kernel
theorem tyJ10_ok : ∀ k, k < 0 → parseFieldDescriptor (TJ10 k).2.2.1 = some (tyJ10 k) := by decide +kernel
def RJxfd54e : String := "java/lang/constant/Constable"
def TJxfd54e : u_T := fun k => match k with
  | _ => ("", "", "", false)
def tyJxfd54e : Nat → FieldType := fun k => match k with
  | _ => .int
abbrev wsJxfd54e0 : List Cond := u_ws RJxfd54e TJxfd54e 0
theorem nmJxfd54e : ∀ a, a < 0 → ∀ b, b < 0 → a ≠ b → (TJxfd54e a).2.1 ≠ (TJxfd54e b).2.1 := by decide +kernel
theorem tyJxfd54e_ok : ∀ k, k < 0 → parseFieldDescriptor (TJxfd54e k).2.2.1 = some (tyJxfd54e k) := by decide +kernel
def RJx3cf43 : String := "java/lang/constant/ConstantDesc"
def TJx3cf43 : u_T := fun k => match k with
  | _ => ("", "", "", false)
def tyJx3cf43 : Nat → FieldType := fun k => match k with
  | _ => .int
abbrev wsJx3cf430 : List Cond := u_ws RJx3cf43 TJx3cf43 0
theorem nmJx3cf43 : ∀ a, a < 0 → ∀ b, b < 0 → a ≠ b → (TJx3cf43 a).2.1 ≠ (TJx3cf43 b).2.1 := by decide +kernel
theorem tyJx3cf43_ok : ∀ k, k < 0 → parseFieldDescriptor (TJx3cf43 k).2.2.1 = some (tyJx3cf43 k) := by decide +kernel
def RJ7 : String := "java/util/Arrays"
def TJ7 : u_T := fun k => match k with
  | _ => ("", "", "", false)
def tyJ7 : Nat → FieldType := fun k => match k with
  | _ => .int
abbrev wsJ70 : List Cond := u_ws RJ7 TJ7 0
theorem nmJ7 : ∀ a, a < 0 → ∀ b, b < 0 → a ≠ b → (TJ7 a).2.1 ≠ (TJ7 b).2.1 := by decide +kernel
theorem tyJ7_ok : ∀ k, k < 0 → parseFieldDescriptor (TJ7 k).2.2.1 = some (tyJ7 k) := by decide +kernel
abbrev cJ7_fill_53178 : ByteArray := prog_24_method_103_code
def yJ7_fill_53178 : MethodName := ⟨RJ7, "fill", "([II)V"⟩
def RJ3 : String := "jdk/internal/util/Preconditions"
def TJ3 : u_T := fun k => match k with
  | _ => ("", "", "", false)
def tyJ3 : Nat → FieldType := fun k => match k with
  | _ => .int
abbrev wsJ30 : List Cond := u_ws RJ3 TJ3 0
theorem nmJ3 : ∀ a, a < 0 → ∀ b, b < 0 → a ≠ b → (TJ3 a).2.1 ≠ (TJ3 b).2.1 := by decide +kernel
theorem tyJ3_ok : ∀ k, k < 0 → parseFieldDescriptor (TJ3 k).2.2.1 = some (tyJ3 k) := by decide +kernel
abbrev cJ3_checkIndex_8e157 : ByteArray := prog_25_method_11_code
def yJ3_checkIndex_8e157 : MethodName := ⟨RJ3, "checkIndex", "(IILjava/util/function/BiFunction;)I"⟩
def RL : String := "PatentPoolLaw"
abbrev cL_parse : ByteArray := method_3_code
def yL_parse : MethodName := ⟨RL, "parse", "(LPatentPool;I[J)I"⟩
abbrev cL_size : ByteArray := method_4_code
def yL_size : MethodName := ⟨RL, "size", "(LPatentPool;I[J)I"⟩
abbrev cL_decision : ByteArray := method_5_code
def yL_decision : MethodName := ⟨RL, "decision", "(LPatentPool;II[J)I"⟩
abbrev cL_voters : ByteArray := method_6_code
def yL_voters : MethodName := ⟨RL, "voters", "(LPatentPool;IIZ[J)I"⟩
abbrev cL_votesNeeded : ByteArray := method_7_code
def yL_votesNeeded : MethodName := ⟨RL, "votesNeeded", "(LPatentPool;II[J)I"⟩
abbrev cL_counts : ByteArray := method_8_code
def yL_counts : MethodName := ⟨RL, "counts", "(LPatentPool;II[J)I"⟩
abbrev cL_firstToExpire : ByteArray := method_9_code
def yL_firstToExpire : MethodName := ⟨RL, "firstToExpire", "(LPatentPool;I[J)I"⟩
abbrev cL_weight : ByteArray := method_10_code
def yL_weight : MethodName := ⟨RL, "weight", "(LPatentPool;I[J)I"⟩
abbrev cL_weightAfter : ByteArray := method_11_code
def yL_weightAfter : MethodName := ⟨RL, "weightAfter", "(LPatentPool;II[J)I"⟩
abbrev cL_shareOf : ByteArray := method_12_code
def yL_shareOf : MethodName := ⟨RL, "shareOf", "(LPatentPool;II[J)I"⟩
abbrev cL_power : ByteArray := method_13_code
def yL_power : MethodName := ⟨RL, "power", "(LPatentPool;I[J)I"⟩
abbrev cL_owed : ByteArray := method_14_code
def yL_owed : MethodName := ⟨RL, "owed", "(LPatentPool;I[J)I"⟩
abbrev cL_reported : ByteArray := method_15_code
def yL_reported : MethodName := ⟨RL, "reported", "(LPatentPool;II[J)I"⟩
abbrev cL_account : ByteArray := method_16_code
def yL_account : MethodName := ⟨RL, "account", "(LPatentPool;I[J)I"⟩
abbrev cL_latestShare : ByteArray := method_17_code
def yL_latestShare : MethodName := ⟨RL, "latestShare", "(LPatentPool;I[J)I"⟩
abbrev cL_total : ByteArray := method_18_code
def yL_total : MethodName := ⟨RL, "total", "(LPatentPool;I[J)I"⟩
abbrev cL_advance : ByteArray := method_19_code
def yL_advance : MethodName := ⟨RL, "advance", "(LPatentPool;I[J)I"⟩
abbrev cL_join : ByteArray := method_20_code
def yL_join : MethodName := ⟨RL, "join", "(LPatentPool;[J)I"⟩
abbrev cL_declare : ByteArray := method_21_code
def yL_declare : MethodName := ⟨RL, "declare", "(LPatentPool;II[J)I"⟩
abbrev cL_vote : ByteArray := method_22_code
def yL_vote : MethodName := ⟨RL, "vote", "(LPatentPool;IIIZ[J)I"⟩
abbrev cL_reopen : ByteArray := method_23_code
def yL_reopen : MethodName := ⟨RL, "reopen", "(LPatentPool;II[J)I"⟩
abbrev cL_report : ByteArray := method_24_code
def yL_report : MethodName := ⟨RL, "report", "(LPatentPool;III[J)I"⟩
abbrev cL_grantBack : ByteArray := method_25_code
def yL_grantBack : MethodName := ⟨RL, "grantBack", "(LPatentPool;I[J)I"⟩
abbrev cL_pay : ByteArray := method_26_code
def yL_pay : MethodName := ⟨RL, "pay", "(LPatentPool;II[J)I"⟩
abbrev cL_audit : ByteArray := method_27_code
def yL_audit : MethodName := ⟨RL, "audit", "(LPatentPool;III[J)I"⟩
abbrev cL_close : ByteArray := method_28_code
def yL_close : MethodName := ⟨RL, "close", "(LPatentPool;[J)I"⟩
abbrev cL_payOut : ByteArray := method_29_code
def yL_payOut : MethodName := ⟨RL, "payOut", "(LPatentPool;I[J)I"⟩
abbrev cL_saveSnapshot : ByteArray := method_30_code
def yL_saveSnapshot : MethodName := ⟨RL, "saveSnapshot", "(LPatentPool;I[J)I"⟩
abbrev cL_restoreSnapshot : ByteArray := method_31_code
def yL_restoreSnapshot : MethodName := ⟨RL, "restoreSnapshot", "(LPatentPool;I[J)I"⟩
abbrev cL_law : ByteArray := code
def yL_law : MethodName := ⟨RL, "law", "([I)Z"⟩
end
section
/-! THE ENGINE, 1: a typed memory and its picture in the heap. A world: kinds of the cells (0..9 an object of the class with that number, 10 int[], 11 byte[], 12 boolean[], 13 long[], 14 Ledger[], 15 unseen), ints, longs, references. Cell k >= 64 lies at base + (k - 64); the first 64 are places outside (the script, Strings). -/
abbrev pp_M : Type := (Nat → Nat → Int32) × (Nat → Nat → Int64) × (Nat → Nat → Option Nat)
abbrev pp_W : Type := List (Nat × Nat) × pp_M
abbrev pp_R : Type := Option Value ⊕ String
abbrev pp_G : Type := Launch × Nat × (Nat → Nat) × va_G × (Nat → ClassId) × (Nat → Nat) × Nat × (Nat → Int32)
abbrev pp_l (g : pp_G) : Launch := g.1
abbrev pp_b (g : pp_G) : Nat := g.2.1
abbrev pp_x (g : pp_G) : Nat → Nat := g.2.2.1
abbrev pp_D (g : pp_G) : va_G := g.2.2.2.1
abbrev pp_d (g : pp_G) : Nat → ClassId := g.2.2.2.2.1
abbrev pp_sv (g : pp_G) : Nat → Nat := g.2.2.2.2.2.1
abbrev pp_sL (g : pp_G) : Nat := g.2.2.2.2.2.2.1
abbrev pp_sx (g : pp_G) : Nat → Int32 := g.2.2.2.2.2.2.2
def pp_ft : Nat → List Nat
  | 0 => [2, 2]
  | 1 => [2, 2, 1, 2, 2]
  | 2 => [2, 0, 2]
  | 3 => [2, 0, 0]
  | 4 => [0, 0, 0, 2, 0, 2, 2, 2, 2, 2, 2, 0, 2, 2, 1, 1, 1, 1, 1]
  | 5 => [2, 2, 2, 2, 0, 0, 0]
  | 6 => [0, 2, 2, 0, 2, 0, 0, 0, 0, 0, 0, 0, 0, 0, 0, 2]
  | 7 => [2, 0, 0, 0, 0, 0]
  | 8 => [2, 0, 0, 2, 2, 2, 2, 2, 2, 2]
  | 9 => [0, 2, 2, 2, 2, 2, 2, 2, 2, 2, 0, 0, 0, 0, 0, 0, 0, 0, 0, 0, 0, 2, 2, 2, 2, 2, 2, 0, 2, 2, 2]
  | _ => []
abbrev pp_cl : List vw_C := [(RX0, TX0, 2), (RX1, TX1, 5), (RX2, TX2, 3), (RX3, TX3, 3), (RX4, TX4, 19), (RX5, TX5, 7), (RX6, TX6, 16), (RX7, TX7, 6), (RX8, TX8, 10), (RX9, TX9, 31)]
def pp_ad (g : pp_G) (k : Nat) : Nat := if k < 64 then pp_x g k else pp_b g + (k - 64)
def pp_A (g : pp_G) : Nat → Prop := fun q => pp_b g ≤ q
def pp_v (g : pp_G) : Value → Value
  | .ref k => .ref (pp_ad g k)
  | v => v
def pp_rf : Option Nat → Value
  | none => .null
  | some a => .ref a
theorem pp_v_rf (g : pp_G) (r : Option Nat) : pp_v g (pp_rf r) = va_rf (r.map (pp_ad g)) := by cases r <;> rfl
theorem pp_v_cat (g : pp_G) (v : Value) : (pp_v g v).category = v.category := by cases v <;> rfl
/-- row a replaced -/
def pp_s {α : Type} (f : Nat → α) (a : Nat) (r : α) : Nat → α := fun i => if i = a then r else f i
theorem pp_s_eq {α : Type} (f : Nat → α) (a : Nat) (r : α) : pp_s f a r a = r := if_pos rfl
theorem pp_s_ne {α : Type} (f : Nat → α) {a b : Nat} (r : α) (h : b ≠ a) : pp_s f a r b = f b := if_neg h
/-- the field k of an object at a, of the field kind t -/
def pp_fv (g : pp_G) (m : pp_M) (a t k : Nat) : Value := match t with
  | 0 => .int (m.1 a k)
  | 1 => .long (m.2.1 a k)
  | _ => va_rf ((m.2.2 a k).map (pp_ad g))
def pp_fk (c k : Nat) : Nat := (pp_ft c).getD k 9
def pp_at (g : pp_G) (m : pp_M) (a : Nat) (sh : Nat × Nat) (H : Heap) : Prop :=
  if sh.1 = 15 then True
  else if sh.1 = 10 then H[pp_ad g a]? = some (vp_cell (pp_d g 0) (sh.2, .inl (m.1 a)))
  else if sh.1 = 11 then H[pp_ad g a]? = some (vp_cell (pp_d g 1) (sh.2, .inl (m.1 a)))
  else if sh.1 = 12 then H[pp_ad g a]? = some (vp_cell (pp_d g 2) (sh.2, .inl (m.1 a)))
  else if sh.1 = 13 then H[pp_ad g a]? = some (vp_cell (pp_d g 3) (sh.2, .inr (.inl (m.2.1 a))))
  else if sh.1 = 14 then H[pp_ad g a]? = some (vp_cell (pp_d g 4) (sh.2, .inr (.inr (.inr (.inr (fun k => (m.2.2 a k).map (pp_ad g)))))))
  else ∃ r : vw_C, pp_cl[sh.1]? = some r ∧ t_OB (pp_ad g a) ((pp_D g).1 sh.1) r.2.2 ((pp_D g).2 sh.1) H (fun k => pp_fv g m a (pp_fk sh.1 k) k)
def pp_Rep (g : pp_G) (w : pp_W) (H : Heap) : Prop := 64 ≤ w.1.length ∧ H.size = pp_b g + (w.1.length - 64) ∧ (∀ i, i < 64 → w.1[i]? = some (15, 0)) ∧ ∀ (i : Nat) (sh : Nat × Nat), w.1[i]? = some sh → pp_at g w.2 i sh H
theorem pp_ad_hi (g : pp_G) {k : Nat} (h : 64 ≤ k) : pp_ad g k = pp_b g + (k - 64) := if_neg (by omega)
theorem pp_at.congr {g : pp_G} {m m' : pp_M} {a : Nat} {sh : Nat × Nat} {H H' : Heap} (h : pp_at g m a sh H) (h1 : m'.1 a = m.1 a) (h2 : m'.2.1 a = m.2.1 a) (h3 : m'.2.2 a = m.2.2 a) (hq : H'[pp_ad g a]? = H[pp_ad g a]?) : pp_at g m' a sh H' := by
  unfold pp_at at h ⊢
  rw [h1, h2, h3, hq]
  split
  · trivial
  · rename_i n15
    rw [if_neg n15] at h
    split
    · rename_i c; rw [if_pos c] at h; exact h
    · rename_i c; rw [if_neg c] at h
      split
      · rename_i c; rw [if_pos c] at h; exact h
      · rename_i c; rw [if_neg c] at h
        split
        · rename_i c; rw [if_pos c] at h; exact h
        · rename_i c; rw [if_neg c] at h
          split
          · rename_i c; rw [if_pos c] at h; exact h
          · rename_i c; rw [if_neg c] at h
            split
            · rename_i c; rw [if_pos c] at h; exact h
            · rename_i c; rw [if_neg c] at h
              obtain ⟨r, hr, hO⟩ := h
              refine ⟨r, hr, (hO.kept hq).to (fun k _ => ?_)⟩
              simp only [pp_fv, h1, h2, h3]
theorem pp_Rep.hi {g : pp_G} {w : pp_W} {H : Heap} (h : pp_Rep g w H) {i : Nat} {sh : Nat × Nat} (hi : w.1[i]? = some sh) (hk : sh.1 ≠ 15) : 64 ≤ i ∧ i < w.1.length ∧ pp_ad g i = pp_b g + (i - 64) ∧ pp_ad g i < H.size := by
  have hl : i < w.1.length := (List.getElem?_eq_some_iff.mp hi).1
  have h6 : 64 ≤ i := by
    rcases Nat.lt_or_ge i 64 with q | q
    · have := h.2.2.1 i q
      rw [hi] at this
      cases this
      exact absurd rfl hk
    · exact q
  refine ⟨h6, hl, pp_ad_hi g h6, ?_⟩
  rw [pp_ad_hi g h6, h.2.1]
  omega
/-- a cell is written: the others stay -/
theorem pp_Rep.store {g : pp_G} {w : pp_W} {H H' : Heap} (h : pp_Rep g w H) {a : Nat} {sh : Nat × Nat} (ha : w.1[a]? = some sh) (hk : sh.1 ≠ 15) {m' : pp_M} (h1 : ∀ i, i ≠ a → m'.1 i = w.2.1 i) (h2 : ∀ i, i ≠ a → m'.2.1 i = w.2.2.1 i) (h3 : ∀ i, i ≠ a → m'.2.2 i = w.2.2.2 i)
    (hz : H'.size = H.size) (oq : ∀ q : Nat, q ≠ pp_ad g a → H'[q]? = H[q]?) (hn : pp_at g m' a sh H') : pp_Rep g (w.1, m') H' := by
  obtain ⟨a6, al, aA, -⟩ := h.hi ha hk
  refine ⟨h.1, hz.trans h.2.1, h.2.2.1, fun i si hi => ?_⟩
  by_cases e : i = a
  · subst e
    cases ha.symm.trans hi
    exact hn
  · by_cases k15 : si.1 = 15
    · unfold pp_at; rw [if_pos k15]; trivial
    · obtain ⟨i6, il, iA, -⟩ := h.hi hi k15
      refine (h.2.2.2 i si hi).congr (h1 i e) (h2 i e) (h3 i e) (oq _ ?_)
      rw [iA, aA]
      omega
/-- a cell is new -/
theorem pp_Rep.push {g : pp_G} {w : pp_W} {H H' : Heap} (h : pp_Rep g w H) {sh : Nat × Nat} {m' : pp_M} (h1 : ∀ i, i ≠ w.1.length → m'.1 i = w.2.1 i) (h2 : ∀ i, i ≠ w.1.length → m'.2.1 i = w.2.2.1 i) (h3 : ∀ i, i ≠ w.1.length → m'.2.2 i = w.2.2.2 i)
    (hz : H'.size = H.size + 1) (oq : ∀ q : Nat, q < H.size → H'[q]? = H[q]?) (hn : pp_at g m' w.1.length sh H') : pp_Rep g (w.1 ++ [sh], m') H' := by
  have hl := h.1
  have hs := h.2.1
  refine ⟨by simp only [List.length_append, List.length_cons, List.length_nil]; omega, by simp only [List.length_append, List.length_cons, List.length_nil]; omega, fun i hi => ?_, fun i si hi => ?_⟩
  · show (w.1 ++ [sh])[i]? = _
    rw [List.getElem?_append_left (by omega)]
    exact h.2.2.1 i hi
  · by_cases e : i < w.1.length
    · have hi : (w.1 ++ [sh])[i]? = some si := hi
      rw [List.getElem?_append_left e] at hi
      by_cases k15 : si.1 = 15
      · unfold pp_at; rw [if_pos k15]; trivial
      · obtain ⟨i6, il, iA, iH⟩ := h.hi hi k15
        exact (h.2.2.2 i si hi).congr (h1 i (by omega)) (h2 i (by omega)) (h3 i (by omega)) (oq _ iH)
    · have hi : (w.1 ++ [sh])[i]? = some si := hi
      rw [List.getElem?_append_right (by omega)] at hi
      have hz : i - w.1.length < 1 := (List.getElem?_eq_some_iff.mp hi).1
      have hz0 : i = w.1.length := by omega
      subst hz0
      rw [Nat.sub_self] at hi
      cases hi
      exact hn
theorem pp_Rep.size {g : pp_G} {w : pp_W} {H : Heap} (h : pp_Rep g w H) : pp_ad g w.1.length = H.size := by
  rw [pp_ad_hi g h.1, h.2.1]
/-- cells that nobody sees come -/
theorem pp_Rep.grow {g : pp_G} {w : pp_W} {H H' : Heap} (h : pp_Rep g w H) (hz : H.size ≤ H'.size) (oq : ∀ q : Nat, q < H.size → H'[q]? = H[q]?) : pp_Rep g (w.1 ++ List.replicate (H'.size - H.size) (15, 0), w.2) H' := by
  have hl := h.1
  have hs := h.2.1
  refine ⟨by simp only [List.length_append, List.length_replicate]; omega, by simp only [List.length_append, List.length_replicate]; omega, fun i hi => ?_, fun i si hi => ?_⟩
  · show (w.1 ++ _)[i]? = _
    rw [List.getElem?_append_left (by omega)]
    exact h.2.2.1 i hi
  · by_cases k15 : si.1 = 15
    · unfold pp_at; rw [if_pos k15]; trivial
    · by_cases e : i < w.1.length
      · have hi : (w.1 ++ List.replicate (H'.size - H.size) (15, 0))[i]? = some si := hi
        rw [List.getElem?_append_left e] at hi
        obtain ⟨i6, il, iA, iH⟩ := h.hi hi k15
        exact (h.2.2.2 i si hi).congr rfl rfl rfl (oq _ iH)
      · have hi : (w.1 ++ List.replicate (H'.size - H.size) (15, 0))[i]? = some si := hi
        rw [List.getElem?_append_right (by omega)] at hi
        have := List.eq_of_mem_replicate (List.mem_of_getElem? hi)
        rw [this] at k15
        exact absurd rfl k15
theorem pp_Rep.same {g : pp_G} {w : pp_W} {H H' : Heap} (h : pp_Rep g w H) (e : H' = H) : pp_Rep g w H' := e ▸ h
theorem pp_Rep.Aa {g : pp_G} {w : pp_W} {H : Heap} (h : pp_Rep g w H) {i : Nat} {sh : Nat × Nat} (hi : w.1[i]? = some sh) (hk : sh.1 ≠ 15) : pp_A g (pp_ad g i) := by
  rw [(h.hi hi hk).2.2.1]
  exact Nat.le_add_right _ _
-- the kinds of a cell
theorem pp_at.i {g : pp_G} {m : pp_M} {a n : Nat} {H : Heap} : pp_at g m a (10, n) H ↔ H[pp_ad g a]? = some (vp_cell (pp_d g 0) (n, .inl (m.1 a))) := by simp [pp_at]
theorem pp_at.b {g : pp_G} {m : pp_M} {a n : Nat} {H : Heap} : pp_at g m a (11, n) H ↔ H[pp_ad g a]? = some (vp_cell (pp_d g 1) (n, .inl (m.1 a))) := by simp [pp_at]
theorem pp_at.z {g : pp_G} {m : pp_M} {a n : Nat} {H : Heap} : pp_at g m a (12, n) H ↔ H[pp_ad g a]? = some (vp_cell (pp_d g 2) (n, .inl (m.1 a))) := by simp [pp_at]
theorem pp_at.j {g : pp_G} {m : pp_M} {a n : Nat} {H : Heap} : pp_at g m a (13, n) H ↔ H[pp_ad g a]? = some (vp_cell (pp_d g 3) (n, .inr (.inl (m.2.1 a)))) := by simp [pp_at]
theorem pp_at.q {g : pp_G} {m : pp_M} {a n : Nat} {H : Heap} : pp_at g m a (14, n) H ↔ H[pp_ad g a]? = some (vp_cell (pp_d g 4) (n, .inr (.inr (.inr (.inr (fun k => (m.2.2 a k).map (pp_ad g))))))) := by simp [pp_at]
theorem pp_at.o {g : pp_G} {m : pp_M} {a c n : Nat} {H : Heap} (hc : c < 10) : pp_at g m a (c, n) H ↔ ∃ r : vw_C, pp_cl[c]? = some r ∧ t_OB (pp_ad g a) ((pp_D g).1 c) r.2.2 ((pp_D g).2 c) H (fun k => pp_fv g m a (pp_fk c k) k) := by
  unfold pp_at
  rw [if_neg (by show ¬ c = 15; omega), if_neg (by show ¬ c = 10; omega), if_neg (by show ¬ c = 11; omega), if_neg (by show ¬ c = 12; omega), if_neg (by show ¬ c = 13; omega), if_neg (by show ¬ c = 14; omega)]
end
section
/-! THE ENGINE, 2: words, methods, the judgements -/
def pp_ok (w : Cond) : Bool := match w with
  | .arrayClass _ => true
  | w => w.onTables && w.keepsFace
def pp_T : List Cond := lw_tbl.filter pp_ok
theorem pp_mem {w : Cond} (i : Nat) (h : lw_tbl[i]? = some w) (ok : pp_ok w = true) : w ∈ pp_T := List.mem_filter.mpr ⟨List.mem_of_getElem? h, ok⟩
theorem pp_word {w : Cond} {args a' : Array Value} {s U : State} (hW : s.WarmedH U.vm) (ok : pp_ok w = true) (h : w.before args s = true) : w.before a' U = true := by
  have key : (w.onTables && w.keepsFace) = true → w.before a' U = true := fun hc => by
    simp only [Bool.and_eq_true] at hc
    exact va_tabs hc.1 (rfl : (s.setVm U.vm).vm = U.vm) (Cond.before_shiftedFace (State.Shifted.of_warmed hW) _ hc.2 h)
  cases w with
  | arrayClass ty =>
    have h1 : (Cond.arrayClass ty).before args (s.setVm U.vm) = true := Cond.before_shiftedFace (State.Shifted.of_warmed hW) _ rfl h
    exact h1
  | _ => exact key ok
theorem pp_T_warm {args a' : Array Value} {s U : State} (hW : s.WarmedH U.vm) (h : ∀ w ∈ pp_T, w.before args s = true) : ∀ w ∈ pp_T, w.before a' U = true := fun w hw => pp_word hW (List.mem_filter.mp hw).2 (h w hw)
/-- a method: name, code, locals, answer; cells and slots that it may make; cells and slots at its labels; its handlers; what they answer; 0 static, 1 by a name, 2 a constructor; parameters -/
abbrev pp_MI : Type := MethodName × ByteArray × Nat × Option FieldType × (Nat × Nat) × List (Nat × Nat × Nat) × List (Nat × Nat × Nat × Nat) × List (String × Int32) × Nat × Nat
abbrev pp_MI.y (mi : pp_MI) : MethodName := mi.1
abbrev pp_MI.by_ (mi : pp_MI) : ByteArray := mi.2.1
abbrev pp_MI.nL (mi : pp_MI) : Nat := mi.2.2.1
abbrev pp_MI.ret (mi : pp_MI) : Option FieldType := mi.2.2.2.1
abbrev pp_MI.mc (mi : pp_MI) : Nat := mi.2.2.2.2.1.1
abbrev pp_MI.ms (mi : pp_MI) : Nat := mi.2.2.2.2.1.2
abbrev pp_MI.cnts (mi : pp_MI) : List (Nat × Nat × Nat) := mi.2.2.2.2.2.1
abbrev pp_MI.hh (mi : pp_MI) : List (Nat × Nat × Nat × Nat) := mi.2.2.2.2.2.2.1
abbrev pp_MI.hx (mi : pp_MI) : List (String × Int32) := mi.2.2.2.2.2.2.2.1
abbrev pp_MI.kd (mi : pp_MI) : Nat := mi.2.2.2.2.2.2.2.2.1
abbrev pp_MI.np (mi : pp_MI) : Nat := mi.2.2.2.2.2.2.2.2.2
def pp_cnt (mi : pp_MI) (pc : Nat) : Nat × Nat := (mi.cnts.lookup pc).getD (0, 0)
def pp_cw (mi : pp_MI) : Cond := if mi.hh = [] then .code mi.y mi.by_ mi.nL mi.ret else .codeWith mi.y mi.by_ mi.nL mi.ret mi.hh
def pp_room (h : Nat) (mi : pp_MI) : Room := { frames := h + 8, cells := mi.mc, slots := mi.ms, locals := 40 * h + 200 }
def pp_MIok (mi : pp_MI) : Prop := plainName mi.y.cls = true ∧ mi.nL ≤ 21 ∧ pp_cw mi ∈ pp_T ∧ Cond.initialized mi.y.cls ∈ pp_T ∧ (mi.y.cls ≠ "java/lang/invoke/MethodHandle" ∧ mi.y.cls ≠ "java/lang/invoke/VarHandle") ∧ (parseMethodDescriptor mi.y.desc).map (fun d => d.parameters.length) = some mi.np ∧
  (((mi.kd = 0 ∧ Cond.static mi.y ∈ pp_T) ∨ (mi.kd = 1 ∧ Cond.instanceMethod mi.y ∈ pp_T ∧ Cond.selects mi.y.cls mi.y mi.y ∈ pp_T) ∨ (mi.kd = 2 ∧ mi.y.name = "<init>" ∧ Cond.instanceMethod mi.y ∈ pp_T ∧ mi.ret = none)) ∧ mi.y ≠ yL_law)
def pp_tys (g : pp_G) : List (ClassId × FieldType) := [(pp_d g 0, .int), (pp_d g 1, .byte), (pp_d g 2, .boolean), (pp_d g 3, .long), (pp_d g 4, .object RX4)]
def pp_K (g : pp_G) (U : State) : Prop := va_K (pp_D g) pp_cl (pp_tys g) U
/-- the texts of the Strings, by their numbers -/
def pp_txt : List (List Int32) := [[109, 101, 109, 98, 101, 114], [118, 101, 114, 115, 105, 111, 110], [112, 97, 116, 101, 110, 116], [108, 105, 99, 101, 110, 115, 101, 101], [113, 117, 111, 114, 117, 109], [99, 97, 112], [99, 111, 115, 116, 115], [114, 101, 115, 101, 114, 118, 101], [108, 97, 116, 101], [99, 114, 101, 100, 105, 116], [112, 101, 110, 97, 108, 116, 121], [119, 101, 105, 103, 104, 116], [112, 97, 116, 101, 110, 116, 115], [112, 97, 105, 114, 115], [100, 97, 121, 115]]
/-- what lies outside and stays: Strings and their entries, texts of exceptions, statics, what isn't castable, a nest mate's link, the script -/
def pp_Str (g : pp_G) (U : State) (H : Heap) : Prop := ∀ i : Nat, i < 15 → va_O "java/lang/String" (pp_x g (i + 1)) (pp_A g) U H ∧ va_OF "java/lang/String" "coder" "B" (.int 0) (pp_x g (i + 1)) (pp_A g) U H ∧ va_OF "java/lang/String" "value" "[B" (.ref (pp_x g (i + 16))) (pp_x g (i + 1)) (pp_A g) U H ∧ va_T .byte (pp_x g (i + 16)) (pp_txt.getD i []).length (fun j => .int ((pp_txt.getD i []).getD j 0)) (pp_A g) U H
def pp_strs : List (String × Nat × String × Nat) := [(RX5, 94, "member", 1), (RX5, 100, "version", 2), (RX5, 102, "patent", 3), (RX5, 104, "licensee", 4), (RX5, 106, "quorum", 5), (RX5, 108, "cap", 6), (RX5, 110, "costs", 7), (RX5, 112, "reserve", 8), (RX5, 114, "late", 9), (RX5, 116, "credit", 10), (RX5, 118, "penalty", 11), (RX5, 120, "weight", 12), (RX5, 202, "patents", 13), (RX5, 203, "pairs", 14), (RX5, 205, "days", 15), (RX9, 170, "member", 1), (RX9, 186, "version", 2), (RX9, 188, "patent", 3), (RX9, 190, "licensee", 4), (RX9, 196, "quorum", 5), (RX9, 205, "cap", 6), (RX9, 207, "costs", 7), (RX9, 209, "reserve", 8), (RX9, 211, "late", 9), (RX9, 213, "credit", 10), (RX9, 215, "penalty", 11), (RX9, 217, "weight", 12), (RX9, 234, "patents", 13), (RX9, 235, "pairs", 14), (RX9, 237, "days", 15)]
def pp_msgs : List (Nat × String) := [(76, "length is out of range"), (116, "what is out of range"), (167, "days is out of range"), (170, "amount is out of range"), (231, "the day would be too late"), (237, "there are too many members"), (242, "expiry is out of range"), (244, "there are too many patents"), (251, "there is no such reviewer"), (257, "the version is not released or the patent not in force"), (259, "there are no votes"), (261, "units is out of range"), (263, "the version is not released"), (272, "there was a credit in this period already"), (288, "the credit would be 0"), (300, "nothing was received"), (316, "the account is 0"), (325, "the slot is empty"), (327, "there is no such member"), (329, "there is no such version"), (331, "there is no such patent"), (333, "there is no such licensee"), (335, "there is no such slot")]
def pp_ncs : List (String × String) := [("java/lang/IllegalArgumentException", "java/lang/IllegalStateException"), ("java/lang/IllegalArgumentException", "java/lang/IndexOutOfBoundsException"), ("java/lang/IllegalStateException", "java/lang/IllegalArgumentException"), ("java/lang/IllegalStateException", "java/lang/IndexOutOfBoundsException"), ("java/lang/IndexOutOfBoundsException", "java/lang/IllegalArgumentException"), ("java/lang/IndexOutOfBoundsException", "java/lang/IllegalStateException")]
def pp_nest : Cond := .methodLinkNest RX0 19 yX8_pairOf RX8
def pp_Ext (g : pp_G) (U : State) (H : Heap) : Prop :=
  pp_Str g U H ∧ (∀ q ∈ pp_strs, vk_R q.1 q.2.1 q.2.2.1 (pp_x g q.2.2.2) U) ∧ (∀ q ∈ pp_msgs, ∃ sa : Nat, vk_R RX8 q.1 q.2 sa U) ∧
  vx_Zq Bundle.tN "UNASSIGNED_STACK" Bundle.steD (pp_A g) U H ∧ vx_Zq Bundle.tN "SUPPRESSED_SENTINEL" Bundle.listD (pp_A g) U H ∧ (∀ q ∈ pp_ncs, va_Nc q.1 q.2 U) ∧ va_Nw pp_nest U ∧
  va_Z "java/lang/String" "COMPACT_STRINGS" "Z" (.int 1) (pp_A g) U H ∧ (va_Z "jdk/internal/util/Preconditions" "SIOOBE_FORMATTER" "Ljava/util/function/BiFunction;" .null (pp_A g) U H ∨ va_Z "jdk/internal/util/Preconditions" "SIOOBE_FORMATTER" "Ljava/util/function/BiFunction;" (.ref (pp_x g 31)) (pp_A g) U H) ∧ va_AO RX4 U
theorem pp_Ext.moved {g : pp_G} {u U : State} {H : Heap} (hW : u.WarmedH U.vm) (h : pp_Ext g u H) : pp_Ext g U H := by
  obtain ⟨h1, h2, h3, h4, h5, h6, h7, h8, h9, h10⟩ := h
  have hvm := hW.alike
  exact ⟨fun i hi => ⟨va_O.moved hvm (h1 i hi).1, va_OF.moved hvm (h1 i hi).2.1, va_OF.moved hvm (h1 i hi).2.2.1, va_T.moved hvm (h1 i hi).2.2.2⟩, fun q hq => vk_R.warm hW (h2 q hq), fun q hq => (h3 q hq).imp fun _ h => vk_R.warm hW h,
    vx_Zq.moved hvm h4, vx_Zq.moved hvm h5, fun q hq => va_Nc.moved hvm (h6 q hq), va_Nw.warmM hW h7, va_Z.moved hvm h8, h9.imp (va_Z.moved hvm) (va_Z.moved hvm), va_AO.moved hvm h10⟩
theorem pp_Ext.kept {g : pp_G} {U : State} {H H1 : Heap} (h : pp_Ext g U H) (hq : ∀ a : Nat, a < H.size → ¬ pp_A g a → H1[a]? = H[a]?) : pp_Ext g U H1 := by
  obtain ⟨h1, h2, h3, h4, h5, h6, h7, h8, h9, h10⟩ := h
  exact ⟨fun i hi => ⟨(h1 i hi).1.kept hq, (h1 i hi).2.1.kept hq, (h1 i hi).2.2.1.kept hq, (h1 i hi).2.2.2.kept hq⟩, h2, h3, h4.kept hq, h5.kept hq, h6, h7, h8.kept hq, h9.imp (fun z => z.kept hq) (fun z => z.kept hq), h10⟩
theorem pp_K.moved {g : pp_G} {u U : State} (hvm : u.vm.Alike U.vm) (h : pp_K g u) : pp_K g U := va_K.moved hvm h
/-- where a method stands: its machine, state at its entry, name, arguments, what lies below, itself, its code -/
abbrev pp_CT : Type := Program × Env × State × MethodId × Array Value × List Frame × Method × Code
abbrev pp_CT.p (t : pp_CT) : Program := t.1
abbrev pp_CT.e (t : pp_CT) : Env := t.2.1
abbrev pp_CT.s (t : pp_CT) : State := t.2.2.1
abbrev pp_CT.m (t : pp_CT) : MethodId := t.2.2.2.1
abbrev pp_CT.args (t : pp_CT) : Array Value := t.2.2.2.2.1
abbrev pp_CT.below (t : pp_CT) : List Frame := t.2.2.2.2.2.1
abbrev pp_CT.meth (t : pp_CT) : Method := t.2.2.2.2.2.2.1
abbrev pp_CT.c (t : pp_CT) : Code := t.2.2.2.2.2.2.2
def pp_Cx (g : pp_G) (mi : pp_MI) (t : pp_CT) : Prop :=
  t.p.tables.exec = Jvm.exec ∧ t.c.code = mi.by_ ∧ t.c.maxLocals = mi.nL ∧ t.s.vm.findClass mi.y.cls = some t.m.cls ∧ (∀ w ∈ pp_T, w.before t.args t.s = true) ∧ t.meth.sig.returnType = mi.ret ∧ t.meth.locks = false ∧ t.meth.name = mi.y.name ∧
  t.c.exceptionTable.toList = tableOf mi.hh ∧ pp_K g t.s ∧ pp_Ext g t.s t.s.heap ∧ pp_b g ≤ t.s.heap.size ∧ (pp_l g).stackTraces = false ∧ (mi.y = yL_law → va_X (pp_x g 0) (pp_sL g) (pp_sx g) t.s t.s.heap ∧ pp_x g 0 < pp_b g)
abbrev pp_Wt (g : pp_G) (R : Room) (t : pp_CT) (H : Heap) (locs : List Loc) (cells slots : Nat) (Q : State → Prop) (f : JFrame) : Prop := W t.p (pp_l g) t.e R t.s t.m t.args t.below t.meth t.c H locs cells slots Q f
/-- the locals that are known -/
def pp_ls (g : pp_G) (L : List (Nat × Value)) : List (Nat × Value) := L.map (fun q => (q.1, pp_v g q.2))
/-- THE JUDGEMENT: at pc, with these locals, this stack and this world, the machine comes to Z -/
def pp_ATc (g : pp_G) (R : Room) (mi : pp_MI) (Z : pp_CT → State → Prop) (cs : Nat × Nat) (pc : Nat) (L : List (Nat × Value)) (st : List Value) (w : pp_W) : Prop :=
  ∀ t : pp_CT, pp_Cx g mi t → ∀ (H : Heap) (locs : List Loc) (ls : Array Slot) (cells slots : Nat), pp_Rep g w H → va_S (pp_A g) t.s.heap H locs → lv_has ls mi.nL (pp_ls g L) → cells ≤ cs.1 → slots ≤ cs.2 →
    pp_Wt g R t H locs cells slots (Z t) (F0 t.m pc ls (st.map (pp_v g)))
def pp_AT (g : pp_G) (R : Room) (mi : pp_MI) (Z : pp_CT → State → Prop) (off : Nat × Nat) (pc : Nat) (L : List (Nat × Value)) (st : List Value) (w : pp_W) : Prop :=
  pp_ATc g R mi Z (off.1 + (pp_cnt mi pc).1, off.2 + (pp_cnt mi pc).2) pc L st w
theorem pp_ATc.le {g : pp_G} {R : Room} {mi : pp_MI} {Z : pp_CT → State → Prop} {cs cs' : Nat × Nat} {pc : Nat} {L : List (Nat × Value)} {st : List Value} {w : pp_W} (h : pp_ATc g R mi Z cs' pc L st w) (h1 : cs.1 ≤ cs'.1) (h2 : cs.2 ≤ cs'.2) : pp_ATc g R mi Z cs pc L st w :=
  fun t hc H locs ls cells slots hP hS hl a b => h t hc H locs ls cells slots hP hS hl (Nat.le_trans a h1) (Nat.le_trans b h2)
/-- fewer locals -/
theorem pp_ATc.sub {g : pp_G} {R : Room} {mi : pp_MI} {Z : pp_CT → State → Prop} {cs : Nat × Nat} {pc : Nat} {L L' : List (Nat × Value)} {st : List Value} {w : pp_W} (h : pp_ATc g R mi Z cs pc L' st w) (hL : ∀ q ∈ L', q ∈ L) : pp_ATc g R mi Z cs pc L st w :=
  fun t hc H locs ls cells slots hP hS hl a b => h t hc H locs ls cells slots hP hS ⟨hl.1, hl.2.1, fun q hq => by
    obtain ⟨q', h1, rfl⟩ := List.mem_map.mp hq
    exact hl.2.2 _ (List.mem_map.mpr ⟨q', hL q' h1, rfl⟩)⟩ a b
/-- what is behind a method, and what a contract of it says -/
def pp_Qc (g : pp_G) (P : pp_R → pp_W → Prop) : Array Value → State → Outcome → State → Prop := fun _ st o t => ∃ (v : Option Value) (w : pp_W), o = .returned (v.map (pp_v g)) ∧ P (.inl v) w ∧ pp_Rep g w t.heap ∧ va_F (pp_A g) st t
def pp_XC (g : pp_G) (P : pp_R → pp_W → Prop) : String → State → State → Prop := fun E st t => ∃ w : pp_W, P (.inr E) w ∧ pp_Rep g w t.heap ∧ va_F (pp_A g) st t
def pp_Pc (g : pp_G) (av : List Value) (w : pp_W) : Array Value → State → Prop := fun v U => v = (av.map (pp_v g)).toArray ∧ pp_Rep g w U.heap ∧ pp_K g U ∧ pp_Ext g U U.heap ∧ (pp_l g).stackTraces = false
def pp_MW (g : pp_G) (h : Nat) (mi : pp_MI) (av : List Value) (w : pp_W) (P : pp_R → pp_W → Prop) : Prop :=
  pp_MIok mi ∧ vx_Met (pp_l g) mi.y (pp_cw mi :: pp_T) (pp_room h mi) (pp_Pc g av w) (pp_Qc g P) (pp_XC g P) mi.mc mi.ms (pp_A g)
def pp_Z (g : pp_G) (mi : pp_MI) (P : pp_R → pp_W → Prop) (t : pp_CT) : State → Prop := vx_MQ t.below (pp_Qc g P) (pp_XC g P) t.args t.s mi.mc mi.ms (pp_A g)
theorem pp_blind (g : pp_G) (av : List Value) (w : pp_W) : FrameBlind (pp_Pc g av w) := fun a U f mk q => ⟨q.1, q.2.1, va_K.moved (u := U) (U := U.calling f mk a) (Vm.Alike.refl U.vm) q.2.2.1, pp_Ext.moved (u := U) (U := U.calling f mk a) (State.WarmedH.refl U) q.2.2.2.1, q.2.2.2.2⟩
end
section
/-! THE ENGINE, 3: a row an instruction -/
def pp_wide : Value → Bool
  | .long _ => true
  | .double _ => true
  | _ => false
theorem pp_wide_eq (v : Value) : (v.category == 2) = pp_wide v := by cases v <;> rfl
def pp_ins (i : Nat) (v : Value) : List (Nat × Value) → List (Nat × Value)
  | [] => [(i, v)]
  | q :: L => if q.1 < i then q :: pp_ins i v L else (i, v) :: q :: L
def pp_put1 (i : Nat) (v : Value) (L : List (Nat × Value)) : List (Nat × Value) := pp_ins i v (L.filter (fun q => !(q.1 == i) && !(q.1 + 1 == i && pp_wide q.2)))
def pp_put2 (i : Nat) (v : Value) (L : List (Nat × Value)) : List (Nat × Value) := pp_ins i v (L.filter (fun q => !(q.1 == i) && (!(q.1 == i + 1) && !(q.1 + 1 == i && pp_wide q.2))))
theorem pp_ins_mem (i : Nat) (v : Value) (L : List (Nat × Value)) : ∀ q ∈ pp_ins i v L, q ∈ (i, v) :: L := by
  induction L with
  | nil => intro q hq; exact hq
  | cons a L ih =>
    intro q hq
    unfold pp_ins at hq
    split at hq
    · rcases List.mem_cons.mp hq with rfl | h
      · simp
      · rcases List.mem_cons.mp (ih q h) with rfl | h
        · simp
        · simp [h]
    · exact hq
theorem pp_put1_has {g : pp_G} {ls : Array Slot} {nL i : Nat} {v : Value} {L : List (Nat × Value)} (h : lv_has ls nL ((i, pp_v g v) :: (pp_ls g L).filter (fun q => !(q.1 == i) && !(q.1 + 1 == i && q.2.category == 2)))) : lv_has ls nL (pp_ls g (pp_put1 i v L)) := by
  refine ⟨h.1, h.2.1, fun q hq => ?_⟩
  obtain ⟨q', h1, rfl⟩ := List.mem_map.mp hq
  rcases List.mem_cons.mp (pp_ins_mem i v _ q' h1) with rfl | h2
  · exact h.2.2 _ List.mem_cons_self
  · obtain ⟨h3, h4⟩ := List.mem_filter.mp h2
    refine h.2.2 _ (List.mem_cons_of_mem _ (List.mem_filter.mpr ⟨List.mem_map.mpr ⟨q', h3, rfl⟩, ?_⟩))
    rw [pp_v_cat, pp_wide_eq]
    exact h4
theorem pp_put2_has {g : pp_G} {ls : Array Slot} {nL i : Nat} {v : Value} {L : List (Nat × Value)} (h : lv_has ls nL ((i, pp_v g v) :: (pp_ls g L).filter (fun q => !(q.1 == i) && (!(q.1 == i + 1) && !(q.1 + 1 == i && q.2.category == 2))))) : lv_has ls nL (pp_ls g (pp_put2 i v L)) := by
  refine ⟨h.1, h.2.1, fun q hq => ?_⟩
  obtain ⟨q', h1, rfl⟩ := List.mem_map.mp hq
  rcases List.mem_cons.mp (pp_ins_mem i v _ q' h1) with rfl | h2
  · exact h.2.2 _ List.mem_cons_self
  · obtain ⟨h3, h4⟩ := List.mem_filter.mp h2
    refine h.2.2 _ (List.mem_cons_of_mem _ (List.mem_filter.mpr ⟨List.mem_map.mpr ⟨q', h3, rfl⟩, ?_⟩))
    rw [pp_v_cat, pp_wide_eq]
    exact h4
theorem pp_look {g : pp_G} {ls : Array Slot} {nL i : Nat} {v : Value} {L : List (Nat × Value)} (hl : lv_has ls nL (pp_ls g L)) (h : L.lookup i = some v) : ls[i]? = some (.val (pp_v g v)) := by
  have hm : (i, v) ∈ L := by
    induction L with
    | nil => cases h
    | cons a L ih =>
      rw [List.lookup_cons] at h
      by_cases e : (i == a.1) = true
      · simp only [e] at h
        cases h
        have : i = a.1 := by simpa using e
        subst this
        simp
      · simp only [Bool.not_eq_true] at e
        simp only [e] at h
        exact List.mem_cons_of_mem _ (ih ⟨hl.1, hl.2.1, fun q hq => hl.2.2 q (List.mem_cons_of_mem _ hq)⟩ h)
  exact hl.2.2 _ (List.mem_map.mpr ⟨(i, v), hm, rfl⟩)
section Rows
variable {g : pp_G} {R : Room} {mi : pp_MI} {Z : pp_CT → State → Prop} {cs : Nat × Nat} {pc : Nat} {L : List (Nat × Value)} {st : List Value} {w : pp_W}
-- constants
theorem pr_iconst {n : Int} {v : Int32} (hd : decode mi.by_ pc = .ok (.iconst n, 1)) (hv : Int32.ofInt n = v) (k : pp_ATc g R mi Z cs (pc + 1) L (.int v :: st) w) : pp_ATc g R mi Z cs pc L st w :=
  fun t C H locs ls cells slots hP hS hl a b => lv_iconst C.1 C.2.1 hd hv (k t C H locs ls cells slots hP hS hl a b)
theorem pr_bipush {n : Int} {v : Int32} (hd : decode mi.by_ pc = .ok (.bipush n, 2)) (hv : (Int8.ofInt n).toInt32 = v) (k : pp_ATc g R mi Z cs (pc + 2) L (.int v :: st) w) : pp_ATc g R mi Z cs pc L st w :=
  fun t C H locs ls cells slots hP hS hl a b => lv_bipush C.1 C.2.1 hd hv (k t C H locs ls cells slots hP hS hl a b)
theorem pr_sipush {n : Int} {v : Int32} (hd : decode mi.by_ pc = .ok (.sipush n, 3)) (hv : (Int16.ofInt n).toInt32 = v) (k : pp_ATc g R mi Z cs (pc + 3) L (.int v :: st) w) : pp_ATc g R mi Z cs pc L st w :=
  fun t C H locs ls cells slots hP hS hl a b => lv_sipush C.1 C.2.1 hd hv (k t C H locs ls cells slots hP hS hl a b)
theorem pr_lconst {n : Fin 2} {v : Int64} (hd : decode mi.by_ pc = .ok (.lconst n, 1)) (hv : Int64.ofNat (n : Nat) = v) (k : pp_ATc g R mi Z cs (pc + 1) L (.long v :: st) w) : pp_ATc g R mi Z cs pc L st w :=
  fun t C H locs ls cells slots hP hS hl a b => lv_lconst C.1 C.2.1 hd hv (k t C H locs ls cells slots hP hS hl a b)
theorem pr_ldc {i : Nat} {v : Int32} (hd : decode mi.by_ pc = .ok (.ldc i, 2)) (hc : Cond.constant mi.y.cls i v ∈ pp_T) (k : pp_ATc g R mi Z cs (pc + 2) L (.int v :: st) w) : pp_ATc g R mi Z cs pc L st w :=
  fun t C H locs ls cells slots hP hS hl a b => lv_ldc C.1 C.2.1 C.2.2.2.1 (C.2.2.2.2.1 _ hc) hd (k t C H locs ls cells slots hP hS hl a b)
theorem pr_ldcw {i : Nat} {v : Int32} (hd : decode mi.by_ pc = .ok (.ldc_w i, 3)) (hc : Cond.constant mi.y.cls i v ∈ pp_T) (k : pp_ATc g R mi Z cs (pc + 3) L (.int v :: st) w) : pp_ATc g R mi Z cs pc L st w :=
  fun t C H locs ls cells slots hP hS hl a b => lv_ldcw C.1 C.2.1 C.2.2.2.1 (C.2.2.2.2.1 _ hc) hd (k t C H locs ls cells slots hP hS hl a b)
theorem pr_ldc2 {i : Nat} {v : Int64} (hd : decode mi.by_ pc = .ok (.ldc2_w i, 3)) (hc : Cond.constantLong mi.y.cls i v ∈ pp_T) (k : pp_ATc g R mi Z cs (pc + 3) L (.long v :: st) w) : pp_ATc g R mi Z cs pc L st w :=
  fun t C H locs ls cells slots hP hS hl a b => lv_ldc2 C.1 C.2.1 C.2.2.2.1 (C.2.2.2.2.1 _ hc) hd (k t C H locs ls cells slots hP hS hl a b)
theorem pr_ldcS {i n : Nat} {tx : String} (hd : decode mi.by_ pc = .ok (.ldc i, 2)) (hc : (mi.y.cls, i, tx, n) ∈ pp_strs) (hn : n < 64) (k : pp_ATc g R mi Z cs (pc + 2) L (.ref n :: st) w) : pp_ATc g R mi Z cs pc L st w :=
  fun t C H locs ls cells slots hP hS hl a b => va_ldcS C.1 C.2.1 C.2.2.2.1 (C.2.2.2.2.2.2.2.2.2.2.1.2.1 _ hc) hd (by
    have := k t C H locs ls cells slots hP hS hl a b
    simp only [List.map_cons, pp_v, pp_ad, if_pos hn] at this
    exact this)
theorem pr_null (hd : decode mi.by_ pc = .ok (.aconst_null, 1)) (k : pp_ATc g R mi Z cs (pc + 1) L (.null :: st) w) : pp_ATc g R mi Z cs pc L st w :=
  fun t C H locs ls cells slots hP hS hl a b => lv_null C.1 C.2.1 hd (k t C H locs ls cells slots hP hS hl a b)
-- loads
theorem pr_iload {i : Nat} {x : Int32} (hd : decode mi.by_ pc = .ok (.iload i, 2)) (h : L.lookup i = some (.int x)) (k : pp_ATc g R mi Z cs (pc + 2) L (.int x :: st) w) : pp_ATc g R mi Z cs pc L st w :=
  fun t C H locs ls cells slots hP hS hl a b => lv_iload C.1 C.2.1 hd (pp_look hl h) (k t C H locs ls cells slots hP hS hl a b)
theorem pr_iload_n {n : Fin 4} {x : Int32} (hd : decode mi.by_ pc = .ok (.iload_n n, 1)) (h : L.lookup n.val = some (.int x)) (k : pp_ATc g R mi Z cs (pc + 1) L (.int x :: st) w) : pp_ATc g R mi Z cs pc L st w :=
  fun t C H locs ls cells slots hP hS hl a b => lv_iload_n C.1 C.2.1 hd rfl (pp_look hl h) (k t C H locs ls cells slots hP hS hl a b)
theorem pr_lload {i : Nat} {x : Int64} (hd : decode mi.by_ pc = .ok (.lload i, 2)) (h : L.lookup i = some (.long x)) (k : pp_ATc g R mi Z cs (pc + 2) L (.long x :: st) w) : pp_ATc g R mi Z cs pc L st w :=
  fun t C H locs ls cells slots hP hS hl a b => lv_lload C.1 C.2.1 hd (pp_look hl h) (k t C H locs ls cells slots hP hS hl a b)
theorem pr_lload_n {n : Fin 4} {x : Int64} (hd : decode mi.by_ pc = .ok (.lload_n n, 1)) (h : L.lookup n.val = some (.long x)) (k : pp_ATc g R mi Z cs (pc + 1) L (.long x :: st) w) : pp_ATc g R mi Z cs pc L st w :=
  fun t C H locs ls cells slots hP hS hl a b => lv_lload_n C.1 C.2.1 hd rfl (pp_look hl h) (k t C H locs ls cells slots hP hS hl a b)
theorem pr_aload {i : Nat} {x : Nat} (hd : decode mi.by_ pc = .ok (.aload i, 2)) (h : L.lookup i = some (.ref x)) (k : pp_ATc g R mi Z cs (pc + 2) L (.ref x :: st) w) : pp_ATc g R mi Z cs pc L st w :=
  fun t C H locs ls cells slots hP hS hl a b => lv_aload C.1 C.2.1 hd (pp_look hl h) (k t C H locs ls cells slots hP hS hl a b)
theorem pr_aload_n {n : Fin 4} {x : Nat} (hd : decode mi.by_ pc = .ok (.aload_n n, 1)) (h : L.lookup n.val = some (.ref x)) (k : pp_ATc g R mi Z cs (pc + 1) L (.ref x :: st) w) : pp_ATc g R mi Z cs pc L st w :=
  fun t C H locs ls cells slots hP hS hl a b => lv_aload_n C.1 C.2.1 hd rfl (pp_look hl h) (k t C H locs ls cells slots hP hS hl a b)
theorem pr_aloadN {i : Nat} (hd : decode mi.by_ pc = .ok (.aload i, 2)) (h : L.lookup i = some .null) (k : pp_ATc g R mi Z cs (pc + 2) L (.null :: st) w) : pp_ATc g R mi Z cs pc L st w :=
  fun t C H locs ls cells slots hP hS hl a b => lv_aloadN C.1 C.2.1 hd (pp_look hl h) (k t C H locs ls cells slots hP hS hl a b)
theorem pr_aload_nN {n : Fin 4} (hd : decode mi.by_ pc = .ok (.aload_n n, 1)) (h : L.lookup n.val = some .null) (k : pp_ATc g R mi Z cs (pc + 1) L (.null :: st) w) : pp_ATc g R mi Z cs pc L st w :=
  fun t C H locs ls cells slots hP hS hl a b => lv_aload_nN C.1 C.2.1 hd rfl (pp_look hl h) (k t C H locs ls cells slots hP hS hl a b)
-- stores
theorem pr_istore {i : Nat} {x : Int32} (hd : decode mi.by_ pc = .ok (.istore i, 2)) (hn : i < mi.nL) (k : pp_ATc g R mi Z cs (pc + 2) (pp_put1 i (.int x) L) st w) : pp_ATc g R mi Z cs pc L (.int x :: st) w :=
  fun t C H locs ls cells slots hP hS hl a b => lv_istore C.1 C.2.1 hd hl hn rfl (fun ls' hl' => k t C H locs ls' cells slots hP hS (pp_put1_has hl') a b)
theorem pr_istore_n {n : Fin 4} {x : Int32} (hd : decode mi.by_ pc = .ok (.istore_n n, 1)) (hn : n.val < mi.nL) (k : pp_ATc g R mi Z cs (pc + 1) (pp_put1 n.val (.int x) L) st w) : pp_ATc g R mi Z cs pc L (.int x :: st) w :=
  fun t C H locs ls cells slots hP hS hl a b => lv_istore_n C.1 C.2.1 hd rfl hl hn rfl (fun ls' hl' => k t C H locs ls' cells slots hP hS (pp_put1_has hl') a b)
theorem pr_lstore {i : Nat} {x : Int64} (hd : decode mi.by_ pc = .ok (.lstore i, 2)) (hn : i + 1 < mi.nL) (k : pp_ATc g R mi Z cs (pc + 2) (pp_put2 i (.long x) L) st w) : pp_ATc g R mi Z cs pc L (.long x :: st) w :=
  fun t C H locs ls cells slots hP hS hl a b => lv_lstore C.1 C.2.1 hd hl hn rfl (fun ls' hl' => k t C H locs ls' cells slots hP hS (pp_put2_has hl') a b)
theorem pr_lstore_n {n : Fin 4} {x : Int64} (hd : decode mi.by_ pc = .ok (.lstore_n n, 1)) (hn : n.val + 1 < mi.nL) (k : pp_ATc g R mi Z cs (pc + 1) (pp_put2 n.val (.long x) L) st w) : pp_ATc g R mi Z cs pc L (.long x :: st) w :=
  fun t C H locs ls cells slots hP hS hl a b => lv_lstore_n C.1 C.2.1 hd rfl hl hn rfl (fun ls' hl' => k t C H locs ls' cells slots hP hS (pp_put2_has hl') a b)
theorem pr_astore {i : Nat} {x : Nat} (hd : decode mi.by_ pc = .ok (.astore i, 2)) (hn : i < mi.nL) (k : pp_ATc g R mi Z cs (pc + 2) (pp_put1 i (.ref x) L) st w) : pp_ATc g R mi Z cs pc L (.ref x :: st) w :=
  fun t C H locs ls cells slots hP hS hl a b => lv_astore C.1 C.2.1 hd hl hn rfl (fun ls' hl' => k t C H locs ls' cells slots hP hS (pp_put1_has (v := .ref x) hl') a b)
theorem pr_astore_n {n : Fin 4} {x : Nat} (hd : decode mi.by_ pc = .ok (.astore_n n, 1)) (hn : n.val < mi.nL) (k : pp_ATc g R mi Z cs (pc + 1) (pp_put1 n.val (.ref x) L) st w) : pp_ATc g R mi Z cs pc L (.ref x :: st) w :=
  fun t C H locs ls cells slots hP hS hl a b => lv_astore_n C.1 C.2.1 hd rfl hl hn rfl (fun ls' hl' => k t C H locs ls' cells slots hP hS (pp_put1_has (v := .ref x) hl') a b)
theorem pr_astoreN {i : Nat} (hd : decode mi.by_ pc = .ok (.astore i, 2)) (hn : i < mi.nL) (k : pp_ATc g R mi Z cs (pc + 2) (pp_put1 i .null L) st w) : pp_ATc g R mi Z cs pc L (.null :: st) w :=
  fun t C H locs ls cells slots hP hS hl a b => lv_astoreN C.1 C.2.1 hd hl hn rfl (fun ls' hl' => k t C H locs ls' cells slots hP hS (pp_put1_has (v := .null) hl') a b)
theorem pr_astore_nN {n : Fin 4} (hd : decode mi.by_ pc = .ok (.astore_n n, 1)) (hn : n.val < mi.nL) (k : pp_ATc g R mi Z cs (pc + 1) (pp_put1 n.val .null L) st w) : pp_ATc g R mi Z cs pc L (.null :: st) w :=
  fun t C H locs ls cells slots hP hS hl a b => lv_astore_nN C.1 C.2.1 hd rfl hl hn rfl (fun ls' hl' => k t C H locs ls' cells slots hP hS (pp_put1_has (v := .null) hl') a b)
theorem pr_iinc {i : Nat} {n : Int} {x c : Int32} (hd : decode mi.by_ pc = .ok (.iinc i n, 3)) (h : L.lookup i = some (.int x)) (hc : Int32.ofInt n = c) (hn : i < mi.nL) (k : pp_ATc g R mi Z cs (pc + 3) (pp_put1 i (.int (x + c)) L) st w) : pp_ATc g R mi Z cs pc L st w :=
  fun t C H locs ls cells slots hP hS hl a b => lv_iinc (lv := (i, .int x) :: pp_ls g L) (k := 0) C.1 C.2.1 hd ⟨hl.1, hl.2.1, fun q hq => by
    rcases List.mem_cons.mp hq with rfl | hq
    · exact pp_look hl h
    · exact hl.2.2 q hq⟩ rfl (by rw [hc]) hn rfl (fun ls' hl' => k t C H locs ls' cells slots hP hS (pp_put1_has (v := .int (x + c)) ⟨hl'.1, hl'.2.1, fun q hq => hl'.2.2 q (by
      rcases List.mem_cons.mp hq with rfl | hq
      · exact List.mem_cons_self
      · refine List.mem_cons_of_mem _ ?_
        obtain ⟨q1, q2⟩ := List.mem_filter.mp hq
        exact List.mem_filter.mpr ⟨List.mem_cons_of_mem _ q1, q2⟩)⟩) a b)
-- arithmetic
theorem pr_iadd {x y : Int32} (hd : decode mi.by_ pc = .ok (.iadd, 1)) (k : pp_ATc g R mi Z cs (pc + 1) L (.int (x + y) :: st) w) : pp_ATc g R mi Z cs pc L (.int y :: .int x :: st) w :=
  fun t C H locs ls cells slots hP hS hl a b => lv_iadd C.1 C.2.1 hd (k t C H locs ls cells slots hP hS hl a b)
theorem pr_isub {x y : Int32} (hd : decode mi.by_ pc = .ok (.isub, 1)) (k : pp_ATc g R mi Z cs (pc + 1) L (.int (x - y) :: st) w) : pp_ATc g R mi Z cs pc L (.int y :: .int x :: st) w :=
  fun t C H locs ls cells slots hP hS hl a b => lv_isub C.1 C.2.1 hd (k t C H locs ls cells slots hP hS hl a b)
theorem pr_imul {x y : Int32} (hd : decode mi.by_ pc = .ok (.imul, 1)) (k : pp_ATc g R mi Z cs (pc + 1) L (.int (x * y) :: st) w) : pp_ATc g R mi Z cs pc L (.int y :: .int x :: st) w :=
  fun t C H locs ls cells slots hP hS hl a b => lv_imul C.1 C.2.1 hd (k t C H locs ls cells slots hP hS hl a b)
theorem pr_iand {x y : Int32} (hd : decode mi.by_ pc = .ok (.iand, 1)) (k : pp_ATc g R mi Z cs (pc + 1) L (.int (x &&& y) :: st) w) : pp_ATc g R mi Z cs pc L (.int y :: .int x :: st) w :=
  fun t C H locs ls cells slots hP hS hl a b => lv_iand C.1 C.2.1 hd (k t C H locs ls cells slots hP hS hl a b)
theorem pr_ior {x y : Int32} (hd : decode mi.by_ pc = .ok (.ior, 1)) (k : pp_ATc g R mi Z cs (pc + 1) L (.int (x ||| y) :: st) w) : pp_ATc g R mi Z cs pc L (.int y :: .int x :: st) w :=
  fun t C H locs ls cells slots hP hS hl a b => lv_ior C.1 C.2.1 hd (k t C H locs ls cells slots hP hS hl a b)
theorem pr_ixor {x y : Int32} (hd : decode mi.by_ pc = .ok (.ixor, 1)) (k : pp_ATc g R mi Z cs (pc + 1) L (.int (x ^^^ y) :: st) w) : pp_ATc g R mi Z cs pc L (.int y :: .int x :: st) w :=
  fun t C H locs ls cells slots hP hS hl a b => lv_ixor C.1 C.2.1 hd (k t C H locs ls cells slots hP hS hl a b)
theorem pr_ishl {x y : Int32} (hd : decode mi.by_ pc = .ok (.ishl, 1)) (k : pp_ATc g R mi Z cs (pc + 1) L (.int (x <<< (y &&& 31)) :: st) w) : pp_ATc g R mi Z cs pc L (.int y :: .int x :: st) w :=
  fun t C H locs ls cells slots hP hS hl a b => lv_ishl C.1 C.2.1 hd (k t C H locs ls cells slots hP hS hl a b)
theorem pr_ishr {x y : Int32} (hd : decode mi.by_ pc = .ok (.ishr, 1)) (k : pp_ATc g R mi Z cs (pc + 1) L (.int (x >>> (y &&& 31)) :: st) w) : pp_ATc g R mi Z cs pc L (.int y :: .int x :: st) w :=
  fun t C H locs ls cells slots hP hS hl a b => lv_ishr C.1 C.2.1 hd (k t C H locs ls cells slots hP hS hl a b)
theorem pr_iushr {x y : Int32} (hd : decode mi.by_ pc = .ok (.iushr, 1)) (k : pp_ATc g R mi Z cs (pc + 1) L (.int (x.toUInt32 >>> (y.toUInt32 &&& Int32.toUInt32 31)).toInt32 :: st) w) : pp_ATc g R mi Z cs pc L (.int y :: .int x :: st) w :=
  fun t C H locs ls cells slots hP hS hl a b => lv_iushr C.1 C.2.1 hd rfl (k t C H locs ls cells slots hP hS hl a b)
theorem pr_idiv {x y : Int32} (hd : decode mi.by_ pc = .ok (.idiv, 1)) (hy : ¬ y = 0) (k : pp_ATc g R mi Z cs (pc + 1) L (.int (x / y) :: st) w) : pp_ATc g R mi Z cs pc L (.int y :: .int x :: st) w :=
  fun t C H locs ls cells slots hP hS hl a b => lv_idiv C.1 C.2.1 hd hy (k t C H locs ls cells slots hP hS hl a b)
theorem pr_ladd {x y : Int64} (hd : decode mi.by_ pc = .ok (.ladd, 1)) (k : pp_ATc g R mi Z cs (pc + 1) L (.long (x + y) :: st) w) : pp_ATc g R mi Z cs pc L (.long y :: .long x :: st) w :=
  fun t C H locs ls cells slots hP hS hl a b => lv_ladd C.1 C.2.1 hd (k t C H locs ls cells slots hP hS hl a b)
theorem pr_lsub {x y : Int64} (hd : decode mi.by_ pc = .ok (.lsub, 1)) (k : pp_ATc g R mi Z cs (pc + 1) L (.long (x - y) :: st) w) : pp_ATc g R mi Z cs pc L (.long y :: .long x :: st) w :=
  fun t C H locs ls cells slots hP hS hl a b => lv_lsub C.1 C.2.1 hd (k t C H locs ls cells slots hP hS hl a b)
theorem pr_lmul {x y : Int64} (hd : decode mi.by_ pc = .ok (.lmul, 1)) (k : pp_ATc g R mi Z cs (pc + 1) L (.long (x * y) :: st) w) : pp_ATc g R mi Z cs pc L (.long y :: .long x :: st) w :=
  fun t C H locs ls cells slots hP hS hl a b => lv_lmul C.1 C.2.1 hd (k t C H locs ls cells slots hP hS hl a b)
theorem pr_land {x y : Int64} (hd : decode mi.by_ pc = .ok (.land, 1)) (k : pp_ATc g R mi Z cs (pc + 1) L (.long (x &&& y) :: st) w) : pp_ATc g R mi Z cs pc L (.long y :: .long x :: st) w :=
  fun t C H locs ls cells slots hP hS hl a b => lv_land C.1 C.2.1 hd (k t C H locs ls cells slots hP hS hl a b)
theorem pr_lor {x y : Int64} (hd : decode mi.by_ pc = .ok (.lor, 1)) (k : pp_ATc g R mi Z cs (pc + 1) L (.long (x ||| y) :: st) w) : pp_ATc g R mi Z cs pc L (.long y :: .long x :: st) w :=
  fun t C H locs ls cells slots hP hS hl a b => lv_lor C.1 C.2.1 hd (k t C H locs ls cells slots hP hS hl a b)
theorem pr_lxor {x y : Int64} (hd : decode mi.by_ pc = .ok (.lxor, 1)) (k : pp_ATc g R mi Z cs (pc + 1) L (.long (x ^^^ y) :: st) w) : pp_ATc g R mi Z cs pc L (.long y :: .long x :: st) w :=
  fun t C H locs ls cells slots hP hS hl a b => lv_lxor C.1 C.2.1 hd (k t C H locs ls cells slots hP hS hl a b)
theorem pr_ldiv {x y : Int64} (hd : decode mi.by_ pc = .ok (.ldiv, 1)) (hy : ¬ y = 0) (k : pp_ATc g R mi Z cs (pc + 1) L (.long (x / y) :: st) w) : pp_ATc g R mi Z cs pc L (.long y :: .long x :: st) w :=
  fun t C H locs ls cells slots hP hS hl a b => lv_ldiv C.1 C.2.1 hd hy (k t C H locs ls cells slots hP hS hl a b)
theorem pr_lrem {x y : Int64} (hd : decode mi.by_ pc = .ok (.lrem, 1)) (hy : ¬ y = 0) (k : pp_ATc g R mi Z cs (pc + 1) L (.long (x - x / y * y) :: st) w) : pp_ATc g R mi Z cs pc L (.long y :: .long x :: st) w :=
  fun t C H locs ls cells slots hP hS hl a b => lv_lrem C.1 C.2.1 hd hy (k t C H locs ls cells slots hP hS hl a b)
theorem pr_lcmp {x y : Int64} (hd : decode mi.by_ pc = .ok (.lcmp, 1)) (k : pp_ATc g R mi Z cs (pc + 1) L (.int (lg_cmp x y) :: st) w) : pp_ATc g R mi Z cs pc L (.long y :: .long x :: st) w :=
  fun t C H locs ls cells slots hP hS hl a b => W.lcmp C.1 C.2.1 hd (k t C H locs ls cells slots hP hS hl a b)
theorem pr_lshl {x : Int64} {y : Int32} (hd : decode mi.by_ pc = .ok (.lshl, 1)) (k : pp_ATc g R mi Z cs (pc + 1) L (.long (x <<< (y.toInt64 &&& 63)) :: st) w) : pp_ATc g R mi Z cs pc L (.int y :: .long x :: st) w :=
  fun t C H locs ls cells slots hP hS hl a b => lv_lshl C.1 C.2.1 hd rfl (k t C H locs ls cells slots hP hS hl a b)
theorem pr_i2l {x : Int32} (hd : decode mi.by_ pc = .ok (.i2l, 1)) (k : pp_ATc g R mi Z cs (pc + 1) L (.long x.toInt64 :: st) w) : pp_ATc g R mi Z cs pc L (.int x :: st) w :=
  fun t C H locs ls cells slots hP hS hl a b => lv_i2l C.1 C.2.1 hd rfl (k t C H locs ls cells slots hP hS hl a b)
theorem pr_i2b {x : Int32} (hd : decode mi.by_ pc = .ok (.i2b, 1)) (k : pp_ATc g R mi Z cs (pc + 1) L (.int x.toInt8.toInt32 :: st) w) : pp_ATc g R mi Z cs pc L (.int x :: st) w :=
  fun t C H locs ls cells slots hP hS hl a b => lv_i2b C.1 C.2.1 hd rfl (k t C H locs ls cells slots hP hS hl a b)
theorem pr_l2i {x : Int64} (hd : decode mi.by_ pc = .ok (.l2i, 1)) (k : pp_ATc g R mi Z cs (pc + 1) L (.int x.toInt32 :: st) w) : pp_ATc g R mi Z cs pc L (.long x :: st) w :=
  fun t C H locs ls cells slots hP hS hl a b => lv_l2i C.1 C.2.1 hd rfl (k t C H locs ls cells slots hP hS hl a b)
-- the stack
theorem pr_dup {v : Value} (hd : decode mi.by_ pc = .ok (.dup, 1)) (hv : v.category = 1) (k : pp_ATc g R mi Z cs (pc + 1) L (v :: v :: st) w) : pp_ATc g R mi Z cs pc L (v :: st) w :=
  fun t C H locs ls cells slots hP hS hl a b => lv_dup C.1 C.2.1 hd ((pp_v_cat g v).trans hv) (k t C H locs ls cells slots hP hS hl a b)
theorem pr_pop {v : Value} (hd : decode mi.by_ pc = .ok (.pop, 1)) (hv : v.category = 1) (k : pp_ATc g R mi Z cs (pc + 1) L (st) w) : pp_ATc g R mi Z cs pc L (v :: st) w :=
  fun t C H locs ls cells slots hP hS hl a b => lv_pop C.1 C.2.1 hd ((pp_v_cat g v).trans hv) (k t C H locs ls cells slots hP hS hl a b)
theorem pr_pop2 {v : Value} (hd : decode mi.by_ pc = .ok (.pop2, 1)) (hv : v.category = 2) (k : pp_ATc g R mi Z cs (pc + 1) L (st) w) : pp_ATc g R mi Z cs pc L (v :: st) w :=
  fun t C H locs ls cells slots hP hS hl a b => lv_pop2_2 C.1 C.2.1 hd ((pp_v_cat g v).trans hv) (k t C H locs ls cells slots hP hS hl a b)
theorem pr_dup2 {v u : Value} (hd : decode mi.by_ pc = .ok (.dup2, 1)) (hv : v.category = 1) (hu : u.category = 1) (k : pp_ATc g R mi Z cs (pc + 1) L (v :: u :: v :: u :: st) w) : pp_ATc g R mi Z cs pc L (v :: u :: st) w :=
  fun t C H locs ls cells slots hP hS hl a b => lv_dup2_11 C.1 C.2.1 hd ((pp_v_cat g v).trans hv) ((pp_v_cat g u).trans hu) (k t C H locs ls cells slots hP hS hl a b)
-- branches
theorem pr_if_eq {x : Int32} {off : Int} {tgt : Nat} (hd : decode mi.by_ pc = .ok (.ifCond .eq off, 3)) (ht : (pc : Int) + off = (tgt : Int)) (k1 : x = 0 → pp_ATc g R mi Z cs tgt L st w) (k2 : ¬ x = 0 → pp_ATc g R mi Z cs (pc + 3) L st w) : pp_ATc g R mi Z cs pc L (.int x :: st) w :=
  fun t C H locs ls cells slots hP hS hl a b => lv_if_eq C.1 C.2.1 hd ht (fun q => k1 q t C H locs ls cells slots hP hS hl a b) (fun q => k2 q t C H locs ls cells slots hP hS hl a b)
theorem pr_icmp_eq {x y : Int32} {off : Int} {tgt : Nat} (hd : decode mi.by_ pc = .ok (.if_icmp .eq off, 3)) (ht : (pc : Int) + off = (tgt : Int)) (k1 : x = y → pp_ATc g R mi Z cs tgt L st w) (k2 : ¬ x = y → pp_ATc g R mi Z cs (pc + 3) L st w) : pp_ATc g R mi Z cs pc L (.int y :: .int x :: st) w :=
  fun t C H locs ls cells slots hP hS hl a b => lv_icmp_eq C.1 C.2.1 hd ht (fun q => k1 q t C H locs ls cells slots hP hS hl a b) (fun q => k2 q t C H locs ls cells slots hP hS hl a b)
theorem pr_if_ne {x : Int32} {off : Int} {tgt : Nat} (hd : decode mi.by_ pc = .ok (.ifCond .ne off, 3)) (ht : (pc : Int) + off = (tgt : Int)) (k1 : ¬ x = 0 → pp_ATc g R mi Z cs tgt L st w) (k2 : x = 0 → pp_ATc g R mi Z cs (pc + 3) L st w) : pp_ATc g R mi Z cs pc L (.int x :: st) w :=
  fun t C H locs ls cells slots hP hS hl a b => lv_if_ne C.1 C.2.1 hd ht (fun q => k1 q t C H locs ls cells slots hP hS hl a b) (fun q => k2 q t C H locs ls cells slots hP hS hl a b)
theorem pr_icmp_ne {x y : Int32} {off : Int} {tgt : Nat} (hd : decode mi.by_ pc = .ok (.if_icmp .ne off, 3)) (ht : (pc : Int) + off = (tgt : Int)) (k1 : ¬ x = y → pp_ATc g R mi Z cs tgt L st w) (k2 : x = y → pp_ATc g R mi Z cs (pc + 3) L st w) : pp_ATc g R mi Z cs pc L (.int y :: .int x :: st) w :=
  fun t C H locs ls cells slots hP hS hl a b => lv_icmp_ne C.1 C.2.1 hd ht (fun q => k1 q t C H locs ls cells slots hP hS hl a b) (fun q => k2 q t C H locs ls cells slots hP hS hl a b)
theorem pr_if_lt {x : Int32} {off : Int} {tgt : Nat} (hd : decode mi.by_ pc = .ok (.ifCond .lt off, 3)) (ht : (pc : Int) + off = (tgt : Int)) (k1 : x < 0 → pp_ATc g R mi Z cs tgt L st w) (k2 : ¬ x < 0 → pp_ATc g R mi Z cs (pc + 3) L st w) : pp_ATc g R mi Z cs pc L (.int x :: st) w :=
  fun t C H locs ls cells slots hP hS hl a b => lv_if_lt C.1 C.2.1 hd ht (fun q => k1 q t C H locs ls cells slots hP hS hl a b) (fun q => k2 q t C H locs ls cells slots hP hS hl a b)
theorem pr_icmp_lt {x y : Int32} {off : Int} {tgt : Nat} (hd : decode mi.by_ pc = .ok (.if_icmp .lt off, 3)) (ht : (pc : Int) + off = (tgt : Int)) (k1 : x < y → pp_ATc g R mi Z cs tgt L st w) (k2 : ¬ x < y → pp_ATc g R mi Z cs (pc + 3) L st w) : pp_ATc g R mi Z cs pc L (.int y :: .int x :: st) w :=
  fun t C H locs ls cells slots hP hS hl a b => lv_icmp_lt C.1 C.2.1 hd ht (fun q => k1 q t C H locs ls cells slots hP hS hl a b) (fun q => k2 q t C H locs ls cells slots hP hS hl a b)
theorem pr_if_ge {x : Int32} {off : Int} {tgt : Nat} (hd : decode mi.by_ pc = .ok (.ifCond .ge off, 3)) (ht : (pc : Int) + off = (tgt : Int)) (k1 : 0 ≤ x → pp_ATc g R mi Z cs tgt L st w) (k2 : ¬ 0 ≤ x → pp_ATc g R mi Z cs (pc + 3) L st w) : pp_ATc g R mi Z cs pc L (.int x :: st) w :=
  fun t C H locs ls cells slots hP hS hl a b => lv_if_ge C.1 C.2.1 hd ht (fun q => k1 q t C H locs ls cells slots hP hS hl a b) (fun q => k2 q t C H locs ls cells slots hP hS hl a b)
theorem pr_icmp_ge {x y : Int32} {off : Int} {tgt : Nat} (hd : decode mi.by_ pc = .ok (.if_icmp .ge off, 3)) (ht : (pc : Int) + off = (tgt : Int)) (k1 : y ≤ x → pp_ATc g R mi Z cs tgt L st w) (k2 : ¬ y ≤ x → pp_ATc g R mi Z cs (pc + 3) L st w) : pp_ATc g R mi Z cs pc L (.int y :: .int x :: st) w :=
  fun t C H locs ls cells slots hP hS hl a b => lv_icmp_ge C.1 C.2.1 hd ht (fun q => k1 q t C H locs ls cells slots hP hS hl a b) (fun q => k2 q t C H locs ls cells slots hP hS hl a b)
theorem pr_if_gt {x : Int32} {off : Int} {tgt : Nat} (hd : decode mi.by_ pc = .ok (.ifCond .gt off, 3)) (ht : (pc : Int) + off = (tgt : Int)) (k1 : 0 < x → pp_ATc g R mi Z cs tgt L st w) (k2 : ¬ 0 < x → pp_ATc g R mi Z cs (pc + 3) L st w) : pp_ATc g R mi Z cs pc L (.int x :: st) w :=
  fun t C H locs ls cells slots hP hS hl a b => lv_if_gt C.1 C.2.1 hd ht (fun q => k1 q t C H locs ls cells slots hP hS hl a b) (fun q => k2 q t C H locs ls cells slots hP hS hl a b)
theorem pr_icmp_gt {x y : Int32} {off : Int} {tgt : Nat} (hd : decode mi.by_ pc = .ok (.if_icmp .gt off, 3)) (ht : (pc : Int) + off = (tgt : Int)) (k1 : y < x → pp_ATc g R mi Z cs tgt L st w) (k2 : ¬ y < x → pp_ATc g R mi Z cs (pc + 3) L st w) : pp_ATc g R mi Z cs pc L (.int y :: .int x :: st) w :=
  fun t C H locs ls cells slots hP hS hl a b => lv_icmp_gt C.1 C.2.1 hd ht (fun q => k1 q t C H locs ls cells slots hP hS hl a b) (fun q => k2 q t C H locs ls cells slots hP hS hl a b)
theorem pr_if_le {x : Int32} {off : Int} {tgt : Nat} (hd : decode mi.by_ pc = .ok (.ifCond .le off, 3)) (ht : (pc : Int) + off = (tgt : Int)) (k1 : x ≤ 0 → pp_ATc g R mi Z cs tgt L st w) (k2 : ¬ x ≤ 0 → pp_ATc g R mi Z cs (pc + 3) L st w) : pp_ATc g R mi Z cs pc L (.int x :: st) w :=
  fun t C H locs ls cells slots hP hS hl a b => lv_if_le C.1 C.2.1 hd ht (fun q => k1 q t C H locs ls cells slots hP hS hl a b) (fun q => k2 q t C H locs ls cells slots hP hS hl a b)
theorem pr_icmp_le {x y : Int32} {off : Int} {tgt : Nat} (hd : decode mi.by_ pc = .ok (.if_icmp .le off, 3)) (ht : (pc : Int) + off = (tgt : Int)) (k1 : x ≤ y → pp_ATc g R mi Z cs tgt L st w) (k2 : ¬ x ≤ y → pp_ATc g R mi Z cs (pc + 3) L st w) : pp_ATc g R mi Z cs pc L (.int y :: .int x :: st) w :=
  fun t C H locs ls cells slots hP hS hl a b => lv_icmp_le C.1 C.2.1 hd ht (fun q => k1 q t C H locs ls cells slots hP hS hl a b) (fun q => k2 q t C H locs ls cells slots hP hS hl a b)
theorem pr_goto {off : Int} {tgt : Nat} (hd : decode mi.by_ pc = .ok (.goto off, 3)) (ht : (pc : Int) + off = (tgt : Int)) (k : pp_ATc g R mi Z cs tgt L st w) : pp_ATc g R mi Z cs pc L st w :=
  fun t C H locs ls cells slots hP hS hl a b => lv_goto C.1 C.2.1 hd ht (k t C H locs ls cells slots hP hS hl a b)
theorem pr_ifnull {x : Nat} {off : Int} (hd : decode mi.by_ pc = .ok (.ifnull off, 3)) (k : pp_ATc g R mi Z cs (pc + 3) L st w) : pp_ATc g R mi Z cs pc L (.ref x :: st) w :=
  fun t C H locs ls cells slots hP hS hl a b => lv_ifnull C.1 C.2.1 hd (k t C H locs ls cells slots hP hS hl a b)
theorem pr_ifnullN {off : Int} {tgt : Nat} (hd : decode mi.by_ pc = .ok (.ifnull off, 3)) (ht : (pc : Int) + off = (tgt : Int)) (k : pp_ATc g R mi Z cs tgt L st w) : pp_ATc g R mi Z cs pc L (.null :: st) w :=
  fun t C H locs ls cells slots hP hS hl a b => lv_ifnullN C.1 C.2.1 hd ht (k t C H locs ls cells slots hP hS hl a b)
theorem pr_ifnonnull {x : Nat} {off : Int} {tgt : Nat} (hd : decode mi.by_ pc = .ok (.ifnonnull off, 3)) (ht : (pc : Int) + off = (tgt : Int)) (k : pp_ATc g R mi Z cs tgt L st w) : pp_ATc g R mi Z cs pc L (.ref x :: st) w :=
  fun t C H locs ls cells slots hP hS hl a b => lv_ifnonnull C.1 C.2.1 hd ht (k t C H locs ls cells slots hP hS hl a b)
theorem pr_ifnonnullN {off : Int} (hd : decode mi.by_ pc = .ok (.ifnonnull off, 3)) (k : pp_ATc g R mi Z cs (pc + 3) L st w) : pp_ATc g R mi Z cs pc L (.null :: st) w :=
  fun t C H locs ls cells slots hP hS hl a b => lv_ifnonnullN C.1 C.2.1 hd (k t C H locs ls cells slots hP hS hl a b)
theorem pr_tableOut {dflt lo hi : Int} {offs : Array Int} {len : Nat} {x : Int32} {tgt : Nat} (hd : decode mi.by_ pc = .ok (.tableswitch dflt lo hi offs, len)) (h : x.toInt < lo ∨ hi < x.toInt) (ht : (pc : Int) + dflt = (tgt : Int)) (k : pp_ATc g R mi Z cs tgt L st w) : pp_ATc g R mi Z cs pc L (.int x :: st) w :=
  fun t C H locs ls cells slots hP hS hl a b => lv_tableOut C.1 C.2.1 hd h ht (k t C H locs ls cells slots hP hS hl a b)
theorem pr_tableIn {dflt lo hi : Int} {offs : Array Int} {len : Nat} {x : Int32} {off : Int} {tgt : Nat} (hd : decode mi.by_ pc = .ok (.tableswitch dflt lo hi offs, len)) (h1 : ¬ x.toInt < lo) (h2 : ¬ hi < x.toInt) (ho : offs[(x.toInt - lo).toNat]? = some off) (ht : (pc : Int) + off = (tgt : Int)) (k : pp_ATc g R mi Z cs tgt L st w) : pp_ATc g R mi Z cs pc L (.int x :: st) w :=
  fun t C H locs ls cells slots hP hS hl a b => lv_tableIn C.1 C.2.1 hd h1 h2 ho ht (k t C H locs ls cells slots hP hS hl a b)
end Rows
end
section
/-! THE ENGINE, 4: rows that look at the heap -/
def pp_ty (ci : Nat) : Nat → FieldType := match ci with
  | 0 => tyX0
  | 1 => tyX1
  | 2 => tyX2
  | 3 => tyX3
  | 4 => tyX4
  | 5 => tyX5
  | 6 => tyX6
  | 7 => tyX7
  | 8 => tyX8
  | _ => tyX9
theorem pp_sub {ws : List Cond} (h : ws.all (fun w => decide (w ∈ lw_tbl) && pp_ok w) = true) : ∀ w ∈ ws, w ∈ pp_T := fun w hw => by
  have := List.all_eq_true.mp h w hw
  simp only [Bool.and_eq_true, decide_eq_true_eq] at this
  exact List.mem_filter.mpr this
theorem pp_in0 : ∀ w ∈ u_ws RX0 TX0 2, w ∈ pp_T := pp_sub (by decide +kernel)
theorem pp_in1 : ∀ w ∈ u_ws RX1 TX1 5, w ∈ pp_T := pp_sub (by decide +kernel)
theorem pp_in2 : ∀ w ∈ u_ws RX2 TX2 3, w ∈ pp_T := pp_sub (by decide +kernel)
theorem pp_in3 : ∀ w ∈ u_ws RX3 TX3 3, w ∈ pp_T := pp_sub (by decide +kernel)
theorem pp_in4 : ∀ w ∈ u_ws RX4 TX4 19, w ∈ pp_T := pp_sub (by decide +kernel)
theorem pp_in5 : ∀ w ∈ u_ws RX5 TX5 7, w ∈ pp_T := pp_sub (by decide +kernel)
theorem pp_in6 : ∀ w ∈ u_ws RX6 TX6 16, w ∈ pp_T := pp_sub (by decide +kernel)
theorem pp_in7 : ∀ w ∈ u_ws RX7 TX7 6, w ∈ pp_T := pp_sub (by decide +kernel)
theorem pp_in8 : ∀ w ∈ u_ws RX8 TX8 10, w ∈ pp_T := pp_sub (by decide +kernel)
theorem pp_in9 : ∀ w ∈ u_ws RX9 TX9 31, w ∈ pp_T := pp_sub (by decide +kernel)
theorem pp_made : ∀ w ∈ pp_cl.flatMap (fun r => [Cond.instantiable r.1 r.2.2, Cond.initialized r.1]), w ∈ pp_T := pp_sub (by decide +kernel)
theorem pp_clOK {ci : Nat} {r : vw_C} (h : pp_cl[ci]? = some r) : ci < 10 ∧ (∀ w ∈ u_ws r.1 r.2.1 r.2.2, w ∈ pp_T) ∧ (∀ k, k < r.2.2 → parseFieldDescriptor (r.2.1 k).2.2.1 = some (pp_ty ci k)) ∧ (∀ a, a < r.2.2 → ∀ b, b < r.2.2 → a ≠ b → (r.2.1 a).2.1 ≠ (r.2.1 b).2.1) := by
  match ci, h with
  | 0, h => cases h; exact ⟨by decide, pp_in0, tyX0_ok, nmX0⟩
  | 1, h => cases h; exact ⟨by decide, pp_in1, tyX1_ok, nmX1⟩
  | 2, h => cases h; exact ⟨by decide, pp_in2, tyX2_ok, nmX2⟩
  | 3, h => cases h; exact ⟨by decide, pp_in3, tyX3_ok, nmX3⟩
  | 4, h => cases h; exact ⟨by decide, pp_in4, tyX4_ok, nmX4⟩
  | 5, h => cases h; exact ⟨by decide, pp_in5, tyX5_ok, nmX5⟩
  | 6, h => cases h; exact ⟨by decide, pp_in6, tyX6_ok, nmX6⟩
  | 7, h => cases h; exact ⟨by decide, pp_in7, tyX7_ok, nmX7⟩
  | 8, h => cases h; exact ⟨by decide, pp_in8, tyX8_ok, nmX8⟩
  | 9, h => cases h; exact ⟨by decide, pp_in9, tyX9_ok, nmX9⟩
  | n + 10, h => simp at h
section Heap
variable {g : pp_G} {R : Room} {mi : pp_MI} {Z : pp_CT → State → Prop} {cs : Nat × Nat} {pc : Nat} {L : List (Nat × Value)} {st : List Value} {w : pp_W}
theorem pr_get {ci k idx a : Nat} {r : vw_C} {v : Value} (hd : decode mi.by_ pc = .ok (.getfield idx, 3)) (hr : pp_cl[ci]? = some r) (hk : k < r.2.2) (hlk : Cond.fieldLink mi.y.cls idx (r.2.1 k).1 (r.2.1 k).2.1 (r.2.1 k).2.2.1 ∈ pp_T) (ha : w.1[a]? = some (ci, 0)) (hv : pp_v g v = pp_fv g w.2 a (pp_fk ci k) k)
    (kk : pp_ATc g R mi Z cs (pc + 3) L (v :: st) w) : pp_ATc g R mi Z cs pc L (.ref a :: st) w := by
  intro t C H locs ls cells slots hP hS hl h1 h2
  have kw := kk t C H locs ls cells slots hP hS hl h1 h2
  obtain ⟨hc10, hin, hty, hnm⟩ := pp_clOK hr
  obtain ⟨hx, hb, hml, hown, hts, hret, hlocks, hname, htab, hK, hE, hb0, htr⟩ := C
  obtain ⟨r', e1, cell, q1, q2, q3, q4⟩ := (pp_at.o hc10).mp (hP.2.2.2 a _ ha)
  cases Option.some.inj (e1.symm.trans hr)
  obtain ⟨hSl, hfc, kC, hkC, hkind⟩ := hK.1 ci _ hr
  obtain ⟨cf, kf, fi, f, hi, hsl⟩ := hSl k hk
  refine W.getf hx hb hown (hts _ hlk) hi (u_facts hfc hkC (u_lays hts hin hk) hi).1 q1 (by rw [q3]; exact fun h => by cases h) (v := pp_v g v) ?_ rfl rfl hd kw
  rw [hsl, q4 k hk, hv]
theorem pp_at_put {m m' : pp_M} {a ci k : Nat} {H' : Heap} {r : vw_C} {cell : Cell} {v : Value} (hr : pp_cl[ci]? = some r) (hc10 : ci < 10) (hk : k < r.2.2) (q2 : cell.cls = (pp_D g).1 ci) (q3 : cell.vm = .none) (q4 : ∀ j, j < r.2.2 → cell.slots[(pp_D g).2 ci j]? = some (pp_fv g m a (pp_fk ci j) j)) (hap : ∀ x y, x < r.2.2 → y < r.2.2 → x ≠ y → (pp_D g).2 ci x ≠ (pp_D g).2 ci y)
    (e1 : H'[pp_ad g a]? = some (cell.setSlot ((pp_D g).2 ci k) v)) (hv : v = pp_fv g m' a (pp_fk ci k) k) (ho : ∀ j, j ≠ k → pp_fv g m' a (pp_fk ci j) j = pp_fv g m a (pp_fk ci j) j) : pp_at g m' a (ci, 0) H' := by
  refine (pp_at.o hc10).mpr ⟨r, hr, t_OB.to (V := updV (fun j => pp_fv g m a (pp_fk ci j) j) k v) ⟨_, e1, q2, q3, t_set q4 hap hk v⟩ (fun j _ => ?_)⟩
  by_cases e : j = k
  · subst e
    simp [updV, hv]
  · simp only [updV, if_neg e]
    exact (ho j e).symm
theorem pr_put {ci k idx a : Nat} {r : vw_C} {v : Value} {m' : pp_M} (hd : decode mi.by_ pc = .ok (.putfield idx, 3)) (hr : pp_cl[ci]? = some r) (hk : k < r.2.2) (hlk : Cond.fieldLink mi.y.cls idx (r.2.1 k).1 (r.2.1 k).2.1 (r.2.1 k).2.2.1 ∈ pp_T) (hfin : (r.2.1 k).2.2.2 = false ∨ ((r.2.1 k).2.2.2 = true ∧ mi.y.name = "<init>" ∧ (r.2.1 k).1 = mi.y.cls))
    (hn : narrow (pp_ty ci k) (pp_v g v) = pp_v g v) (hfit : fits (pp_ty ci k) (pp_v g v) = true) (ha : w.1[a]? = some (ci, 0))
    (m1 : ∀ i, i ≠ a → m'.1 i = w.2.1 i) (m2 : ∀ i, i ≠ a → m'.2.1 i = w.2.2.1 i) (m3 : ∀ i, i ≠ a → m'.2.2 i = w.2.2.2 i) (hv : pp_v g v = pp_fv g m' a (pp_fk ci k) k) (ho : ∀ j, j ≠ k → pp_fv g m' a (pp_fk ci j) j = pp_fv g w.2 a (pp_fk ci j) j)
    (kk : pp_ATc g R mi Z cs (pc + 3) L st (w.1, m')) : pp_ATc g R mi Z cs pc L (v :: .ref a :: st) w := by
  intro t C H locs ls cells slots hP hS hl h1 h2
  have kw := kk t C
  obtain ⟨hc10, hin, hty, hnm⟩ := pp_clOK hr
  obtain ⟨hx, hb, hml, hown, hts, hret, hlocks, hname, htab, hK, hE, hb0, htr⟩ := C
  have hap := va_apart (own := mi.y.cls) hts hin (pp_ty ci) hty hnm hK hr
  have h15 : ((ci, 0) : Nat × Nat).1 ≠ 15 := by show ci ≠ 15; omega
  obtain ⟨r', e1, cell, q1, q2, q3, q4⟩ := (pp_at.o hc10).mp (hP.2.2.2 a _ ha)
  cases Option.some.inj (e1.symm.trans hr)
  obtain ⟨hSl, hfc, kC, hkC, hkind⟩ := hK.1 ci _ hr
  obtain ⟨cf, kf, fi, f, hi, hsl⟩ := hSl k hk
  have hlay := hts _ (hin _ (u_in_lay hk))
  have hst := (u_facts hfc hkC (u_lays hts hin hk) hi).1
  unfold u_lay at hlay
  rcases hfin with hfin | ⟨hfin, hin2, hdecl⟩
  · rw [if_neg (by rw [hfin]; decide)] at hlay
    have h6 := u_store hfc hkC hkind hlay hi (hty k hk) hn hfit
    refine W.putK hx hb (f := f) ⟨hown, hts _ hlk, ⟨_, _, _, hi⟩, hst⟩ (by rw [q2]; exact h6) q1 q3 (by rw [hsl]; exact k2_hasslot (q4 k hk)) rfl rfl hd fun H' e1 e2 e3 => ?_
    rw [hsl] at e1
    exact kw H' _ ls cells slots (hP.store ha h15 m1 m2 m3 e2 e3 (pp_at_put hr hc10 hk q2 q3 q4 hap e1 hv ho)) (hS.put e2 e3 (hP.Aa ha h15)) hl h1 h2
  · rw [if_pos hfin] at hlay
    have hcf : t.m.cls = cf := by
      obtain ⟨_, _, c', _, _, _, -, -, hf', -, -, -, hown2, -⟩ := Cond.laysFinal_spec hlay
      have e1 : c' = cf := by have := hi.symm.trans hf'; simp at this; exact this.1.symm
      rw [hdecl] at hown2
      rw [← e1]; exact Option.some.inj (hown.symm.trans hown2)
    have h6 := u_fits hfc hkC hkind (Or.inr hlay) hi (hty k hk) hn hfit
    refine W.putFinK hx hb hown (hts _ hlk) hi hst hcf (hname.trans hin2) (by rw [q2]; exact h6) q1 q3 (by rw [hsl]; exact k2_hasslot (q4 k hk)) rfl rfl hd fun H' e1 e2 e3 => ?_
    rw [hsl] at e1
    exact kw H' _ ls cells slots (hP.store ha h15 m1 m2 m3 e2 e3 (pp_at_put hr hc10 hk q2 q3 q4 hap e1 hv ho)) (hS.put e2 e3 (hP.Aa ha h15)) hl h1 h2
-- arrays: looking
theorem pr_iald {a n : Nat} {j : Int32} (hd : decode mi.by_ pc = .ok (.iaload, 1)) (ha : w.1[a]? = some (10, n)) (hin : vp_in j n) (kk : pp_ATc g R mi Z cs (pc + 1) L (.int (w.2.1 a j.toNatClampNeg) :: st) w) : pp_ATc g R mi Z cs pc L (.int j :: .ref a :: st) w :=
  fun t C H locs ls cells slots hP hS hl h1 h2 => va_iald (ws := [(pp_ad g a, .inl (pp_d g 0, n, .inl (w.2.1 a)))]) C.1 C.2.1 C.2.2.2.2.2.2.2.2.2.1 (fun k q hq => by cases k with
    | zero => cases hq; exact pp_at.i.mp (hP.2.2.2 a _ ha)
    | succ k => simp at hq) 0 0 rfl rfl hin hd (kk t C H locs ls cells slots hP hS hl h1 h2)
theorem pr_bald {a n : Nat} {j : Int32} (hd : decode mi.by_ pc = .ok (.baload, 1)) (ha : w.1[a]? = some (11, n)) (hin : vp_in j n) (kk : pp_ATc g R mi Z cs (pc + 1) L (.int (w.2.1 a j.toNatClampNeg) :: st) w) : pp_ATc g R mi Z cs pc L (.int j :: .ref a :: st) w :=
  fun t C H locs ls cells slots hP hS hl h1 h2 => va_bald (ws := [(pp_ad g a, .inl (pp_d g 1, n, .inl (w.2.1 a)))]) C.1 C.2.1 C.2.2.2.2.2.2.2.2.2.1 (fun k q hq => by cases k with
    | zero => cases hq; exact pp_at.b.mp (hP.2.2.2 a _ ha)
    | succ k => simp at hq) 0 1 rfl rfl hin hd (kk t C H locs ls cells slots hP hS hl h1 h2)
theorem pr_zald {a n : Nat} {j : Int32} (hd : decode mi.by_ pc = .ok (.baload, 1)) (ha : w.1[a]? = some (12, n)) (hin : vp_in j n) (kk : pp_ATc g R mi Z cs (pc + 1) L (.int (w.2.1 a j.toNatClampNeg) :: st) w) : pp_ATc g R mi Z cs pc L (.int j :: .ref a :: st) w :=
  fun t C H locs ls cells slots hP hS hl h1 h2 => va_zald (ws := [(pp_ad g a, .inl (pp_d g 2, n, .inl (w.2.1 a)))]) C.1 C.2.1 C.2.2.2.2.2.2.2.2.2.1 (fun k q hq => by cases k with
    | zero => cases hq; exact pp_at.z.mp (hP.2.2.2 a _ ha)
    | succ k => simp at hq) 0 2 rfl rfl hin hd (kk t C H locs ls cells slots hP hS hl h1 h2)
theorem pr_lald {a n : Nat} {j : Int32} (hd : decode mi.by_ pc = .ok (.laload, 1)) (ha : w.1[a]? = some (13, n)) (hin : vp_in j n) (kk : pp_ATc g R mi Z cs (pc + 1) L (.long (w.2.2.1 a j.toNatClampNeg) :: st) w) : pp_ATc g R mi Z cs pc L (.int j :: .ref a :: st) w :=
  fun t C H locs ls cells slots hP hS hl h1 h2 => va_lald (ws := [(pp_ad g a, .inl (pp_d g 3, n, .inr (.inl (w.2.2.1 a))))]) C.1 C.2.1 C.2.2.2.2.2.2.2.2.2.1 (fun k q hq => by cases k with
    | zero => cases hq; exact pp_at.j.mp (hP.2.2.2 a _ ha)
    | succ k => simp at hq) 0 3 rfl rfl hin hd (kk t C H locs ls cells slots hP hS hl h1 h2)
theorem pr_aald {a n : Nat} {j : Int32} (hd : decode mi.by_ pc = .ok (.aaload, 1)) (ha : w.1[a]? = some (14, n)) (hin : vp_in j n) (kk : pp_ATc g R mi Z cs (pc + 1) L (pp_rf (w.2.2.2 a j.toNatClampNeg) :: st) w) : pp_ATc g R mi Z cs pc L (.int j :: .ref a :: st) w :=
  fun t C H locs ls cells slots hP hS hl h1 h2 => va_aldq (ws := [(pp_ad g a, .inl (pp_d g 4, n, .inr (.inr (.inr (.inr (fun k => (w.2.2.2 a k).map (pp_ad g)))))))]) C.1 C.2.1 C.2.2.2.2.2.2.2.2.2.1 (fun k q hq => by cases k with
    | zero => cases hq; exact pp_at.q.mp (hP.2.2.2 a _ ha)
    | succ k => simp at hq) 0 4 rfl rfl hin hd (by
      have := kk t C H locs ls cells slots hP hS hl h1 h2
      simp only [List.map_cons, pp_v_rf] at this
      exact this)
theorem pr_alen {a t9 n : Nat} {v : Int32} (hd : decode mi.by_ pc = .ok (.arraylength, 1)) (ha : w.1[a]? = some (t9, n)) (ht : 10 ≤ t9 ∧ t9 ≤ 14) (hv : Int32.ofNat n = v) (kk : pp_ATc g R mi Z cs (pc + 1) L (.int v :: st) w) : pp_ATc g R mi Z cs pc L (.ref a :: st) w := by
  intro t C H locs ls cells slots hP hS hl h1 h2
  have hc := hP.2.2.2 a _ ha
  rcases (by omega : t9 = 10 ∨ t9 = 11 ∨ t9 = 12 ∨ t9 = 13 ∨ t9 = 14) with rfl | rfl | rfl | rfl | rfl
  · exact va_alen (ws := [(pp_ad g a, .inl (pp_d g 0, n, .inl (w.2.1 a)))]) C.1 C.2.1 C.2.2.2.2.2.2.2.2.2.1 (fun k q hq => by cases k with
      | zero => cases hq; exact pp_at.i.mp hc
      | succ k => simp at hq) 0 0 rfl rfl hv hd (kk t C H locs ls cells slots hP hS hl h1 h2)
  · exact va_alen (ws := [(pp_ad g a, .inl (pp_d g 1, n, .inl (w.2.1 a)))]) C.1 C.2.1 C.2.2.2.2.2.2.2.2.2.1 (fun k q hq => by cases k with
      | zero => cases hq; exact pp_at.b.mp hc
      | succ k => simp at hq) 0 1 rfl rfl hv hd (kk t C H locs ls cells slots hP hS hl h1 h2)
  · exact va_alen (ws := [(pp_ad g a, .inl (pp_d g 2, n, .inl (w.2.1 a)))]) C.1 C.2.1 C.2.2.2.2.2.2.2.2.2.1 (fun k q hq => by cases k with
      | zero => cases hq; exact pp_at.z.mp hc
      | succ k => simp at hq) 0 2 rfl rfl hv hd (kk t C H locs ls cells slots hP hS hl h1 h2)
  · exact va_alen (ws := [(pp_ad g a, .inl (pp_d g 3, n, .inr (.inl (w.2.2.1 a))))]) C.1 C.2.1 C.2.2.2.2.2.2.2.2.2.1 (fun k q hq => by cases k with
      | zero => cases hq; exact pp_at.j.mp hc
      | succ k => simp at hq) 0 3 rfl rfl hv hd (kk t C H locs ls cells slots hP hS hl h1 h2)
  · exact va_alen (ws := [(pp_ad g a, .inl (pp_d g 4, n, .inr (.inr (.inr (.inr (fun k => (w.2.2.2 a k).map (pp_ad g)))))))]) C.1 C.2.1 C.2.2.2.2.2.2.2.2.2.1 (fun k q hq => by cases k with
      | zero => cases hq; exact pp_at.q.mp hc
      | succ k => simp at hq) 0 4 rfl rfl hv hd (kk t C H locs ls cells slots hP hS hl h1 h2)
-- arrays: writing
theorem pp_up_arr {α : Type} (mk : α → Value) (cA : ClassId) (n k : Nat) (f : Nat → α) (x : α) : (arrV cA n (fun j => mk (f j))).setSlot k (mk x) = arrV cA n (fun j => mk (va_up f k x j)) := by
  rw [arrV_store]
  congr 1
  funext q
  by_cases hq : q = k
  · simp [updV, va_up, hq]
  · simp [updV, va_up, hq]
theorem pr_iast {a n : Nat} {j x : Int32} (hd : decode mi.by_ pc = .ok (.iastore, 1)) (ha : w.1[a]? = some (10, n)) (hin : vp_in j n) (kk : pp_ATc g R mi Z cs (pc + 1) L st (w.1, pp_s w.2.1 a (va_up (w.2.1 a) j.toNatClampNeg x), w.2.2)) : pp_ATc g R mi Z cs pc L (.int x :: .int j :: .ref a :: st) w := by
  intro t C H locs ls cells slots hP hS hl h1 h2
  have hc := pp_at.i.mp (hP.2.2.2 a _ ha)
  refine W.iast C.1 C.2.1 hc ((C.2.2.2.2.2.2.2.2.2.1.2 0 _ rfl).1 n (fun j => .int (w.2.1 a j))) (fun q => by cases q) (by show ¬ (j < 0 ∨ (arrV _ _ _).slots.size ≤ _); rw [arrV_size]; exact hin) rfl rfl hd fun H1 e z oq => ?_
  refine kk t C H1 _ ls cells slots (hP.store ha (fun q => nomatch q) (fun i hi => pp_s_ne _ _ hi) (fun i hi => rfl) (fun i hi => rfl) z oq (pp_at.i.mpr ?_)) (hS.put z oq (hP.Aa ha (fun q => nomatch q))) hl h1 h2
  rw [e, vp_cell_i, vp_cell_i, pp_up_arr (fun z => Value.int z)]
  simp only [pp_s_eq]
theorem pr_last {a n : Nat} {j : Int32} {x : Int64} (hd : decode mi.by_ pc = .ok (.lastore, 1)) (ha : w.1[a]? = some (13, n)) (hin : vp_in j n) (kk : pp_ATc g R mi Z cs (pc + 1) L st (w.1, w.2.1, pp_s w.2.2.1 a (va_up (w.2.2.1 a) j.toNatClampNeg x), w.2.2.2)) : pp_ATc g R mi Z cs pc L (.long x :: .int j :: .ref a :: st) w := by
  intro t C H locs ls cells slots hP hS hl h1 h2
  have hc := pp_at.j.mp (hP.2.2.2 a _ ha)
  refine W.last C.1 C.2.1 hc ((C.2.2.2.2.2.2.2.2.2.1.2 3 _ rfl).1 n (fun j => .long (w.2.2.1 a j))) (fun q => by cases q) (by show ¬ (j < 0 ∨ (arrV _ _ _).slots.size ≤ _); rw [arrV_size]; exact hin) rfl rfl hd fun H1 e z oq => ?_
  refine kk t C H1 _ ls cells slots (hP.store ha (fun q => nomatch q) (fun i hi => rfl) (fun i hi => pp_s_ne _ _ hi) (fun i hi => rfl) z oq (pp_at.j.mpr ?_)) (hS.put z oq (hP.Aa ha (fun q => nomatch q))) hl h1 h2
  rw [e, vp_cell_l, vp_cell_l, pp_up_arr (fun z => Value.long z)]
  simp only [pp_s_eq]
theorem pr_bast {a n : Nat} {j x : Int32} (hd : decode mi.by_ pc = .ok (.bastore, 1)) (ha : w.1[a]? = some (11, n)) (hin : vp_in j n) (kk : pp_ATc g R mi Z cs (pc + 1) L st (w.1, pp_s w.2.1 a (va_up (w.2.1 a) j.toNatClampNeg x.toInt8.toInt32), w.2.2)) : pp_ATc g R mi Z cs pc L (.int x :: .int j :: .ref a :: st) w := by
  intro t C H locs ls cells slots hP hS hl h1 h2
  have hc := pp_at.b.mp (hP.2.2.2 a _ ha)
  refine W.bast C.1 C.2.1 hc ((C.2.2.2.2.2.2.2.2.2.1.2 1 _ rfl).1 n (fun j => .int (w.2.1 a j))) (fun q => by cases q) (by show ¬ (j < 0 ∨ (arrV _ _ _).slots.size ≤ _); rw [arrV_size]; exact hin) rfl rfl hd fun H1 e z oq => ?_
  refine kk t C H1 _ ls cells slots (hP.store ha (fun q => nomatch q) (fun i hi => pp_s_ne _ _ hi) (fun i hi => rfl) (fun i hi => rfl) z oq (pp_at.b.mpr ?_)) (hS.put z oq (hP.Aa ha (fun q => nomatch q))) hl h1 h2
  rw [e, vp_cell_i, vp_cell_i, show narrow .byte (.int x) = Value.int x.toInt8.toInt32 from rfl, pp_up_arr (fun z => Value.int z)]
  simp only [pp_s_eq]
theorem pr_zast {a n : Nat} {j x : Int32} (hd : decode mi.by_ pc = .ok (.bastore, 1)) (ha : w.1[a]? = some (12, n)) (hin : vp_in j n) (hx : x = 0 ∨ x = 1) (kk : pp_ATc g R mi Z cs (pc + 1) L st (w.1, pp_s w.2.1 a (va_up (w.2.1 a) j.toNatClampNeg x), w.2.2)) : pp_ATc g R mi Z cs pc L (.int x :: .int j :: .ref a :: st) w := by
  intro t C H locs ls cells slots hP hS hl h1 h2
  have hc := pp_at.z.mp (hP.2.2.2 a _ ha)
  refine W.zast C.1 C.2.1 hc ((C.2.2.2.2.2.2.2.2.2.1.2 2 _ rfl).1 n (fun j => .int (w.2.1 a j))) (fun q => by cases q) (by show ¬ (j < 0 ∨ (arrV _ _ _).slots.size ≤ _); rw [arrV_size]; exact hin) rfl rfl hd fun H1 e z oq => ?_
  refine kk t C H1 _ ls cells slots (hP.store ha (fun q => nomatch q) (fun i hi => pp_s_ne _ _ hi) (fun i hi => rfl) (fun i hi => rfl) z oq (pp_at.z.mpr ?_)) (hS.put z oq (hP.Aa ha (fun q => nomatch q))) hl h1 h2
  have hnar : narrow .boolean (.int x) = Value.int x := by rcases hx with rfl | rfl <;> rfl
  rw [e, vp_cell_i, vp_cell_i, hnar, pp_up_arr (fun z => Value.int z)]
  simp only [pp_s_eq]
theorem pr_aast {a b n : Nat} {j : Int32} (hd : decode mi.by_ pc = .ok (.aastore, 1)) (ha : w.1[a]? = some (14, n)) (hb9 : w.1[b]? = some (4, 0)) (hin : vp_in j n) (kk : pp_ATc g R mi Z cs (pc + 1) L st (w.1, w.2.1, w.2.2.1, pp_s w.2.2.2 a (va_up (w.2.2.2 a) j.toNatClampNeg (some b)))) : pp_ATc g R mi Z cs pc L (.ref b :: .int j :: .ref a :: st) w := by
  intro t C H locs ls cells slots hP hS hl h1 h2
  have kw := kk t C
  obtain ⟨hx, hb, hml, hown, hts, hret, hlocks, hname, htab, hK, hE, hb0, htr⟩ := C
  have hc := pp_at.q.mp (hP.2.2.2 a _ ha)
  obtain ⟨r', e1, cell, q1, q2, q3, q4⟩ := (pp_at.o (by decide)).mp (hP.2.2.2 b _ hb9)
  obtain ⟨hSl, hfc, kC, hkC, hkind⟩ := hK.1 4 _ rfl
  obtain ⟨kA, comp, g1, g2, g3, g4⟩ := (hK.2 4 _ rfl).2
  have g3' : t.s.vm.findClass RX4 = some comp := g3
  cases Option.some.inj (g3'.symm.trans hfc)
  have hlt : j.toNatClampNeg < n := Nat.not_le.mp fun q => hin (Or.inr q)
  intro T hT X
  obtain ⟨X', step⟩ := X.aastoreRefT hx (a := pp_ad g a) (v := pp_ad g b) (cell := vp_cell (pp_d g 4) (n, .inr (.inr (.inr (.inr (fun k => (w.2.2.2 a k).map (pp_ad g))))))) (cv := cell) (j := j) (k := kA) (kv := kC) (kcomp := kC) (comp := (pp_D g).1 4) (t := .object RX4)
    (by rw [hT]; exact hc) (fun q h => by cases h) (fun h => by cases h) g1 g2 rfl hkC ⟨fun q => hin (Or.inl q), by rw [vp_cell_q, arrV_size]; exact hlt⟩ (by rw [hT]; exact q1) (fun q h => by rw [q3] at h; cases h) (by rw [q2]; exact hkC) (by rw [q2]; exact va_asg _ _) (g := F0 t.m pc ls (.ref (pp_ad g b) :: .int j :: .ref (pp_ad g a) :: st.map (pp_v g))) rfl rfl (by rw [hb]; exact hd)
  have hl9 : pp_ad g a < H.size := (Array.getElem?_eq_some_iff.mp hc).1
  have e9 : (vp_cell (pp_d g 4) (n, .inr (.inr (.inr (.inr (fun k => (w.2.2.2 a k).map (pp_ad g))))))).setSlot j.toNatClampNeg (.ref (pp_ad g b)) = vp_cell (pp_d g 4) (n, .inr (.inr (.inr (.inr (fun k => (pp_s w.2.2.2 a (va_up (w.2.2.2 a) j.toNatClampNeg (some b)) a k).map (pp_ad g)))))) := by
    rw [vp_cell_q, vp_cell_q, show Value.ref (pp_ad g b) = va_rf (some (pp_ad g b)) from rfl, pp_up_arr va_rf]
    congr 1
    funext q
    simp only [pp_s_eq, va_up]
    by_cases hq : q = j.toNatClampNeg
    · simp [hq]
    · simp [hq]
  rw [e9] at X' step
  obtain ⟨H1, hH1⟩ : ∃ z, z = (T.setCell (pp_ad g a) (vp_cell (pp_d g 4) (n, .inr (.inr (.inr (.inr (fun k => (pp_s w.2.2.2 a (va_up (w.2.2.2 a) j.toNatClampNeg (some b)) a k).map (pp_ad g)))))))).heap := ⟨_, rfl⟩
  have z : H1.size = H.size := by rw [hH1, size_setCell, hT]
  have oq : ∀ q : Nat, q ≠ pp_ad g a → H1[q]? = H[q]? := fun q hq => by rw [hH1, heapAt_setCell_ne _ (Ne.symm hq), hT]
  obtain ⟨t2, a1, b1⟩ := kw H1 _ ls cells slots (hP.store ha (fun q => nomatch q) (fun i hi => rfl) (fun i hi => rfl) (fun i hi => pp_s_ne _ _ hi) z oq (pp_at.q.mpr (by rw [hH1]; exact heapAt_setCell_self _ (by rw [hT]; exact hl9)))) (hS.put z oq (hP.Aa ha (fun q => nomatch q))) hl h1 h2 _ hH1.symm X'
  exact ⟨t2, step t2 a1, b1⟩
theorem pr_aastN {a n : Nat} {j : Int32} (hd : decode mi.by_ pc = .ok (.aastore, 1)) (ha : w.1[a]? = some (14, n)) (hin : vp_in j n) (kk : pp_ATc g R mi Z cs (pc + 1) L st (w.1, w.2.1, w.2.2.1, pp_s w.2.2.2 a (va_up (w.2.2.2 a) j.toNatClampNeg none))) : pp_ATc g R mi Z cs pc L (.null :: .int j :: .ref a :: st) w := by
  intro t C H locs ls cells slots hP hS hl h1 h2
  have kw := kk t C
  obtain ⟨hx, hb, hml, hown, hts, hret, hlocks, hname, htab, hK, hE, hb0, htr⟩ := C
  have hc := pp_at.q.mp (hP.2.2.2 a _ ha)
  obtain ⟨kA, comp, g1, g2, g3, g4⟩ := (hK.2 4 _ rfl).2
  have hlt : j.toNatClampNeg < n := Nat.not_le.mp fun q => hin (Or.inr q)
  intro T hT X
  obtain ⟨X', step⟩ := X.aastoreNullIn hx (a := pp_ad g a) (cell := vp_cell (pp_d g 4) (n, .inr (.inr (.inr (.inr (fun k => (w.2.2.2 a k).map (pp_ad g))))))) (j := j) (k := kA) (comp := comp) (t := .object RX4)
    (by rw [hT]; exact hc) (fun q h => by cases h) (fun h => by cases h) g1 g2 rfl ⟨fun q => hin (Or.inl q), by rw [vp_cell_q, arrV_size]; exact hlt⟩ (g := F0 t.m pc ls (.null :: .int j :: .ref (pp_ad g a) :: st.map (pp_v g))) rfl rfl (by rw [hb]; exact hd)
  have hl9 : pp_ad g a < H.size := (Array.getElem?_eq_some_iff.mp hc).1
  have e9 : (vp_cell (pp_d g 4) (n, .inr (.inr (.inr (.inr (fun k => (w.2.2.2 a k).map (pp_ad g))))))).setSlot j.toNatClampNeg .null = vp_cell (pp_d g 4) (n, .inr (.inr (.inr (.inr (fun k => (pp_s w.2.2.2 a (va_up (w.2.2.2 a) j.toNatClampNeg none) a k).map (pp_ad g)))))) := by
    rw [vp_cell_q, vp_cell_q, show Value.null = va_rf none from rfl, pp_up_arr va_rf]
    congr 1
    funext q
    simp only [pp_s_eq, va_up]
    by_cases hq : q = j.toNatClampNeg
    · simp [hq]
    · simp [hq]
  rw [e9] at X' step
  obtain ⟨H1, hH1⟩ : ∃ z, z = (T.setCell (pp_ad g a) (vp_cell (pp_d g 4) (n, .inr (.inr (.inr (.inr (fun k => (pp_s w.2.2.2 a (va_up (w.2.2.2 a) j.toNatClampNeg none) a k).map (pp_ad g)))))))).heap := ⟨_, rfl⟩
  have z : H1.size = H.size := by rw [hH1, size_setCell, hT]
  have oq : ∀ q : Nat, q ≠ pp_ad g a → H1[q]? = H[q]? := fun q hq => by rw [hH1, heapAt_setCell_ne _ (Ne.symm hq), hT]
  obtain ⟨t2, a1, b1⟩ := kw H1 _ ls cells slots (hP.store ha (fun q => nomatch q) (fun i hi => rfl) (fun i hi => rfl) (fun i hi => pp_s_ne _ _ hi) z oq (pp_at.q.mpr (by rw [hH1]; exact heapAt_setCell_self _ (by rw [hT]; exact hl9)))) (hS.put z oq (hP.Aa ha (fun q => nomatch q))) hl h1 h2 _ hH1.symm X'
  exact ⟨t2, step t2 a1, b1⟩
end Heap
end
section
/-! THE ENGINE, 5: making, copying -/
def pp_fkb (ci k : Nat) : Bool := match pp_fk ci k, pp_ty ci k with
  | 0, .int => true
  | 1, .long => true
  | 2, .object _ => true
  | 2, .array _ => true
  | _, _ => false
theorem pp_fkOK {ci : Nat} {r : vw_C} (h : pp_cl[ci]? = some r) : ∀ k, k < r.2.2 → pp_fkb ci k = true := by
  match ci, h with
  | 0, h => cases h; decide
  | 1, h => cases h; decide
  | 2, h => cases h; decide
  | 3, h => cases h; decide
  | 4, h => cases h; decide
  | 5, h => cases h; decide
  | 6, h => cases h; decide
  | 7, h => cases h; decide
  | 8, h => cases h; decide
  | 9, h => cases h; decide
  | n + 10, h => simp at h
theorem pp_fkD {ci k : Nat} (h : pp_fkb ci k = true) : (pp_fk ci k = 0 ∧ pp_ty ci k = .int) ∨ (pp_fk ci k = 1 ∧ pp_ty ci k = .long) ∨ (pp_fk ci k = 2 ∧ ((∃ C, pp_ty ci k = .object C) ∨ ∃ t, pp_ty ci k = .array t)) := by
  unfold pp_fkb at h
  split at h
  · rename_i a b; exact Or.inl ⟨a, b⟩
  · rename_i a b; exact Or.inr (Or.inl ⟨a, b⟩)
  · rename_i a b; exact Or.inr (Or.inr ⟨a, Or.inl ⟨_, b⟩⟩)
  · rename_i a b; exact Or.inr (Or.inr ⟨a, Or.inr ⟨_, b⟩⟩)
  · cases h
theorem pp_made_in {ci : Nat} {r : vw_C} (h : pp_cl[ci]? = some r) : Cond.instantiable r.1 r.2.2 ∈ pp_T ∧ Cond.initialized r.1 ∈ pp_T :=
  ⟨pp_made _ (List.mem_flatMap.mpr ⟨r, List.mem_of_getElem? h, by simp⟩), pp_made _ (List.mem_flatMap.mpr ⟨r, List.mem_of_getElem? h, by simp⟩)⟩
theorem pp_arrs : ∀ w ∈ [Cond.arrayClass .int, Cond.arrayClass .byte, Cond.arrayClass .boolean, Cond.arrayClass .long], w ∈ pp_T := pp_sub (by decide +kernel)
/-- a new cell of that kind: everything in it is 0 or null -/
def pp_nw (w : pp_W) (sh : Nat × Nat) : pp_W := (w.1 ++ [sh], pp_s w.2.1 w.1.length (fun _ => 0), pp_s w.2.2.1 w.1.length (fun _ => 0), pp_s w.2.2.2 w.1.length (fun _ => none))
section Make
variable {g : pp_G} {R : Room} {mi : pp_MI} {Z : pp_CT → State → Prop} {cs : Nat × Nat} {pc : Nat} {L : List (Nat × Value)} {st : List Value} {w : pp_W}
theorem pp_S_push {H0 H H1 : Heap} {locs : List Loc} (hS : va_S (pp_A g) H0 H locs) (z1 : H1.size = H.size + 1) (o1 : ∀ q : Nat, q < H.size → H1[q]? = H[q]?) : va_S (pp_A g) H0 H1 locs :=
  ⟨Nat.le_trans hS.1 (by omega), fun x h1 h2 => (o1 x (Nat.lt_of_lt_of_le h1 hS.1)).trans (hS.2.1 x h1 h2), hS.2.2⟩
theorem pr_new {ci idx : Nat} {r : vw_C} (hd : decode mi.by_ pc = .ok (.new idx, 3)) (hr : pp_cl[ci]? = some r) (hlk : Cond.classLink mi.y.cls idx r.1 ∈ pp_T) (hc : cs.1 + 1 ≤ R.cells) (hs : cs.2 + r.2.2 ≤ R.slots)
    (kk : pp_ATc g R mi Z (cs.1 + 1, cs.2 + r.2.2) (pc + 3) L (.ref w.1.length :: st) (pp_nw w (ci, 0))) : pp_ATc g R mi Z cs pc L st w := by
  intro t C H locs ls cells slots hP hS hl h1 h2
  have kw := kk t C
  obtain ⟨hc10, hin, hty, hnm⟩ := pp_clOK hr
  obtain ⟨hx, hb, hml, hown, hts, hret, hlocks, hname, htab, hK, hE, hb0, htr⟩ := C
  have hKn := hK.1 ci _ hr
  refine W.newcK hx hb hown (hts _ hlk) (hts _ (pp_made_in hr).1) (hts _ (pp_made_in hr).2) rfl hd (by omega) (by omega) hKn.2.1 rfl fun H1 kC hkC e1 z1 o1 => ?_
  have h9 : pp_Rep g (pp_nw w (ci, 0)) H1 := by
    refine hP.push (fun i hi => pp_s_ne _ _ hi) (fun i hi => pp_s_ne _ _ hi) (fun i hi => pp_s_ne _ _ hi) z1 o1 ((pp_at.o hc10).mpr ⟨r, hr, t_OB.to (u_born (pp_ty ci) hts hin hKn hkC (by rw [hP.size]; exact e1) hty) (fun k hk => ?_)⟩)
    simp only [pp_fv, pp_s_eq]
    rcases pp_fkD (pp_fkOK hr k hk) with ⟨a, b⟩ | ⟨a, b⟩ | ⟨a, ⟨_, b⟩ | ⟨_, b⟩⟩ <;> rw [a, b] <;> rfl
  have := kw H1 locs ls (cells + 1) (slots + r.2.2) h9 (pp_S_push hS z1 o1) hl (by show cells + 1 ≤ cs.1 + 1; omega) (by show slots + _ ≤ cs.2 + _; omega)
  simp only [List.map_cons, pp_v, hP.size] at this
  exact this
theorem pr_newarr {at9 : ArrayType} {t9 i9 N : Nat} {ty : FieldType} {n : Int32} (hd : decode mi.by_ pc = .ok (.newarray at9, 2)) (hty : newarray.typeOf at9 = ty) (hw : Cond.arrayClass ty ∈ pp_T) (hn : n = Int32.ofNat N) (hN : N < 100000) (hc : cs.1 + 1 ≤ R.cells) (hs : cs.2 + N ≤ R.slots)
    (hb8 : componentBytes ty ≤ 8) (hK9 : ∀ U : State, pp_K g U → U.vm.findClass ("[" ++ ty.toString) = some (pp_d g i9)) (hat : ∀ H1 : Heap, H1[pp_ad g w.1.length]? = some (arrV (pp_d g i9) N (fun _ => defaultValue ty)) → pp_at g (pp_nw w (t9, N)).2 w.1.length (t9, N) H1)
    (kk : pp_ATc g R mi Z (cs.1 + 1, cs.2 + N) (pc + 2) L (.ref w.1.length :: st) (pp_nw w (t9, N))) : pp_ATc g R mi Z cs pc L (.int n :: st) w := by
  intro t C H locs ls cells slots hP hS hl h1 h2
  have kw := kk t C
  obtain ⟨hx, hb, hml, hown, hts, hret, hlocks, hname, htab, hK, hE, hb0, htr⟩ := C
  subst hty
  have hcl : n.toNatClampNeg = N := by rw [hn]; exact nI_clamp (by omega)
  have hb8' : N * componentBytes (newarray.typeOf at9) ≤ 536870912 := by
    have := Nat.mul_le_mul_left N hb8
    omega
  refine va_newaK hx hb (hts _ hw) rfl hd rfl (by rw [hn]; exact nI_pos (by omega)) hcl hb8' (by omega) (by omega) rfl fun H1 cA e1 z1 o1 hAr hNm => ?_
  cases Option.some.inj (hNm.symm.trans (hK9 t.s hK))
  have h9 : pp_Rep g (pp_nw w (t9, N)) H1 := hP.push (fun i hi => pp_s_ne _ _ hi) (fun i hi => pp_s_ne _ _ hi) (fun i hi => pp_s_ne _ _ hi) z1 o1 (hat H1 (by rw [hP.size]; exact e1))
  have := kw H1 locs ls (cells + 1) (slots + N) h9 (pp_S_push hS z1 o1) hl (by show cells + 1 ≤ cs.1 + 1; omega) (by show slots + _ ≤ cs.2 + _; omega)
  simp only [List.map_cons, pp_v, hP.size] at this
  exact this
theorem pr_newi {N : Nat} {n : Int32} (hd : decode mi.by_ pc = .ok (.newarray .int, 2)) (hn : n = Int32.ofNat N) (hN : N < 100000) (hc : cs.1 + 1 ≤ R.cells) (hs : cs.2 + N ≤ R.slots) (kk : pp_ATc g R mi Z (cs.1 + 1, cs.2 + N) (pc + 2) L (.ref w.1.length :: st) (pp_nw w (10, N))) : pp_ATc g R mi Z cs pc L (.int n :: st) w :=
  pr_newarr (i9 := 0) (ty := .int) hd rfl (pp_arrs _ (by simp)) hn hN hc hs (by decide) (fun U hK => (hK.2 0 _ rfl).2) (fun H1 h => pp_at.i.mpr (by rw [h]; simp only [pp_nw, pp_s_eq]; rfl)) kk
theorem pr_newb {N : Nat} {n : Int32} (hd : decode mi.by_ pc = .ok (.newarray .byte, 2)) (hn : n = Int32.ofNat N) (hN : N < 100000) (hc : cs.1 + 1 ≤ R.cells) (hs : cs.2 + N ≤ R.slots) (kk : pp_ATc g R mi Z (cs.1 + 1, cs.2 + N) (pc + 2) L (.ref w.1.length :: st) (pp_nw w (11, N))) : pp_ATc g R mi Z cs pc L (.int n :: st) w :=
  pr_newarr (i9 := 1) (ty := .byte) hd rfl (pp_arrs _ (by simp)) hn hN hc hs (by decide) (fun U hK => (hK.2 1 _ rfl).2) (fun H1 h => pp_at.b.mpr (by rw [h]; simp only [pp_nw, pp_s_eq]; rfl)) kk
theorem pr_newz {N : Nat} {n : Int32} (hd : decode mi.by_ pc = .ok (.newarray .boolean, 2)) (hn : n = Int32.ofNat N) (hN : N < 100000) (hc : cs.1 + 1 ≤ R.cells) (hs : cs.2 + N ≤ R.slots) (kk : pp_ATc g R mi Z (cs.1 + 1, cs.2 + N) (pc + 2) L (.ref w.1.length :: st) (pp_nw w (12, N))) : pp_ATc g R mi Z cs pc L (.int n :: st) w :=
  pr_newarr (i9 := 2) (ty := .boolean) hd rfl (pp_arrs _ (by simp)) hn hN hc hs (by decide) (fun U hK => (hK.2 2 _ rfl).2) (fun H1 h => pp_at.z.mpr (by rw [h]; simp only [pp_nw, pp_s_eq]; rfl)) kk
theorem pr_newj {N : Nat} {n : Int32} (hd : decode mi.by_ pc = .ok (.newarray .long, 2)) (hn : n = Int32.ofNat N) (hN : N < 100000) (hc : cs.1 + 1 ≤ R.cells) (hs : cs.2 + N ≤ R.slots) (kk : pp_ATc g R mi Z (cs.1 + 1, cs.2 + N) (pc + 2) L (.ref w.1.length :: st) (pp_nw w (13, N))) : pp_ATc g R mi Z cs pc L (.int n :: st) w :=
  pr_newarr (i9 := 3) (ty := .long) hd rfl (pp_arrs _ (by simp)) hn hN hc hs (by decide) (fun U hK => (hK.2 3 _ rfl).2) (fun H1 h => pp_at.j.mpr (by rw [h]; simp only [pp_nw, pp_s_eq]; rfl)) kk
theorem pr_newq {idx N : Nat} {n : Int32} (hd : decode mi.by_ pc = .ok (.anewarray idx, 3)) (hlk : Cond.classLink mi.y.cls idx RX4 ∈ pp_T) (hn : n = Int32.ofNat N) (hN : N < 100000) (hc : cs.1 + 1 ≤ R.cells) (hs : cs.2 + N ≤ R.slots) (kk : pp_ATc g R mi Z (cs.1 + 1, cs.2 + N) (pc + 3) L (.ref w.1.length :: st) (pp_nw w (14, N))) : pp_ATc g R mi Z cs pc L (.int n :: st) w := by
  intro t C H locs ls cells slots hP hS hl h1 h2
  have kw := kk t C
  obtain ⟨hx, hb, hml, hown, hts, hret, hlocks, hname, htab, hK, hE, hb0, htr⟩ := C
  have hcl : n.toNatClampNeg = N := by rw [hn]; exact nI_clamp (by omega)
  refine W.anew hx hb hown (hts _ hlk) (va_AO.use hE.2.2.2.2.2.2.2.2.2) rfl hd rfl (by rw [hn]; exact nI_pos (by omega)) (by rw [hcl]; omega) (by omega) (by rw [hcl]; omega) fun cA kA comp f1 f2 f3 f4 => ?_
  rw [hcl]
  obtain ⟨kA', comp', g1, g2, g3, g4⟩ := (hK.2 4 _ rfl).2
  cases Option.some.inj (f1.symm.trans g4)
  generalize hH1 : H.push ({ cls := pp_d g 4, slots := Array.replicate N .null, vm := .none } : Cell) = H1
  have z1 : H1.size = H.size + 1 := by rw [← hH1, Array.size_push]
  have e1 : H1[H.size]? = some (arrV (pp_d g 4) N (fun _ => .null)) := by rw [← hH1, Array.getElem?_push_size, ← arrV_new]
  have o1 : ∀ q : Nat, q < H.size → H1[q]? = H[q]? := fun q hq => by rw [← hH1, Array.getElem?_push, if_neg (Nat.ne_of_lt hq)]
  have h9 : pp_Rep g (pp_nw w (14, N)) H1 := hP.push (fun i hi => pp_s_ne _ _ hi) (fun i hi => pp_s_ne _ _ hi) (fun i hi => pp_s_ne _ _ hi) z1 o1 (pp_at.q.mpr (by rw [hP.size, e1]; simp only [pp_nw, pp_s_eq]; rfl))
  have := kw H1 locs ls (cells + 1) (slots + N) h9 (pp_S_push hS z1 o1) hl (by show cells + 1 ≤ cs.1 + 1; omega) (by show slots + _ ≤ cs.2 + _; omega)
  simp only [List.map_cons, pp_v, hP.size] at this
  exact this
theorem pr_objInit {idx a : Nat} (hd : decode mi.by_ pc = .ok (.invokespecial idx, 3)) (hlk : Cond.methodLink mi.y.cls idx Lib.objectInit ∈ pp_T) (h1 : Cond.instanceMethod Lib.objectInit ∈ pp_T) (h2 : Cond.code Lib.objectInit ⟨#[0xb1]⟩ 1 none ∈ pp_T) (hf : 1 ≤ R.frames) (hlo : 40 ≤ R.locals) (hst : st.length ≤ 4)
    (kk : pp_ATc g R mi Z cs (pc + 3) L st w) : pp_ATc g R mi Z cs pc L (.ref a :: st) w := by
  intro t C H locs ls cells slots hP hS hl q1 q2
  have kw := kk t C H locs ls cells slots hP hS hl q1 q2
  refine W.objInit C.1 C.2.1 C.2.2.2.1 (C.2.2.2.2.1 _ hlk) (C.2.2.2.2.1 _ h1) (C.2.2.2.2.1 _ h2) rfl (by rw [C.2.2.1]; exact hl.1) rfl hd hf ?_ kw
  show 2 * 0 + ((st.map (pp_v g)).map fun v => v.category).sum + 12 ≤ R.locals
  have : ∀ (l : List Value), ((l.map (pp_v g)).map fun v => v.category).sum ≤ 2 * l.length := by
    intro l
    induction l with
    | nil => simp
    | cons v l ih =>
      have hv : (pp_v g v).category ≤ 2 := by rcases lv_cat (pp_v g v) with h | h <;> omega
      simp only [List.map_cons, List.sum_cons, List.length_cons]
      omega
  have := this st
  omega
end Make
end
section
/-! THE ENGINE, 6: copying -/
theorem pp_cat_le (g : pp_G) : ∀ (l : List Value), ((l.map (pp_v g)).map fun v => v.category).sum ≤ 2 * l.length := by
  intro l
  induction l with
  | nil => simp
  | cons v l ih =>
    have hv : (pp_v g v).category ≤ 2 := by rcases lv_cat (pp_v g v) with h | h <;> omega
    simp only [List.map_cons, List.sum_cons, List.length_cons]
    omega
theorem pp_copyW0 : ∀ w ∈ [Cond.native arraycopyName, Cond.static arraycopyName, Cond.initialized "java/lang/System"], w ∈ pp_T := pp_sub (by decide +kernel)
theorem pp_copyW : Cond.native arraycopyName ∈ pp_T ∧ Cond.static arraycopyName ∈ pp_T ∧ Cond.initialized "java/lang/System" ∈ pp_T := ⟨pp_copyW0 _ (by simp), pp_copyW0 _ (by simp), pp_copyW0 _ (by simp)⟩
theorem pp_copyN : nativeFrameWords "java/lang/System" "arraycopy" 5 + 11 ≤ 90 := by decide +kernel
section Copy
variable {g : pp_G} {R : Room} {mi : pp_MI} {Z : pp_CT → State → Prop} {cs : Nat × Nat} {pc : Nat} {L : List (Nat × Value)} {st : List Value} {w : pp_W}
theorem pr_copyi {idx a b n0 n1 : Nat} {sp dp n : Int32} (hd : decode mi.by_ pc = .ok (.invokestatic idx, 3)) (hlk : Cond.methodLink mi.y.cls idx arraycopyName ∈ pp_T) (hR1 : 1 ≤ R.frames) (hR2 : 100 ≤ R.locals) (hst : st.length ≤ 4) (ha : w.1[a]? = some (10, n0)) (hb9 : w.1[b]? = some (10, n1))
    (g1 : ¬ sp < 0) (g2 : ¬ dp < 0) (g3 : ¬ n < 0) (g4 : sp.toNatClampNeg + n.toNatClampNeg ≤ n0) (g5 : dp.toNatClampNeg + n.toNatClampNeg ≤ n1)
    (kk : pp_ATc g R mi Z cs (pc + 3) L st (w.1, pp_s w.2.1 b (va_cpy (w.2.1 a) (w.2.1 b) sp.toNatClampNeg dp.toNatClampNeg n.toNatClampNeg), w.2.2)) : pp_ATc g R mi Z cs pc L (.int n :: .int dp :: .ref b :: .int sp :: .ref a :: st) w := by
  intro t C H locs ls cells slots hP hS hl q1 q2
  have kw := kk t C
  obtain ⟨hx, hb, hml, hown, hts, hret, hlocks, hname, htab, hK, hE, hb0, htr⟩ := C
  have nn : ∀ z : Int32, ¬ z < 0 → z.toInt = (z.toNatClampNeg : Int) := by
    intro z hz
    have hz0 : (0 : Int) ≤ z.toInt := by
      have := Int32.not_lt.mp hz
      simpa using Int32.le_iff_toInt_le.mp this
    show z.toInt = ((z.toInt.toNat : Nat) : Int)
    omega
  have hcat : ((st.map (pp_v g)).map fun v => v.category).sum ≤ 2 * st.length := pp_cat_le g st
  intro T hT X
  have hc0 : H[pp_ad g a]? = some (vp_cell (pp_d g 0) (n0, .inl (w.2.1 a))) := pp_at.i.mp (hP.2.2.2 a _ ha)
  have hc1 : H[pp_ad g b]? = some (vp_cell (pp_d g 0) (n1, .inl (w.2.1 b))) := pp_at.i.mp (hP.2.2.2 b _ hb9)
  obtain ⟨-, k0, hk0, cm0, hkk0⟩ := (hK.2 0 _ rfl).1 n0 (fun j => Value.int (w.2.1 a j))
  obtain ⟨-, k1, hk1, cm1, hkk1⟩ := (hK.2 0 _ rfl).1 n1 (fun j => Value.int (w.2.1 b j))
  obtain ⟨vm', X', step⟩ := X.arraycopy hx hown (hts _ hlk) (hts _ pp_copyW.1) (hts _ pp_copyW.2.1) (hts _ pp_copyW.2.2) (src := pp_ad g a) (dst := pp_ad g b) (cs := vp_cell (pp_d g 0) (n0, .inl (w.2.1 a))) (cd := vp_cell (pp_d g 0) (n1, .inl (w.2.1 b))) (srcPos := sp) (destPos := dp) (n := n) (by rw [hT]; exact hc0) (by rw [hT]; exact hc1)
    (fun _ h => by cases h) (fun _ h => by cases h) (fun h => by cases h) (fun h => by cases h) hk0 hk1 hkk0 hkk1 (by simp [refKind]) g1 g2 g3
    (by rw [nn sp g1, nn n g3]; show ¬ _ > ((arrV (pp_d g 0) n0 (fun j => Value.int (w.2.1 a j))).slots.size : Int); rw [arrV_size]; omega)
    (by rw [nn dp g2, nn n g3]; show ¬ _ > ((arrV (pp_d g 0) n1 (fun j => Value.int (w.2.1 b j))).slots.size : Int); rw [arrV_size]; omega)
    (fun vm₁ _ i hi => by
      have e : (vp_cell (pp_d g 0) (n0, .inl (w.2.1 a))).slots.getD (sp.toNatClampNeg + i) .null = Value.int (w.2.1 a (sp.toNatClampNeg + i)) := by
        show (arrV (pp_d g 0) n0 (fun j => Value.int (w.2.1 a j))).slots.getD _ _ = _
        rw [Array.getD_eq_getD_getElem?, arrV_read _ _ (by omega)]
        rfl
      refine ⟨?_, ?_⟩
      · rw [e]
        rfl
      · rw [e]
        exact trivial)
    (g := F0 t.m pc ls (.int n :: .int dp :: .ref (pp_ad g b) :: .int sp :: .ref (pp_ad g a) :: st.map (pp_v g))) rfl (by rw [hml]; exact hl.1) (rest := st.map (pp_v g)) rfl (by rw [hb]; exact hd) hR1 (by show 2 * 0 + _ + (nativeFrameWords "java/lang/System" "arraycopy" 5 + 11) ≤ _; have := pp_copyN; omega)
  have e1 : copied (vp_cell (pp_d g 0) (n0, .inl (w.2.1 a))) (vp_cell (pp_d g 0) (n1, .inl (w.2.1 b))) sp dp n = vp_cell (pp_d g 0) (n1, .inl (va_cpy (w.2.1 a) (w.2.1 b) sp.toNatClampNeg dp.toNatClampNeg n.toNatClampNeg)) := va_copied (fun z => Value.int z) (pp_d g 0) (pp_d g 0) (w.2.1 a) (w.2.1 b) g4
  rw [e1] at X' step
  have hl9 : pp_ad g b < H.size := (Array.getElem?_eq_some_iff.mp hc1).1
  obtain ⟨H1, hH1⟩ : ∃ z, z = ((T.setVm vm').setCell (pp_ad g b) (vp_cell (pp_d g 0) (n1, .inl (va_cpy (w.2.1 a) (w.2.1 b) sp.toNatClampNeg dp.toNatClampNeg n.toNatClampNeg)))).heap := ⟨_, rfl⟩
  have hTv : (T.setVm vm').heap = H := hT
  have z : H1.size = H.size := by rw [hH1, size_setCell, hTv]
  have oq : ∀ q : Nat, q ≠ pp_ad g b → H1[q]? = H[q]? := fun q hq => by rw [hH1, heapAt_setCell_ne _ (Ne.symm hq), hTv]
  obtain ⟨t2, a1, b1⟩ := kw H1 _ ls cells slots (hP.store hb9 (fun q => nomatch q) (fun i hi => pp_s_ne _ _ hi) (fun i hi => rfl) (fun i hi => rfl) z oq (pp_at.i.mpr (by rw [hH1]; simp only [pp_s_eq]; exact heapAt_setCell_self _ (by rw [hTv]; exact hl9)))) ⟨by rw [z]; exact hS.1, fun q z1 z2 => by
      rw [oq q (fun e => z2 (by rw [e]; exact hP.Aa hb9 (fun q => nomatch q)))]
      exact hS.2.1 q z1 z2, fun q hq => by
      rcases List.mem_append.mp hq with h | h
      · exact hS.2.2 q h
      · obtain ⟨z, -, hz⟩ := List.mem_map.mp h
        rw [← hz]
        exact hP.Aa hb9 (fun q => nomatch q)⟩ hl q1 q2 _ hH1.symm X'
  exact ⟨t2, step t2 a1, b1⟩
theorem pr_copyl {idx a b n0 n1 : Nat} {sp dp n : Int32} (hd : decode mi.by_ pc = .ok (.invokestatic idx, 3)) (hlk : Cond.methodLink mi.y.cls idx arraycopyName ∈ pp_T) (hR1 : 1 ≤ R.frames) (hR2 : 100 ≤ R.locals) (hst : st.length ≤ 4) (ha : w.1[a]? = some (13, n0)) (hb9 : w.1[b]? = some (13, n1))
    (g1 : ¬ sp < 0) (g2 : ¬ dp < 0) (g3 : ¬ n < 0) (g4 : sp.toNatClampNeg + n.toNatClampNeg ≤ n0) (g5 : dp.toNatClampNeg + n.toNatClampNeg ≤ n1)
    (kk : pp_ATc g R mi Z cs (pc + 3) L st (w.1, w.2.1, pp_s w.2.2.1 b (va_cpy (w.2.2.1 a) (w.2.2.1 b) sp.toNatClampNeg dp.toNatClampNeg n.toNatClampNeg), w.2.2.2)) : pp_ATc g R mi Z cs pc L (.int n :: .int dp :: .ref b :: .int sp :: .ref a :: st) w := by
  intro t C H locs ls cells slots hP hS hl q1 q2
  have kw := kk t C
  obtain ⟨hx, hb, hml, hown, hts, hret, hlocks, hname, htab, hK, hE, hb0, htr⟩ := C
  have nn : ∀ z : Int32, ¬ z < 0 → z.toInt = (z.toNatClampNeg : Int) := by
    intro z hz
    have hz0 : (0 : Int) ≤ z.toInt := by
      have := Int32.not_lt.mp hz
      simpa using Int32.le_iff_toInt_le.mp this
    show z.toInt = ((z.toInt.toNat : Nat) : Int)
    omega
  have hcat : ((st.map (pp_v g)).map fun v => v.category).sum ≤ 2 * st.length := pp_cat_le g st
  intro T hT X
  have hc0 : H[pp_ad g a]? = some (vp_cell (pp_d g 3) (n0, .inr (.inl (w.2.2.1 a)))) := pp_at.j.mp (hP.2.2.2 a _ ha)
  have hc1 : H[pp_ad g b]? = some (vp_cell (pp_d g 3) (n1, .inr (.inl (w.2.2.1 b)))) := pp_at.j.mp (hP.2.2.2 b _ hb9)
  obtain ⟨-, k0, hk0, cm0, hkk0⟩ := (hK.2 3 _ rfl).1 n0 (fun j => Value.long (w.2.2.1 a j))
  obtain ⟨-, k1, hk1, cm1, hkk1⟩ := (hK.2 3 _ rfl).1 n1 (fun j => Value.long (w.2.2.1 b j))
  obtain ⟨vm', X', step⟩ := X.arraycopy hx hown (hts _ hlk) (hts _ pp_copyW.1) (hts _ pp_copyW.2.1) (hts _ pp_copyW.2.2) (src := pp_ad g a) (dst := pp_ad g b) (cs := vp_cell (pp_d g 3) (n0, .inr (.inl (w.2.2.1 a)))) (cd := vp_cell (pp_d g 3) (n1, .inr (.inl (w.2.2.1 b)))) (srcPos := sp) (destPos := dp) (n := n) (by rw [hT]; exact hc0) (by rw [hT]; exact hc1)
    (fun _ h => by cases h) (fun _ h => by cases h) (fun h => by cases h) (fun h => by cases h) hk0 hk1 hkk0 hkk1 (by simp [refKind]) g1 g2 g3
    (by rw [nn sp g1, nn n g3]; show ¬ _ > ((arrV (pp_d g 3) n0 (fun j => Value.long (w.2.2.1 a j))).slots.size : Int); rw [arrV_size]; omega)
    (by rw [nn dp g2, nn n g3]; show ¬ _ > ((arrV (pp_d g 3) n1 (fun j => Value.long (w.2.2.1 b j))).slots.size : Int); rw [arrV_size]; omega)
    (fun vm₁ _ i hi => by
      have e : (vp_cell (pp_d g 3) (n0, .inr (.inl (w.2.2.1 a)))).slots.getD (sp.toNatClampNeg + i) .null = Value.long (w.2.2.1 a (sp.toNatClampNeg + i)) := by
        show (arrV (pp_d g 3) n0 (fun j => Value.long (w.2.2.1 a j))).slots.getD _ _ = _
        rw [Array.getD_eq_getD_getElem?, arrV_read _ _ (by omega)]
        rfl
      refine ⟨?_, ?_⟩
      · rw [e]
        rfl
      · rw [e]
        exact trivial)
    (g := F0 t.m pc ls (.int n :: .int dp :: .ref (pp_ad g b) :: .int sp :: .ref (pp_ad g a) :: st.map (pp_v g))) rfl (by rw [hml]; exact hl.1) (rest := st.map (pp_v g)) rfl (by rw [hb]; exact hd) hR1 (by show 2 * 0 + _ + (nativeFrameWords "java/lang/System" "arraycopy" 5 + 11) ≤ _; have := pp_copyN; omega)
  have e1 : copied (vp_cell (pp_d g 3) (n0, .inr (.inl (w.2.2.1 a)))) (vp_cell (pp_d g 3) (n1, .inr (.inl (w.2.2.1 b)))) sp dp n = vp_cell (pp_d g 3) (n1, .inr (.inl (va_cpy (w.2.2.1 a) (w.2.2.1 b) sp.toNatClampNeg dp.toNatClampNeg n.toNatClampNeg))) := va_copied (fun z => Value.long z) (pp_d g 3) (pp_d g 3) (w.2.2.1 a) (w.2.2.1 b) g4
  rw [e1] at X' step
  have hl9 : pp_ad g b < H.size := (Array.getElem?_eq_some_iff.mp hc1).1
  obtain ⟨H1, hH1⟩ : ∃ z, z = ((T.setVm vm').setCell (pp_ad g b) (vp_cell (pp_d g 3) (n1, .inr (.inl (va_cpy (w.2.2.1 a) (w.2.2.1 b) sp.toNatClampNeg dp.toNatClampNeg n.toNatClampNeg))))).heap := ⟨_, rfl⟩
  have hTv : (T.setVm vm').heap = H := hT
  have z : H1.size = H.size := by rw [hH1, size_setCell, hTv]
  have oq : ∀ q : Nat, q ≠ pp_ad g b → H1[q]? = H[q]? := fun q hq => by rw [hH1, heapAt_setCell_ne _ (Ne.symm hq), hTv]
  obtain ⟨t2, a1, b1⟩ := kw H1 _ ls cells slots (hP.store hb9 (fun q => nomatch q) (fun i hi => rfl) (fun i hi => pp_s_ne _ _ hi) (fun i hi => rfl) z oq (pp_at.j.mpr (by rw [hH1]; simp only [pp_s_eq]; exact heapAt_setCell_self _ (by rw [hTv]; exact hl9)))) ⟨by rw [z]; exact hS.1, fun q z1 z2 => by
      rw [oq q (fun e => z2 (by rw [e]; exact hP.Aa hb9 (fun q => nomatch q)))]
      exact hS.2.1 q z1 z2, fun q hq => by
      rcases List.mem_append.mp hq with h | h
      · exact hS.2.2 q h
      · obtain ⟨z, -, hz⟩ := List.mem_map.mp h
        rw [← hz]
        exact hP.Aa hb9 (fun q => nomatch q)⟩ hl q1 q2 _ hH1.symm X'
  exact ⟨t2, step t2 a1, b1⟩
end Copy
end
section
/-! THE ENGINE, 7: calls, ends -/
/-- a thing of the class E was thrown over this frame -/
def pp_XT (g : pp_G) (R : Room) (mi : pp_MI) (Z : pp_CT → State → Prop) (cs : Nat × Nat) (pc : Nat) (L : List (Nat × Value)) (st : List Value) (w : pp_W) (E : String) : Prop :=
  ∀ t : pp_CT, pp_Cx g mi t → ∀ (H : Heap) (locs : List Loc) (ls : Array Slot) (cells slots : Nat), pp_Rep g w H → va_S (pp_A g) t.s.heap H locs → lv_has ls mi.nL (pp_ls g L) → cells ≤ cs.1 → slots ≤ cs.2 →
    ∀ (q : Addr) (ce : Cell), H[q]? = some ce → ce.vm = .none → t.s.vm.findClass E = some ce.cls → vx_W t.p (pp_l g) t.e R t.s t.m t.args t.below t.meth t.c H locs cells slots (Z t) (F0 t.m pc ls (st.map (pp_v g))) q
/-- what is due behind a call -/
def pp_K1 (g : pp_G) (R : Room) (mi : pp_MI) (Z : pp_CT → State → Prop) (cs : Nat × Nat) (pc : Nat) (L : List (Nat × Value)) (st : List Value) : pp_R → pp_W → Prop := fun r w => match r with
  | .inl v => pp_ATc g R mi Z cs (pc + 3) L (v.toList ++ st) w
  | .inr E => pp_XT g R mi Z cs pc L st w E
section Calls
variable {g : pp_G} {R : Room} {mi mj : pp_MI} {Z : pp_CT → State → Prop} {cs : Nat × Nat} {pc h : Nat} {L : List (Nat × Value)} {st : List Value} {w : pp_W}
theorem pp_after {P : pp_R → pp_W → Prop} {t : pp_CT} (C : pp_Cx g mi t) {H : Heap} {locs : List Loc} {ls : Array Slot} {cells slots : Nat} {st0 : List Value} {a : Array Value} (hS : va_S (pp_A g) t.s.heap H locs) (hl : lv_has ls mi.nL (pp_ls g L))
    (hr : vx_Run t.p (pp_l g) t.e R t.s t.m t.args t.below t.meth t.c H locs cells slots mj.mc mj.ms (F0 t.m pc ls st0) (st.map (pp_v g)) (pp_Qc g P a) (pp_XC g P) (pp_A g)) (h1 : cells ≤ cs.1) (h2 : slots ≤ cs.2)
    (hk : ∀ r w, P r w → pp_K1 g R mi Z (cs.1 + mj.mc, cs.2 + mj.ms) pc L st r w) : pp_Wt g R t H locs cells slots (Z t) (F0 t.m pc ls st0) := by
  intro T hT X
  rcases hr T hT X with ⟨v, st₀, u, T', Lo, h0, X', hL, e1, e2, ⟨v', w', hv, hp, hB, hF⟩, st1⟩ | ⟨q, st₀, u, T', Lo, E, ce, h0, X', hL, e1, e2, ⟨w', hp, hB, hF⟩, hce, hcv, hcl, st1⟩
  · cases hv
    obtain ⟨k1, k2, k3⟩ := vx_keep h0 e1 hS (fun q _ h => h) (fun q h => h) hL hF
    have hk9 : pp_ATc g R mi Z (cs.1 + mj.mc, cs.2 + mj.ms) (pc + 3) L (v'.toList ++ st) w' := hk _ _ hp
    obtain ⟨t2, a1, b1⟩ := hk9 t C T'.heap (locs ++ Lo) ls (cells + mj.mc) (slots + mj.ms) (by rw [e1]; exact hB) k3 hl (by show _ ≤ cs.1 + mj.mc; omega) (by show _ ≤ cs.2 + mj.ms; omega) T' rfl X'
    refine ⟨t2, st1 t2 ?_, b1⟩
    have e9 : (v'.toList ++ st).map (pp_v g) = (v'.map (pp_v g)).toList ++ st.map (pp_v g) := by cases v' <;> rfl
    rw [e9] at a1
    exact a1
  · obtain ⟨k1, k2, k3⟩ := vx_keep h0 e1 hS (fun q _ h => h) (fun q h => h) hL hF
    have hk9 : pp_XT g R mi Z (cs.1 + mj.mc, cs.2 + mj.ms) pc L st w' E := hk _ _ hp
    obtain ⟨t2, a1, b1⟩ := hk9 t C T'.heap (locs ++ Lo) ls (cells + mj.mc) (slots + mj.ms) (by rw [e1]; exact hB) k3 hl (by show _ ≤ cs.1 + mj.mc; omega) (by show _ ≤ cs.2 + mj.ms; omega) q ce (by rw [e1]; exact hce) hcv hcl T' rfl X'
    exact ⟨t2, st1.trans a1, b1⟩
theorem pp_pre {t : pp_CT} (C : pp_Cx g mi t) {H : Heap} {locs : List Loc} (hP : pp_Rep g w H) (hS : va_S (pp_A g) t.s.heap H locs) (av : List Value) : ∀ U : State, U.heap = H → t.s.WarmedH U.vm → pp_Pc g av w (av.map (pp_v g)).toArray U :=
  fun U hU hW => ⟨rfl, by rw [hU]; exact hP, va_K.moved hW.alike C.2.2.2.2.2.2.2.2.2.1, by rw [hU]; exact pp_Ext.moved hW (C.2.2.2.2.2.2.2.2.2.2.1.kept hS.2.1), C.2.2.2.2.2.2.2.2.2.2.2.2.1⟩
theorem pp_recv {t : pp_CT} (C : pp_Cx g mi t) {H : Heap} (hP : pp_Rep g w H) {b ci : Nat} {r : vw_C} (hr : pp_cl[ci]? = some r) (hb : w.1[b]? = some (ci, 0)) : ∃ cell : Cell, H[pp_ad g b]? = some cell ∧ cell.vm.isStatics = false ∧ t.s.vm.findClass r.1 = some cell.cls := by
  obtain ⟨hc10, -⟩ := pp_clOK hr
  obtain ⟨r', e1, cell, q1, q2, q3, q4⟩ := (pp_at.o hc10).mp (hP.2.2.2 b _ hb)
  obtain ⟨-, hfc, -⟩ := C.2.2.2.2.2.2.2.2.2.1.1 ci _ hr
  exact ⟨cell, q1, by rw [q3]; rfl, by rw [q2]; exact hfc⟩
abbrev pp_big (R : Room) (h : Nat) : Prop := h + 9 ≤ R.frames ∧ 40 * h + 240 ≤ R.locals
theorem pp_words {t : pp_CT} (C : pp_Cx g mi t) (hok : pp_MIok mj) : ∀ w ∈ pp_cw mj :: pp_T, ∀ (a' : Array Value) (U : State), t.s.WarmedH U.vm → w.before a' U = true := fun w hw a' U hW => by
  rcases List.mem_cons.mp hw with rfl | hw
  · exact pp_T_warm hW C.2.2.2.2.1 _ hok.2.2.1
  · exact pp_T_warm hW C.2.2.2.2.1 _ hw
theorem pp_np (hok : pp_MIok mj) : ∀ sig, parseMethodDescriptor mj.y.desc = some sig → mj.np = sig.parameters.length := fun sig hs => by
  have := hok.2.2.2.2.2.1
  rw [hs] at this
  exact (Option.some.inj this).symm
theorem pp_callB {t : pp_CT} (C : pp_Cx g mi t) (hok : pp_MIok mj) (hh : mj.hh = []) (hR : pp_big R h) {idx : Nat} (hlk : Cond.methodLink mi.y.cls idx mj.y ∈ pp_T) : CallB R t.s t.args mi.y.cls idx mj.y mj.by_ mj.nL mj.ret (pp_cw mj :: pp_T) (pp_room h mj) mj.mc mj.ms mj.np := by
  have hcw : pp_cw mj = .code mj.y mj.by_ mj.nL mj.ret := if_pos hh
  have hn := hok.2.1
  refine ⟨rfl, rfl, ?_, ?_, pp_words C hok, by rw [hcw]; exact List.mem_cons_self, ?_, C.2.2.2.2.1 _ hok.2.2.2.1, hok.2.2.2.2.1, pp_np hok, C.2.2.2.2.1 _ hlk⟩
  · show h + 8 + 1 ≤ _
    exact hR.1
  · show 8 + (mj.nL + 11) + (40 * h + 200) ≤ _
    have := hR.2
    omega
  · rw [← hcw]
    exact C.2.2.2.2.1 _ hok.2.2.1
theorem pp_rest (g : pp_G) {st : List Value} (hst : st.length ≤ 4) {m : MethodId} {pc : Nat} {ls : Array Slot} {rest : List Value} : 2 * (F0 m pc ls rest).monitorRoom + ((st.map (pp_v g)).map fun v => v.category).sum ≤ 8 := by
  have := pp_cat_le g st
  exact lv_room (by omega)
theorem pr_callV {idx ci b : Nat} {r : vw_C} {As : List Value} {P : pp_R → pp_W → Prop} (hd : decode mi.by_ pc = .ok (.invokevirtual idx, 3)) (hlk : Cond.methodLink mi.y.cls idx mj.y ∈ pp_T) (hkd : mj.kd = 1) (hh : mj.hh = []) (hr : pp_cl[ci]? = some r) (hrc : r.1 = mj.y.cls) (hb9 : w.1[b]? = some (ci, 0)) (hlen : As.length = mj.np) (hR : pp_big R h) (hc : cs.1 + mj.mc ≤ R.cells) (hs : cs.2 + mj.ms ≤ R.slots) (hst : st.length ≤ 4)
    (hM : pp_MW g h mj (.ref b :: As) w P) (hk : ∀ r w, P r w → pp_K1 g R mi Z (cs.1 + mj.mc, cs.2 + mj.ms) pc L st r w) : pp_ATc g R mi Z cs pc L (As.reverse ++ .ref b :: st) w := by
  intro t C H locs ls cells slots hP hS hl h1 h2
  have hok := hM.1
  obtain ⟨hsel1, hsel2⟩ : Cond.instanceMethod mj.y ∈ pp_T ∧ Cond.selects mj.y.cls mj.y mj.y ∈ pp_T := by
    rcases hok.2.2.2.2.2.2.1 with ⟨h, -⟩ | ⟨-, h⟩ | ⟨h, -⟩
    · rw [hkd] at h; cases h
    · exact h
    · rw [hkd] at h; cases h
  have e9 : (As.reverse ++ .ref b :: st).map (pp_v g) = (As.map (pp_v g)).reverse ++ .ref (pp_ad g b) :: st.map (pp_v g) := by
    rw [List.map_append, List.map_reverse]; rfl
  rw [e9]
  refine pp_after C hS hl (vx_runV (C := r.1) (As := As.map (pp_v g)) (b := pp_ad g b) ⟨C.1, C.2.1, C.2.2.1, C.2.2.2.1, C.2.2.2.2.1⟩ hM.2 ⟨pp_callB C hok hh hR hlk, C.2.2.2.2.1 _ hsel1, by rw [hrc]; exact C.2.2.2.2.1 _ hsel2⟩ ⟨pp_blind g _ w, pp_recv C hP hr hb9, pp_pre C hP hS (.ref b :: As)⟩ rfl (by rw [List.length_map]; exact hlen) hl.1 rfl (pp_rest g hst) hd ⟨by omega, by omega⟩) h1 h2 hk
theorem pr_callS {idx : Nat} {As : List Value} {P : pp_R → pp_W → Prop} (hd : decode mi.by_ pc = .ok (.invokestatic idx, 3)) (hlk : Cond.methodLink mi.y.cls idx mj.y ∈ pp_T) (hkd : mj.kd = 0) (hh : mj.hh = []) (hlen : As.length = mj.np) (hR : pp_big R h) (hc : cs.1 + mj.mc ≤ R.cells) (hs : cs.2 + mj.ms ≤ R.slots) (hst : st.length ≤ 4)
    (hM : pp_MW g h mj As w P) (hk : ∀ r w, P r w → pp_K1 g R mi Z (cs.1 + mj.mc, cs.2 + mj.ms) pc L st r w) : pp_ATc g R mi Z cs pc L (As.reverse ++ st) w := by
  intro t C H locs ls cells slots hP hS hl h1 h2
  have hok := hM.1
  have hsel1 : Cond.static mj.y ∈ pp_T := by
    rcases hok.2.2.2.2.2.2.1 with ⟨-, h⟩ | ⟨h, -⟩ | ⟨h, -⟩
    · exact h
    · rw [hkd] at h; cases h
    · rw [hkd] at h; cases h
  have e9 : (As.reverse ++ st).map (pp_v g) = (As.map (pp_v g)).reverse ++ st.map (pp_v g) := by
    rw [List.map_append, List.map_reverse]
  rw [e9]
  refine pp_after C hS hl (vx_runS (As := As.map (pp_v g)) ⟨C.1, C.2.1, C.2.2.1, C.2.2.2.1, C.2.2.2.2.1⟩ hM.2 ⟨pp_callB C hok hh hR hlk, C.2.2.2.2.1 _ hsel1⟩ ⟨pp_blind g _ w, pp_pre C hP hS As⟩ rfl (by rw [List.length_map]; exact hlen) hl.1 rfl (pp_rest g hst) hd ⟨by omega, by omega⟩) h1 h2 hk
/-- a static method with handlers -/
theorem pr_callSX {idx : Nat} {As : List Value} {P : pp_R → pp_W → Prop} (hd : decode mi.by_ pc = .ok (.invokestatic idx, 3)) (hlk : Cond.methodLink mi.y.cls idx mj.y ∈ pp_T) (hkd : mj.kd = 0) (hh : mj.hh ≠ []) (hlen : As.length = mj.np) (hR : pp_big R h) (hc : cs.1 + mj.mc ≤ R.cells) (hs : cs.2 + mj.ms ≤ R.slots) (hst : st.length ≤ 4)
    (hM : pp_MW g h mj As w P) (hk : ∀ r w, P r w → pp_K1 g R mi Z (cs.1 + mj.mc, cs.2 + mj.ms) pc L st r w) : pp_ATc g R mi Z cs pc L (As.reverse ++ st) w := by
  intro t C H locs ls cells slots hP hS hl h1 h2
  have hok := hM.1
  have hcw : pp_cw mj = .codeWith mj.y mj.by_ mj.nL mj.ret mj.hh := if_neg hh
  have hn := hok.2.1
  have hsel1 : Cond.static mj.y ∈ pp_T := by
    rcases hok.2.2.2.2.2.2.1 with ⟨-, h⟩ | ⟨h, -⟩ | ⟨h, -⟩
    · exact h
    · rw [hkd] at h; cases h
    · rw [hkd] at h; cases h
  have e9 : (As.reverse ++ st).map (pp_v g) = (As.map (pp_v g)).reverse ++ st.map (pp_v g) := by
    rw [List.map_append, List.map_reverse]
  rw [e9]
  refine pp_after C hS hl (vx_runSX (hh := mj.hh) (As := As.map (pp_v g)) ⟨C.1, C.2.1, C.2.2.1, C.2.2.2.1, C.2.2.2.2.1⟩ hM.2 ⟨⟨rfl, rfl, hR.1, ?_, pp_words C hok, by rw [hcw]; exact List.mem_cons_self⟩, by rw [← hcw]; exact C.2.2.2.2.1 _ hok.2.2.1, C.2.2.2.2.1 _ hok.2.2.2.1, hok.2.2.2.2.1, pp_np hok, C.2.2.2.2.1 _ hlk, C.2.2.2.2.1 _ hsel1⟩ ⟨pp_blind g _ w, pp_pre C hP hS As⟩ rfl (by rw [List.length_map]; exact hlen) hl.1 rfl (pp_rest g hst) hd ⟨by omega, by omega⟩) h1 h2 hk
  show 8 + (mj.nL + 11) + (40 * h + 200) ≤ _
  have := hR.2
  omega
theorem pr_callI {idx b : Nat} {As : List Value} {P : pp_R → pp_W → Prop} (hd : decode mi.by_ pc = .ok (.invokespecial idx, 3)) (hlk : Cond.methodLink mi.y.cls idx mj.y ∈ pp_T) (hkd : mj.kd = 2) (hh : mj.hh = []) (hlen : As.length = mj.np) (hR : pp_big R h) (hc : cs.1 + mj.mc ≤ R.cells) (hs : cs.2 + mj.ms ≤ R.slots) (hst : st.length ≤ 4)
    (hM : pp_MW g h mj (.ref b :: As) w P) (hk : ∀ r w, P r w → pp_K1 g R mi Z (cs.1 + mj.mc, cs.2 + mj.ms) pc L st r w) : pp_ATc g R mi Z cs pc L (As.reverse ++ .ref b :: st) w := by
  intro t C H locs ls cells slots hP hS hl h1 h2
  have hok := hM.1
  obtain ⟨hnm, hsel1, hret⟩ : mj.y.name = "<init>" ∧ Cond.instanceMethod mj.y ∈ pp_T ∧ mj.ret = none := by
    rcases hok.2.2.2.2.2.2.1 with ⟨h, -⟩ | ⟨h, -⟩ | ⟨-, h⟩
    · rw [hkd] at h; cases h
    · rw [hkd] at h; cases h
    · exact h
  have e9 : (As.reverse ++ .ref b :: st).map (pp_v g) = (As.map (pp_v g)).reverse ++ .ref (pp_ad g b) :: st.map (pp_v g) := by
    rw [List.map_append, List.map_reverse]; rfl
  rw [e9]
  have hB := pp_callB C hok hh hR hlk
  rw [hret] at hB
  refine pp_after C hS hl (vx_runI (As := As.map (pp_v g)) (b := pp_ad g b) ⟨C.1, C.2.1, C.2.2.1, C.2.2.2.1, C.2.2.2.2.1⟩ hM.2 ⟨hB, hnm, C.2.2.2.2.1 _ hsel1⟩ ⟨pp_blind g _ w, pp_pre C hP hS (.ref b :: As)⟩ rfl (by rw [List.length_map]; exact hlen) hl.1 rfl (pp_rest g hst) hd ⟨by omega, by omega⟩) h1 h2 hk
/-- the nest mate's pairOf -/
theorem pr_callN {As : List Value} {P : pp_R → pp_W → Prop} (hown : mi.y.cls = RX0) (hmj : mj.y = yX8_pairOf) (hd : decode mi.by_ pc = .ok (.invokestatic 19, 3)) (hkd : mj.kd = 0) (hh : mj.hh = []) (hlen : As.length = mj.np) (hR : pp_big R h) (hc : cs.1 + mj.mc ≤ R.cells) (hs : cs.2 + mj.ms ≤ R.slots) (hst : st.length ≤ 4)
    (hM : pp_MW g h mj As w P) (hk : ∀ r w, P r w → pp_K1 g R mi Z (cs.1 + mj.mc, cs.2 + mj.ms) pc L st r w) : pp_ATc g R mi Z cs pc L (As.reverse ++ st) w := by
  intro t C H locs ls cells slots hP hS hl h1 h2
  have hok := hM.1
  have hcw : pp_cw mj = .code mj.y mj.by_ mj.nL mj.ret := if_pos hh
  have hn := hok.2.1
  have hsel1 : Cond.static mj.y ∈ pp_T := by
    rcases hok.2.2.2.2.2.2.1 with ⟨-, h⟩ | ⟨h, -⟩ | ⟨h, -⟩
    · exact h
    · rw [hkd] at h; cases h
    · rw [hkd] at h; cases h
  have e9 : (As.reverse ++ st).map (pp_v g) = (As.map (pp_v g)).reverse ++ st.map (pp_v g) := by
    rw [List.map_append, List.map_reverse]
  rw [e9]
  have hnest : (Cond.methodLinkNest mi.y.cls 19 mj.y RX8).before t.args t.s = true := by
    rw [hown, hmj]
    exact va_Nw.use rfl C.2.2.2.2.2.2.2.2.2.2.1.2.2.2.2.2.2.1
  refine pp_after C hS hl (vx_runSN (host := RX8) (As := As.map (pp_v g)) ⟨C.1, C.2.1, C.2.2.1, C.2.2.2.1, C.2.2.2.2.1⟩ hM.2 ⟨⟨⟨rfl, rfl, hR.1, ?_, pp_words C hok, by rw [hcw]; exact List.mem_cons_self⟩, by rw [← hcw]; exact C.2.2.2.2.1 _ hok.2.2.1, C.2.2.2.2.1 _ hok.2.2.2.1, hok.2.2.2.2.1, pp_np hok, hnest⟩, C.2.2.2.2.1 _ hsel1, trivial⟩ ⟨pp_blind g _ w, pp_pre C hP hS As⟩ rfl (by rw [List.length_map]; exact hlen) hl.1 rfl (pp_rest g hst) hd ⟨by omega, by omega⟩) h1 h2 hk
  show 8 + (mj.nL + 11) + (40 * h + 200) ≤ _
  have := hR.2
  omega
end Calls
end
section
/-! THE ENGINE, 8: a method's ends and its entry -/
section Ends
variable {g : pp_G} {R : Room} {mi : pp_MI} {P : pp_R → pp_W → Prop} {cs : Nat × Nat} {pc h : Nat} {L : List (Nat × Value)} {st : List Value} {w : pp_W}
theorem pp_SF {s t : State} {H : Heap} {locs : List Loc} (hS : va_S (pp_A g) s.heap H locs) (h1 : H.size ≤ t.heap.size) (h2 : ∀ q : Nat, q < H.size → t.heap[q]? = H[q]?) : va_F (pp_A g) s t :=
  ⟨Nat.le_trans hS.1 h1, fun q hq hA => (h2 q (Nat.lt_of_lt_of_le hq hS.1)).trans (hS.2.1 q hq hA)⟩
theorem pe_vret (hd : decode mi.by_ pc = .ok (.return_, 1)) (hr : mi.ret = none) (hc : cs.1 ≤ mi.mc) (hs : cs.2 ≤ mi.ms) (hP : P (.inl none) w) : pp_ATc g R mi (pp_Z g mi P) cs pc L [] w :=
  fun t C H locs ls cells slots hB hS hl h1 h2 => W.widen (k := mi.mc) (n := mi.ms) (Nat.le_trans h1 hc) (Nat.le_trans h2 hs) (vx_ret (W.vret C.1 C.2.1 (C.2.2.2.2.2.1.trans hr) (fun u hu hW => ⟨none, w, rfl, hP, by rw [hu]; exact hB, pp_SF hS (by rw [hu]; exact Nat.le_refl _) (fun q _ => by rw [hu])⟩) hS.2.2 hd C.2.2.2.2.2.2.1))
theorem pe_iret {x : Int32} {ty : FieldType} (hd : decode mi.by_ pc = .ok (.ireturn, 1)) (hr : mi.ret = some ty) (hn : narrow ty (.int x) = .int x) (hc : cs.1 ≤ mi.mc) (hs : cs.2 ≤ mi.ms) (hP : P (.inl (some (.int x))) w) : pp_ATc g R mi (pp_Z g mi P) cs pc L [.int x] w :=
  fun t C H locs ls cells slots hB hS hl h1 h2 => W.widen (k := mi.mc) (n := mi.ms) (Nat.le_trans h1 hc) (Nat.le_trans h2 hs) (vx_ret (W.zret C.1 C.2.1 (C.2.2.2.2.2.1.trans hr) hn (fun u hu hW => ⟨some (.int x), w, rfl, hP, by rw [hu]; exact hB, pp_SF hS (by rw [hu]; exact Nat.le_refl _) (fun q _ => by rw [hu])⟩) hS.2.2 hd C.2.2.2.2.2.2.1))
theorem pe_lret {x : Int64} (hd : decode mi.by_ pc = .ok (.lreturn, 1)) (hr : mi.ret = some .long) (hc : cs.1 ≤ mi.mc) (hs : cs.2 ≤ mi.ms) (hP : P (.inl (some (.long x))) w) : pp_ATc g R mi (pp_Z g mi P) cs pc L [.long x] w :=
  fun t C H locs ls cells slots hB hS hl h1 h2 => W.widen (k := mi.mc) (n := mi.ms) (Nat.le_trans h1 hc) (Nat.le_trans h2 hs) (vx_ret (W.lret C.1 C.2.1 (C.2.2.2.2.2.1.trans hr) (fun u hu hW => ⟨some (.long x), w, rfl, hP, by rw [hu]; exact hB, pp_SF hS (by rw [hu]; exact Nat.le_refl _) (fun q _ => by rw [hu])⟩) hS.2.2 hd C.2.2.2.2.2.2.1))
/-- not caught here -/
theorem pe_out {E : String} (hh : mi.hh = []) (hc : cs.1 ≤ mi.mc) (hs : cs.2 ≤ mi.ms) (hP : P (.inr E) w) : pp_XT g R mi (pp_Z g mi P) cs pc L st w E :=
  fun t C H locs ls cells slots hB hS hl h1 h2 q ce hce hv hcl => vx_out (fun x hx => by rw [C.2.2.2.2.2.2.2.2.1, hh] at hx; cases hx) C.2.2.2.2.2.2.1 hce hv hcl
    (fun u hu hvm => ⟨w, hP, by rw [hu]; exact hB, pp_SF hS (by rw [hu]; exact Nat.le_refl _) (fun q _ => by rw [hu])⟩) hS.2.2 (Nat.le_trans h1 hc) (Nat.le_trans h2 hs)
/-- the three exceptions: class, the number of its class in the pool of PatentPool, of its constructor -/
def pp_exs : List (String × Nat × Nat) := [("java/lang/IllegalArgumentException", 74, 78), ("java/lang/IllegalStateException", 229, 233), ("java/lang/IndexOutOfBoundsException", 249, 253)]
def pp_exn : List String := ["java/lang/RuntimeException", "java/lang/Exception"]
theorem pp_exA : ∀ q ∈ pp_exs, ∀ w ∈ Cond.classLink RX8 q.2.1 q.1 :: Cond.initialized q.1 :: vx_atS RX8 q.2.2 q.1 pp_exn, w ∈ pp_T := by
  have : (pp_exs.flatMap (fun q => Cond.classLink RX8 q.2.1 q.1 :: Cond.initialized q.1 :: vx_atS RX8 q.2.2 q.1 pp_exn)).all (fun w => decide (w ∈ lw_tbl) && pp_ok w) = true := by decide +kernel
  intro q hq w hw
  exact pp_sub this w (List.mem_flatMap.mpr ⟨q, hq, hw⟩)
theorem pp_exB : ∀ q ∈ pp_exs, ∀ w ∈ Cond.classLink RX8 q.2.1 q.1 :: Cond.initialized q.1 :: vx_atS RX8 q.2.2 q.1 pp_exn, vx_ot w = true := by decide +kernel
theorem pp_exC : ∀ q ∈ pp_exs, Bundle.fit q.1 = true := by decide +kernel
theorem pp_exD : ∀ n ∈ pp_exn, Bundle.fit n = true := by decide +kernel
/-- throw new E("text") -/
theorem pe_throw {is : Nat} {tx : String} {q : String × Nat × Nat} (hown : mi.y.cls = RX8) (hq : q ∈ pp_exs) (hm : (is, tx) ∈ pp_msgs) (hh : mi.hh = []) (hc : cs.1 + 1 ≤ mi.mc) (hs : cs.2 + 6 ≤ mi.ms)
    (d0 : decode mi.by_ pc = .ok (.new q.2.1, 3)) (d3 : decode mi.by_ (pc + 3) = .ok (.dup, 1)) (d4 : decode mi.by_ (pc + 4) = .ok (.ldc is, 2)) (d6 : decode mi.by_ (pc + 6) = .ok (.invokespecial q.2.2, 3)) (d9 : decode mi.by_ (pc + 9) = .ok (.athrow, 1)) (hst : st.length ≤ 4)
    (hP : ∀ k : Nat, P (.inr q.1) (w.1 ++ List.replicate k (15, 0), w.2)) : pp_ATc g (pp_room h mi) mi (pp_Z g mi P) cs pc L st w := by
  intro t C H locs ls cells slots hB hS hl h1 h2
  obtain ⟨hx, hb, hml, hown9, hts, hret, hlocks, hname, htab, hK, hE, hb0, htr⟩ := C
  obtain ⟨sa, hsa⟩ := hE.2.2.1 _ hm
  have hcat := pp_cat_le g st
  rw [hown] at hown9
  exact vx_throwS (A := pp_A g) (names := pp_exn) (own := RX8) hx hb htr.1 hown9 (pp_exC q hq) pp_exD (hts _ (pp_exA q hq _ List.mem_cons_self)) (hts _ (pp_exA q hq _ (List.mem_cons_of_mem _ List.mem_cons_self))) hsa (fun w hw => hts _ (pp_exA q hq w (List.mem_cons_of_mem _ (List.mem_cons_of_mem _ hw)))) (pp_exB q hq) hE.2.2.2.1 hE.2.2.2.2.1 hS (by rw [hml]; exact hl.1) d0 d3 d4 d6 d9
    (fun x hx => by rw [htab, hh] at hx; cases hx) (by show 5 < h + 8; omega) (by show _ + (13 * (2 + 1) + 43) ≤ 40 * h + 200; omega) (by show cells + 1 ≤ mi.mc; omega) (by show slots + 6 ≤ mi.ms; omega) hlocks
    (fun u hvm z o => ⟨_, hP _, hB.grow z o, pp_SF hS z o⟩) hS.2.2 (by omega) (by omega)
theorem pe_throwW {is : Nat} {tx : String} {q : String × Nat × Nat} (hown : mi.y.cls = RX8) (hq : q ∈ pp_exs) (hm : (is, tx) ∈ pp_msgs) (hh : mi.hh = []) (hc : cs.1 + 1 ≤ mi.mc) (hs : cs.2 + 6 ≤ mi.ms)
    (d0 : decode mi.by_ pc = .ok (.new q.2.1, 3)) (d3 : decode mi.by_ (pc + 3) = .ok (.dup, 1)) (d4 : decode mi.by_ (pc + 4) = .ok (.ldc_w is, 3)) (d6 : decode mi.by_ (pc + 7) = .ok (.invokespecial q.2.2, 3)) (d9 : decode mi.by_ (pc + 10) = .ok (.athrow, 1)) (hst : st.length ≤ 4)
    (hP : ∀ k : Nat, P (.inr q.1) (w.1 ++ List.replicate k (15, 0), w.2)) : pp_ATc g (pp_room h mi) mi (pp_Z g mi P) cs pc L st w := by
  intro t C H locs ls cells slots hB hS hl h1 h2
  obtain ⟨hx, hb, hml, hown9, hts, hret, hlocks, hname, htab, hK, hE, hb0, htr⟩ := C
  obtain ⟨sa, hsa⟩ := hE.2.2.1 _ hm
  have hcat := pp_cat_le g st
  rw [hown] at hown9
  exact vx_throwSW (A := pp_A g) (names := pp_exn) (own := RX8) hx hb htr.1 hown9 (pp_exC q hq) pp_exD (hts _ (pp_exA q hq _ List.mem_cons_self)) (hts _ (pp_exA q hq _ (List.mem_cons_of_mem _ List.mem_cons_self))) hsa (fun w hw => hts _ (pp_exA q hq w (List.mem_cons_of_mem _ (List.mem_cons_of_mem _ hw)))) (pp_exB q hq) hE.2.2.2.1 hE.2.2.2.2.1 hS (by rw [hml]; exact hl.1) d0 d3 d4 d6 d9
    (fun x hx => by rw [htab, hh] at hx; cases hx) (by show 5 < h + 8; omega) (by show _ + (13 * (2 + 1) + 43) ≤ 40 * h + 200; omega) (by show cells + 1 ≤ mi.mc; omega) (by show slots + 6 ≤ mi.ms; omega) hlocks
    (fun u hvm z o => ⟨_, hP _, hB.grow z o, pp_SF hS z o⟩) hS.2.2 (by omega) (by omega)
-- the entry
theorem pp_args_eq (g : pp_G) : ∀ (i : Nat) (av : List Value), lv_args i (av.map (pp_v g)) = pp_ls g (lv_args i av) := by
  intro i av
  induction av generalizing i with
  | nil => rfl
  | cons v av ih =>
    simp only [List.map_cons, lv_args, pp_v_cat, ih, pp_ls]
theorem pp_sl_len (g : pp_G) : ∀ (av : List Value), (lg_sl (av.map (pp_v g))).length = (lg_sl av).length := by
  intro av
  induction av with
  | nil => rfl
  | cons v av ih =>
    simp only [lg_sl, List.map_cons, List.flatMap_cons, List.length_append, pp_v_cat] at ih ⊢
    rw [ih]
    split <;> rfl
theorem pp_enter {av : List Value} (hok : pp_MIok mi) (hh : mi.hh = []) (hl : (lg_sl av).length ≤ mi.nL) (k : pp_ATc g (pp_room h mi) mi (pp_Z g mi P) (0, 0) 0 (lv_args 0 av) [] w) : pp_MW g h mi av w P := by
  have hcw : pp_cw mi = .code mi.y mi.by_ mi.nL mi.ret := if_pos hh
  refine ⟨hok, ?_⟩
  rw [hcw]
  refine vx_ofW (cc := mi.by_) (maxL := mi.nL) (ret := mi.ret) hok.1 rfl ?_
  intro p e s m args below meth c s₁ B hml ht hP
  obtain ⟨rfl, hB, hK, hE, htr⟩ := hP
  have hts : ∀ w ∈ pp_T, w.before (av.map (pp_v g)).toArray s = true := fun w hw => atoms_spec (ws := Cond.code mi.y mi.by_ mi.nL mi.ret :: pp_T) B.pre w (List.mem_cons_of_mem _ hw)
  have hent := lv_entry (av.map (pp_v g)) (n := mi.nL) (by rw [pp_sl_len]; exact hl)
  rw [lg_entry_eq]
  rw [pp_args_eq] at hent
  refine k (p, e, s, m, (av.map (pp_v g)).toArray, below, meth, c) ⟨B.exec, B.bytes, hml, findClass_of_methodNamed B.named, hts, B.returns, B.notSynchronized, (name_of_methodNamed B.named B.method).1, ?_, hK, hE, ?_, htr, fun q => absurd q hok.2.2.2.2.2.2.2⟩ s.heap [] _ 0 0 hB va_S.rf hent (Nat.le_refl _) (Nat.le_refl _)
  · show c.exceptionTable.toList = tableOf mi.hh
    rw [hh]
    exact List.eq_nil_iff_forall_not_mem.mpr fun x hx => ht x hx
  · show pp_b g ≤ s.heap.size
    rw [hB.2.1]
    exact Nat.le_add_right _ _
end Ends
end
section
/-! THE ENGINE, 9: what an instruction asks -/
abbrev pp_Lk : Type := (Nat × Nat × List Nat) ⊕ (pp_MI × Nat × Nat × List Nat) ⊕ (Value × Nat)
abbrev pp_St : Type := List (Nat × Value) → List Value → pp_W → Prop
def pp_i (st : List Value) (k : Int32 → List Value → Prop) : Prop := match st with
  | .int x :: st => k x st
  | _ => False
def pp_j (st : List Value) (k : Int64 → List Value → Prop) : Prop := match st with
  | .long x :: st => k x st
  | _ => False
def pp_r (st : List Value) (k : Nat → List Value → Prop) : Prop := match st with
  | .ref x :: st => k x st
  | _ => False
def pp_q (st : List Value) (k : Option Nat → List Value → Prop) : Prop := match st with
  | .ref x :: st => k (some x) st
  | .null :: st => k none st
  | _ => False
def pp_1 (st : List Value) (k : Value → List Value → Prop) : Prop := match st with
  | v :: st => pp_wide v = false ∧ k v st
  | _ => False
def pp_2 (st : List Value) (k : Value → List Value → Prop) : Prop := match st with
  | v :: st => pp_wide v = true ∧ k v st
  | _ => False
def pp_li (L : List (Nat × Value)) (i : Nat) (k : Int32 → Prop) : Prop := match L.lookup i with
  | some (.int x) => k x
  | _ => False
def pp_lj (L : List (Nat × Value)) (i : Nat) (k : Int64 → Prop) : Prop := match L.lookup i with
  | some (.long x) => k x
  | _ => False
def pp_la (L : List (Nat × Value)) (i : Nat) (k : Value → Prop) : Prop := match L.lookup i with
  | some (.ref x) => k (.ref x)
  | some .null => k .null
  | _ => False
def pp_in (w : pp_W) (a t : Nat) (j : Int32) (k : Prop) : Prop := match w.1[a]? with
  | some q => q.1 = t ∧ vp_in j q.2 ∧ k
  | none => False
def pp_al (w : pp_W) (a : Nat) (k : Nat → Prop) : Prop := match w.1[a]? with
  | some q => (10 ≤ q.1 ∧ q.1 ≤ 14) ∧ k q.2
  | none => False
def pp_args : List Nat → List Value → List Value → (List Value → List Value → Prop) → Prop
  | [], acc, st, k => k acc st
  | _ :: l, acc, v :: st, k => pp_args l (v :: acc) st k
  | _ :: _, _, [], _ => False
def pp_cond (c : ClassFile.Cond) (x y : Int32) : Prop := match c with
  | .eq => x = y
  | .ne => ¬ x = y
  | .lt => x < y
  | .ge => y ≤ x
  | .gt => y < x
  | .le => x ≤ y
def pp_ncond (c : ClassFile.Cond) (x y : Int32) : Prop := match c with
  | .eq => ¬ x = y
  | .ne => x = y
  | .lt => ¬ x < y
  | .ge => ¬ y ≤ x
  | .gt => ¬ y < x
  | .le => ¬ x ≤ y
def pp_sw (X : Nat → Prop) (x : Int32) : Int → List Nat → Prop
  | _, [] => True
  | lo, t :: ts => (x = Int32.ofInt lo → X t) ∧ pp_sw X x (lo + 1) ts
def pp_rok (r : Option FieldType) (x : Int32) : Prop := match r with
  | some .int => True
  | some .boolean => x = 0 ∨ x = 1
  | some t => narrow t (.int x) = .int x
  | none => False
def pp_kr (K : pp_St) (Y : String → pp_W → Prop) (L : List (Nat × Value)) (st : List Value) : pp_R → pp_W → Prop := fun r w => match r with
  | .inl none => K L st w
  | .inl (some v) => K L (v :: st) w
  | .inr E => Y E w
def pp_sp (g : pp_G) (h : Nat) (ret : Option FieldType) (P : pp_R → pp_W → Prop) (Y : String → pp_W → Prop) (X : Nat → pp_St) (i : Instr) (lk : pp_Lk) (L : List (Nat × Value)) (st : List Value) (w : pp_W) (K : pp_St) : Prop := match i with
  | .aconst_null => K L (.null :: st) w
  | .iconst _ | .bipush _ | .sipush _ | .lconst _ | .ldc _ | .ldc_w _ | .ldc2_w _ => match lk with
    | .inr (.inr (v, _)) => K L (v :: st) w
    | _ => False
  | .iload k => pp_li L k (fun x => K L (.int x :: st) w)
  | .iload_n k => pp_li L k.val (fun x => K L (.int x :: st) w)
  | .lload k => pp_lj L k (fun x => K L (.long x :: st) w)
  | .lload_n k => pp_lj L k.val (fun x => K L (.long x :: st) w)
  | .aload k => pp_la L k (fun v => K L (v :: st) w)
  | .aload_n k => pp_la L k.val (fun v => K L (v :: st) w)
  | .istore k => pp_i st (fun x st => K (pp_put1 k (.int x) L) st w)
  | .istore_n k => pp_i st (fun x st => K (pp_put1 k.val (.int x) L) st w)
  | .lstore k => pp_j st (fun x st => K (pp_put2 k (.long x) L) st w)
  | .lstore_n k => pp_j st (fun x st => K (pp_put2 k.val (.long x) L) st w)
  | .astore k => pp_q st (fun x st => K (pp_put1 k (pp_rf x) L) st w)
  | .astore_n k => pp_q st (fun x st => K (pp_put1 k.val (pp_rf x) L) st w)
  | .iinc k _ => match lk with
    | .inr (.inr (.int c, _)) => pp_li L k (fun x => K (pp_put1 k (.int (x + c)) L) st w)
    | _ => False
  | .iadd => pp_i st (fun y st => pp_i st (fun x st => K L (.int (x + y) :: st) w))
  | .isub => pp_i st (fun y st => pp_i st (fun x st => K L (.int (x - y) :: st) w))
  | .imul => pp_i st (fun y st => pp_i st (fun x st => K L (.int (x * y) :: st) w))
  | .iand => pp_i st (fun y st => pp_i st (fun x st => K L (.int (x &&& y) :: st) w))
  | .ior => pp_i st (fun y st => pp_i st (fun x st => K L (.int (x ||| y) :: st) w))
  | .ixor => pp_i st (fun y st => pp_i st (fun x st => K L (.int (x ^^^ y) :: st) w))
  | .ishl => pp_i st (fun y st => pp_i st (fun x st => K L (.int (x <<< (y &&& 31)) :: st) w))
  | .ishr => pp_i st (fun y st => pp_i st (fun x st => K L (.int (x >>> (y &&& 31)) :: st) w))
  | .iushr => pp_i st (fun y st => pp_i st (fun x st => K L (.int (x.toUInt32 >>> (y.toUInt32 &&& Int32.toUInt32 31)).toInt32 :: st) w))
  | .idiv => pp_i st (fun y st => pp_i st (fun x st => ¬ y = 0 ∧ K L (.int (x / y) :: st) w))
  | .ladd => pp_j st (fun y st => pp_j st (fun x st => K L (.long (x + y) :: st) w))
  | .lsub => pp_j st (fun y st => pp_j st (fun x st => K L (.long (x - y) :: st) w))
  | .lmul => pp_j st (fun y st => pp_j st (fun x st => K L (.long (x * y) :: st) w))
  | .land => pp_j st (fun y st => pp_j st (fun x st => K L (.long (x &&& y) :: st) w))
  | .lor => pp_j st (fun y st => pp_j st (fun x st => K L (.long (x ||| y) :: st) w))
  | .lxor => pp_j st (fun y st => pp_j st (fun x st => K L (.long (x ^^^ y) :: st) w))
  | .ldiv => pp_j st (fun y st => pp_j st (fun x st => ¬ y = 0 ∧ K L (.long (x / y) :: st) w))
  | .lrem => pp_j st (fun y st => pp_j st (fun x st => ¬ y = 0 ∧ K L (.long (x - x / y * y) :: st) w))
  | .lcmp => pp_j st (fun y st => pp_j st (fun x st => K L (.int (lg_cmp x y) :: st) w))
  | .lshl => pp_i st (fun y st => pp_j st (fun x st => K L (.long (x <<< (y.toInt64 &&& 63)) :: st) w))
  | .i2l => pp_i st (fun x st => K L (.long x.toInt64 :: st) w)
  | .i2b => pp_i st (fun x st => K L (.int x.toInt8.toInt32 :: st) w)
  | .l2i => pp_j st (fun x st => K L (.int x.toInt32 :: st) w)
  | .dup => pp_1 st (fun v st => K L (v :: v :: st) w)
  | .pop => pp_1 st (fun _ st => K L st w)
  | .pop2 => pp_2 st (fun _ st => K L st w)
  | .dup2 => pp_1 st (fun v st => pp_1 st (fun u st => K L (v :: u :: v :: u :: st) w))
  | .ifCond c _ => match lk with
    | .inl (t, _, _) => pp_i st (fun x st => (pp_cond c x 0 → X t L st w) ∧ (pp_ncond c x 0 → K L st w))
    | _ => False
  | .if_icmp c _ => match lk with
    | .inl (t, _, _) => pp_i st (fun y st => pp_i st (fun x st => (pp_cond c x y → X t L st w) ∧ (pp_ncond c x y → K L st w)))
    | _ => False
  | .goto _ => match lk with
    | .inl (t, _, _) => X t L st w
    | _ => False
  | .ifnull _ => match lk with
    | .inl (t, _, _) => pp_q st (fun x st => match x with
      | none => X t L st w
      | some _ => K L st w)
    | _ => False
  | .ifnonnull _ => match lk with
    | .inl (t, _, _) => pp_q st (fun x st => match x with
      | none => K L st w
      | some _ => X t L st w)
    | _ => False
  | .tableswitch _ lo hi _ => match lk with
    | .inl (d, _, ts) => pp_i st (fun x st => pp_sw (fun t => X t L st w) x lo ts ∧ ((x.toInt < lo ∨ hi < x.toInt) → X d L st w))
    | _ => False
  | .getfield _ => match lk with
    | .inl (ci, k, 0 :: _) => pp_r st (fun a st => w.1[a]? = some (ci, 0) ∧ K L (.int (w.2.1 a k) :: st) w)
    | .inl (ci, k, 1 :: _) => pp_r st (fun a st => w.1[a]? = some (ci, 0) ∧ K L (.long (w.2.2.1 a k) :: st) w)
    | .inl (ci, k, 2 :: _) => pp_r st (fun a st => w.1[a]? = some (ci, 0) ∧ K L (pp_rf (w.2.2.2 a k) :: st) w)
    | .inl (_, _, 3 :: _) => pp_r st (fun a st => (1 ≤ a ∧ a ≤ 15) ∧ K L (.ref (a + 15) :: st) w)
    | .inl (_, _, 4 :: _) => pp_r st (fun a st => (1 ≤ a ∧ a ≤ 15) ∧ K L (.int 0 :: st) w)
    | _ => False
  | .getstatic _ => match lk with
    | .inl (0, _, _) => K L (.int 1 :: st) w
    | .inl (1, _, _) => K L (.null :: st) w ∧ K L (.ref 31 :: st) w
    | _ => False
  | .i2c => pp_i st (fun x st => K L (.int (x.toUInt32 % 65536).toInt32 :: st) w)
  | .putfield _ => match lk with
    | .inl (ci, k, 0 :: _) => pp_i st (fun x st => pp_r st (fun a st => w.1[a]? = some (ci, 0) ∧ K L st (w.1, pp_s w.2.1 a (va_up (w.2.1 a) k x), w.2.2)))
    | .inl (ci, k, 1 :: _) => pp_j st (fun x st => pp_r st (fun a st => w.1[a]? = some (ci, 0) ∧ K L st (w.1, w.2.1, pp_s w.2.2.1 a (va_up (w.2.2.1 a) k x), w.2.2.2)))
    | .inl (ci, k, 2 :: _) => pp_q st (fun x st => pp_r st (fun a st => w.1[a]? = some (ci, 0) ∧ K L st (w.1, w.2.1, w.2.2.1, pp_s w.2.2.2 a (va_up (w.2.2.2 a) k x))))
    | _ => False
  | .arraylength => match lk with
    | .inl (0, _, _) => pp_r st (fun a st => pp_al w a (fun n => K L (.int (Int32.ofNat n) :: st) w))
    | .inl (1, _, _) => pp_r st (fun a st => a = 0 ∧ K L (.int (Int32.ofNat (pp_sL g)) :: st) w)
    | .inl (2, _, _) => pp_r st (fun a st => (16 ≤ a ∧ a ≤ 30) ∧ K L (.int (Int32.ofNat (pp_txt.getD (a - 16) []).length) :: st) w)
    | _ => False
  | .iaload => match lk with
    | .inl (0, _, _) => pp_i st (fun j st => pp_r st (fun a st => pp_in w a 10 j (K L (.int (w.2.1 a j.toNatClampNeg) :: st) w)))
    | .inl (1, _, _) => pp_i st (fun j st => pp_r st (fun a st => a = 0 ∧ vp_in j (pp_sL g) ∧ K L (.int (pp_sx g j.toNatClampNeg) :: st) w))
    | _ => False
  | .baload => match lk with
    | .inl (0, _, _) => pp_i st (fun j st => pp_r st (fun a st => pp_in w a 11 j (K L (.int (w.2.1 a j.toNatClampNeg) :: st) w)))
    | .inl (1, _, _) => pp_i st (fun j st => pp_r st (fun a st => pp_in w a 12 j (K L (.int (w.2.1 a j.toNatClampNeg) :: st) w)))
    | .inl (2, _, _) => pp_i st (fun j st => pp_r st (fun a st => (16 ≤ a ∧ a ≤ 30) ∧ vp_in j (pp_txt.getD (a - 16) []).length ∧ K L (.int ((pp_txt.getD (a - 16) []).getD j.toNatClampNeg 0) :: st) w))
    | _ => False
  | .laload => pp_i st (fun j st => pp_r st (fun a st => pp_in w a 13 j (K L (.long (w.2.2.1 a j.toNatClampNeg) :: st) w)))
  | .aaload => pp_i st (fun j st => pp_r st (fun a st => pp_in w a 14 j (K L (pp_rf (w.2.2.2 a j.toNatClampNeg) :: st) w)))
  | .iastore => pp_i st (fun x st => pp_i st (fun j st => pp_r st (fun a st => pp_in w a 10 j (K L st (w.1, pp_s w.2.1 a (va_up (w.2.1 a) j.toNatClampNeg x), w.2.2)))))
  | .bastore => match lk with
    | .inl (0, _, _) => pp_i st (fun x st => pp_i st (fun j st => pp_r st (fun a st => pp_in w a 11 j (K L st (w.1, pp_s w.2.1 a (va_up (w.2.1 a) j.toNatClampNeg x.toInt8.toInt32), w.2.2)))))
    | .inl (1, _, _) => pp_i st (fun x st => pp_i st (fun j st => pp_r st (fun a st => pp_in w a 12 j ((x = 0 ∨ x = 1) ∧ K L st (w.1, pp_s w.2.1 a (va_up (w.2.1 a) j.toNatClampNeg x), w.2.2)))))
    | _ => False
  | .lastore => pp_j st (fun x st => pp_i st (fun j st => pp_r st (fun a st => pp_in w a 13 j (K L st (w.1, w.2.1, pp_s w.2.2.1 a (va_up (w.2.2.1 a) j.toNatClampNeg x), w.2.2.2)))))
  | .aastore => pp_q st (fun x st => pp_i st (fun j st => pp_r st (fun a st => pp_in w a 14 j ((∀ b, x = some b → w.1[b]? = some (4, 0)) ∧ K L st (w.1, w.2.1, w.2.2.1, pp_s w.2.2.2 a (va_up (w.2.2.2 a) j.toNatClampNeg x))))))
  | .new _ => match lk with
    | .inl (ci, _, _) => K L (.ref w.1.length :: st) (pp_nw w (ci, 0))
    | _ => False
  | .newarray _ => match lk with
    | .inl (t, n, _) => pp_i st (fun x st => x = Int32.ofNat n ∧ K L (.ref w.1.length :: st) (pp_nw w (t, n)))
    | _ => False
  | .anewarray _ => match lk with
    | .inl (_, n, _) => pp_i st (fun x st => x = Int32.ofNat n ∧ K L (.ref w.1.length :: st) (pp_nw w (14, n)))
    | _ => False
  | .invokespecial _ => match lk with
    | .inl _ => pp_r st (fun _ st => st.length ≤ 4 ∧ K L st w)
    | .inr (.inl (mj, _, _, l)) => pp_args l [] st (fun av st => st.length ≤ 4 ∧ pp_r av (fun _ _ => True) ∧ pp_MW g h mj av w (pp_kr K Y L st))
    | _ => False
  | .invokevirtual _ => match lk with
    | .inr (.inl (mj, ci, _, 0 :: l)) => pp_args (0 :: l) [] st (fun av st => st.length ≤ 4 ∧ pp_r av (fun b _ => w.1[b]? = some (ci, 0)) ∧ pp_MW g h mj av w (pp_kr K Y L st))
    | .inr (.inl (mj, _, _, 1 :: l)) => pp_args (1 :: l) [] st (fun av st => st.length ≤ 4 ∧ pp_r av (fun b _ => 1 ≤ b ∧ b ≤ 15) ∧ pp_MW g h mj av w (pp_kr K Y L st))
    | _ => False
  | .invokestatic _ => match lk with
    | .inl (0, _, _) => pp_i st (fun n st => pp_i st (fun dp st => pp_r st (fun b st => pp_i st (fun sp st => pp_r st (fun a st => st.length ≤ 4 ∧ ¬ sp < 0 ∧ ¬ dp < 0 ∧ ¬ n < 0 ∧ pp_al w a (fun n0 => sp.toNatClampNeg + n.toNatClampNeg ≤ n0) ∧ pp_al w b (fun n1 => dp.toNatClampNeg + n.toNatClampNeg ≤ n1) ∧
        w.1[a]?.map Prod.fst = some 10 ∧ w.1[b]?.map Prod.fst = some 10 ∧ K L st (w.1, pp_s w.2.1 b (va_cpy (w.2.1 a) (w.2.1 b) sp.toNatClampNeg dp.toNatClampNeg n.toNatClampNeg), w.2.2))))))
    | .inl (1, _, _) => pp_i st (fun n st => pp_i st (fun dp st => pp_r st (fun b st => pp_i st (fun sp st => pp_r st (fun a st => st.length ≤ 4 ∧ ¬ sp < 0 ∧ ¬ dp < 0 ∧ ¬ n < 0 ∧ pp_al w a (fun n0 => sp.toNatClampNeg + n.toNatClampNeg ≤ n0) ∧ pp_al w b (fun n1 => dp.toNatClampNeg + n.toNatClampNeg ≤ n1) ∧
        w.1[a]?.map Prod.fst = some 13 ∧ w.1[b]?.map Prod.fst = some 13 ∧ K L st (w.1, w.2.1, pp_s w.2.2.1 b (va_cpy (w.2.2.1 a) (w.2.2.1 b) sp.toNatClampNeg dp.toNatClampNeg n.toNatClampNeg), w.2.2.2))))))
    | .inl (2, _, _) => pp_i st (fun y st => pp_i st (fun x st => st.length ≤ 4 ∧ K L (.int (if y < x then y else x) :: st) w))
    | .inl (3, _, _) => pp_i st (fun y st => pp_i st (fun x st => st.length ≤ 4 ∧ K L (.int (if x < y then y else x) :: st) w))
    | .inl (4, _, _) => pp_j st (fun y st => pp_j st (fun x st => st.length ≤ 4 ∧ K L (.long (if y < x then y else x) :: st) w))
    | .inr (.inl (mj, _, _, l)) => pp_args l [] st (fun av st => st.length ≤ 4 ∧ pp_MW g h mj av w (pp_kr K Y L st))
    | _ => False
  | .ireturn => match st with
    | [.int x] => pp_rok ret x ∧ P (.inl (some (.int x))) w
    | _ => False
  | .lreturn => match st with
    | [.long x] => P (.inl (some (.long x))) w
    | _ => False
  | .return_ => match st with
    | [] => P (.inl none) w
    | _ => False
  | .athrow => match lk with
    | .inl (e, _, _) => st.length ≤ 4 ∧ ∀ k : Nat, P (.inr ((pp_exs.getD e ("", 0, 0)).1)) (w.1 ++ List.replicate k (15, 0), w.2)
    | _ => False
  | _ => False
abbrev pp_Seg : Type := List (Instr × pp_Lk)
def pp_wp (g : pp_G) (h : Nat) (ret : Option FieldType) (P : pp_R → pp_W → Prop) (Y : String → pp_W → Prop) (X : Nat → pp_St) (e : Nat) : pp_Seg → pp_St
  | [] => fun L st w => X e L st w
  | q :: s => fun L st w => pp_sp g h ret P Y X q.1 q.2 L st w (pp_wp g h ret P Y X e s)
end
section
/-! THE ENGINE, 10: what is checked of a listing, by program -/
def pp_w (i : Nat) (w : Cond) : Bool := decide (lw_tbl[i]? = some w) && pp_ok w
theorem pp_w_in {i : Nat} {w : Cond} (h : pp_w i w = true) : w ∈ pp_T := by
  simp only [pp_w, Bool.and_eq_true, decide_eq_true_eq] at h
  exact pp_mem i h.1 h.2
def pp_len (i : Instr) (lk : pp_Lk) : Nat := match i with
  | .aload _ | .iload _ | .lload _ | .istore _ | .lstore _ | .astore _ | .bipush _ | .ldc _ | .newarray _ => 2
  | .sipush _ | .ldc_w _ | .ldc2_w _ | .iinc _ _ | .ifCond _ _ | .if_icmp _ _ | .goto _ | .ifnull _ | .ifnonnull _ | .getfield _ | .getstatic _ | .putfield _ | .new _ | .anewarray _ | .invokespecial _ | .invokevirtual _ | .invokestatic _ => 3
  | .tableswitch _ _ _ _ => match lk with
    | .inl (_, n, _) => n
    | _ => 1
  | .athrow => match lk with
    | .inl (_, _, 0 :: _) => 10
    | _ => 11
  | _ => 1
def pp_cs (i : Instr) (lk : pp_Lk) (c : Nat × Nat) : Nat × Nat := match i with
  | .new _ | .newarray _ | .anewarray _ => match lk with
    | .inl (_, n, _) => (c.1 + 1, c.2 + n)
    | _ => c
  | .invokespecial _ | .invokevirtual _ | .invokestatic _ => match lk with
    | .inr (.inl (mj, _, _, _)) => (c.1 + mj.mc, c.2 + mj.ms)
    | _ => c
  | _ => c
def pp_le (a b : Nat × Nat) : Bool := a.1.ble b.1 && a.2.ble b.2
theorem pp_le_1 {a b : Nat × Nat} (h : pp_le a b = true) : a.1 ≤ b.1 ∧ a.2 ≤ b.2 := by
  simp only [pp_le, Bool.and_eq_true] at h
  exact ⟨Nat.le_of_ble_eq_true h.1, Nat.le_of_ble_eq_true h.2⟩
def pp_tgt (mi : pp_MI) (pc : Nat) (c : Nat × Nat) (off : Int) (t : Nat) : Bool := decide ((pc : Int) + off = (t : Int)) && pp_le c (pp_cnt mi t)
def pp_fl (mi : pp_MI) (idx ci k t p : Nat) (put : Bool) : Bool := match pp_cl[ci]? with
  | some r => decide (k < r.2.2) && decide (pp_fk ci k = t) && pp_w p (.fieldLink mi.y.cls idx (r.2.1 k).1 (r.2.1 k).2.1 (r.2.1 k).2.2.1) && (!put || !(r.2.1 k).2.2.2 || (decide (mi.y.name = "<init>") && decide ((r.2.1 k).1 = mi.y.cls)))
  | none => false
def pp_atk (a : ArrayType) : Nat := match a with
  | .int => 10
  | .byte => 11
  | .boolean => 12
  | .long => 13
  | _ => 99
def pp_call (mi mj : pp_MI) (c : Nat × Nat) (idx p kd n : Nat) : Bool := decide (mj.kd = kd) && decide (n = mj.np) && pp_w p (.methodLink mi.y.cls idx mj.y) && pp_le (c.1 + mj.mc, c.2 + mj.ms) (mi.mc, mi.ms)
def pp_hok (mi : pp_MI) (pc : Nat) : Bool := mi.hh.all (fun q => q.1.ble pc && pc.blt q.2.1)
def pp_stt (mi : pp_MI) (pc : Nat) (c : Nat × Nat) (i : Instr) (lk : pp_Lk) : Bool := match i with
  | .iconst n => match lk with
    | .inr (.inr (.int v, _)) => decide (Int32.ofInt n = v)
    | _ => false
  | .bipush n => match lk with
    | .inr (.inr (.int v, _)) => decide ((Int8.ofInt n).toInt32 = v)
    | _ => false
  | .sipush n => match lk with
    | .inr (.inr (.int v, _)) => decide ((Int16.ofInt n).toInt32 = v)
    | _ => false
  | .lconst n => match lk with
    | .inr (.inr (.long v, _)) => decide (Int64.ofNat (n : Nat) = v)
    | _ => false
  | .ldc n => match lk with
    | .inr (.inr (.int v, p)) => pp_w p (.constant mi.y.cls n v)
    | .inr (.inr (.ref k, p)) => match pp_strs[p]? with
      | some q => decide (q.1 = mi.y.cls) && decide (q.2.1 = n) && decide (q.2.2.2 = k) && k.blt 64
      | none => false
    | _ => false
  | .ldc_w n => match lk with
    | .inr (.inr (.int v, p)) => pp_w p (.constant mi.y.cls n v)
    | _ => false
  | .ldc2_w n => match lk with
    | .inr (.inr (.long v, p)) => pp_w p (.constantLong mi.y.cls n v)
    | _ => false
  | .istore k | .astore k => k.blt mi.nL
  | .istore_n k | .astore_n k => k.val.blt mi.nL
  | .lstore k => (k + 1).blt mi.nL
  | .lstore_n k => (k.val + 1).blt mi.nL
  | .iinc k n => match lk with
    | .inr (.inr (.int v, _)) => decide (Int32.ofInt n = v) && k.blt mi.nL
    | _ => false
  | .ifCond _ o | .if_icmp _ o | .goto o | .ifnull o | .ifnonnull o => match lk with
    | .inl (t, _, _) => pp_tgt mi pc c o t
    | _ => false
  | .tableswitch d lo hi offs => match lk with
    | .inl (td, _, ts) => pp_tgt mi pc c d td && decide (hi + 1 = lo + ts.length) && decide (offs.toList.map (fun o => (pc : Int) + o) = ts.map Int.ofNat) && ts.all (fun t => pp_le c (pp_cnt mi t))
    | _ => false
  | .getfield n => match lk with
    | .inl (_, _, 3 :: p :: _) => pp_w p (.fieldLink mi.y.cls n "java/lang/String" "value" "[B")
    | .inl (_, _, 4 :: p :: _) => pp_w p (.fieldLink mi.y.cls n "java/lang/String" "coder" "B")
    | .inl (ci, k, t :: p :: _) => pp_fl mi n ci k t p false
    | _ => false
  | .getstatic n => match lk with
    | .inl (0, p, _) => pp_w p (.fieldLink mi.y.cls n "java/lang/String" "COMPACT_STRINGS" "Z")
    | .inl (1, p, _) => pp_w p (.fieldLink mi.y.cls n "jdk/internal/util/Preconditions" "SIOOBE_FORMATTER" "Ljava/util/function/BiFunction;")
    | _ => false
  | .putfield n => match lk with
    | .inl (ci, k, t :: p :: _) => pp_fl mi n ci k t p true
    | _ => false
  | .arraylength | .iaload => match lk with
    | .inl (0, _, _) => true
    | .inl (1, _, _) => decide (mi.y = yL_law)
    | .inl (2, _, _) => true
    | _ => false
  | .new n => match lk with
    | .inl (ci, k, p :: _) => match pp_cl[ci]? with
      | some r => decide (r.2.2 = k) && pp_w p (.classLink mi.y.cls n r.1) && pp_le (c.1 + 1, c.2 + k) (mi.mc, mi.ms)
      | none => false
    | _ => false
  | .newarray a => match lk with
    | .inl (t, k, _) => decide (pp_atk a = t) && t.blt 15 && k.blt 100000 && pp_le (c.1 + 1, c.2 + k) (mi.mc, mi.ms)
    | _ => false
  | .anewarray n => match lk with
    | .inl (_, k, p :: _) => pp_w p (.classLink mi.y.cls n RX4) && k.blt 100000 && pp_le (c.1 + 1, c.2 + k) (mi.mc, mi.ms)
    | _ => false
  | .invokespecial n => match lk with
    | .inl (p, _, _) => pp_w p (.methodLink mi.y.cls n Lib.objectInit)
    | .inr (.inl (mj, _, p, l)) => pp_call mi mj c n p 2 (l.length - 1) && !l.isEmpty && mj.hh.isEmpty && pp_hok mi pc
    | _ => false
  | .invokevirtual n => match lk with
    | .inr (.inl (mj, ci, p, 0 :: l)) => pp_call mi mj c n p 1 l.length && mj.hh.isEmpty && pp_hok mi pc && (match pp_cl[ci]? with
      | some r => decide (r.1 = mj.y.cls)
      | none => false)
    | .inr (.inl (mj, _, p, 1 :: l)) => pp_call mi mj c n p 1 l.length && mj.hh.isEmpty && pp_hok mi pc && decide (mj.y.cls = "java/lang/String")
    | _ => false
  | .invokestatic n => match lk with
    | .inl (0, p, _) => pp_w p (.methodLink mi.y.cls n arraycopyName)
    | .inl (1, p, _) => pp_w p (.methodLink mi.y.cls n arraycopyName)
    | .inl (2, p, _) => pp_w p (.methodLink mi.y.cls n Lib.Math.min.name) && pp_le c (mi.mc, mi.ms)
    | .inl (3, p, _) => pp_w p (.methodLink mi.y.cls n Lib.Math.max.name) && pp_le c (mi.mc, mi.ms)
    | .inl (4, p, _) => pp_w p (.methodLink mi.y.cls n Lib.MathLoose.min_long.x) && pp_le c (mi.mc, mi.ms)
    | .inr (.inl (mj, k, p, l)) => if k = 9999 then decide (mi.y.cls = RX0) && decide (mj.y = yX8_pairOf) && decide (n = 19) && decide (mj.kd = 0) && mj.hh.isEmpty && decide (l.length = mj.np) && pp_le (c.1 + mj.mc, c.2 + mj.ms) (mi.mc, mi.ms) && pp_hok mi pc
      else pp_call mi mj c n p 0 l.length && pp_hok mi pc
    | _ => false
  | .ireturn => pp_le c (mi.mc, mi.ms)
  | .lreturn => pp_le c (mi.mc, mi.ms) && decide (mi.ret = some .long)
  | .return_ => pp_le c (mi.mc, mi.ms) && decide (mi.ret = none)
  | _ => true
/-- the listing of a method from pc on; its counts -/
def pp_chk (mi : pp_MI) (e : Nat) : Nat → Nat × Nat → pp_Seg → Bool
  | pc, c, [] => decide (pc = e) && pp_le c (pp_cnt mi e)
  | pc, c, q :: s => match q.1 with
    | .athrow => match q.2 with
      | .inl (x, is, wd :: mp :: _) => match pp_exs[x]?, pp_msgs[mp]? with
        | some z, some y => decide (mi.y.cls = RX8) && decide (y.1 = is) && mi.hh.isEmpty && pp_le (c.1 + 1, c.2 + 6) (mi.mc, mi.ms) && decide (decode mi.by_ pc = .ok (.new z.2.1, 3)) && decide (decode mi.by_ (pc + 3) = .ok (.dup, 1)) &&
          (if wd = 0 then decide (decode mi.by_ (pc + 4) = .ok (.ldc is, 2)) && decide (decode mi.by_ (pc + 6) = .ok (.invokespecial z.2.2, 3)) && decide (decode mi.by_ (pc + 9) = .ok (.athrow, 1))
           else decide (decode mi.by_ (pc + 4) = .ok (.ldc_w is, 3)) && decide (decode mi.by_ (pc + 7) = .ok (.invokespecial z.2.2, 3)) && decide (decode mi.by_ (pc + 10) = .ok (.athrow, 1)))
        | _, _ => false
      | _ => false
    | i => decide (decode mi.by_ pc = .ok (i, pp_len i q.2)) && pp_stt mi pc c i q.2 && pp_chk mi e (pc + pp_len i q.2) (pp_cs i q.2 c) s
end
section
/-! THE ENGINE, 11: what was checked is sound -/
theorem pp_i_e {st : List Value} {k : Int32 → List Value → Prop} (h : pp_i st k) : ∃ x s, st = .int x :: s ∧ k x s := by
  unfold pp_i at h
  split at h
  · exact ⟨_, _, rfl, h⟩
  · exact h.elim
theorem pp_j_e {st : List Value} {k : Int64 → List Value → Prop} (h : pp_j st k) : ∃ x s, st = .long x :: s ∧ k x s := by
  unfold pp_j at h
  split at h
  · exact ⟨_, _, rfl, h⟩
  · exact h.elim
theorem pp_r_e {st : List Value} {k : Nat → List Value → Prop} (h : pp_r st k) : ∃ x s, st = .ref x :: s ∧ k x s := by
  unfold pp_r at h
  split at h
  · exact ⟨_, _, rfl, h⟩
  · exact h.elim
theorem pp_q_e {st : List Value} {k : Option Nat → List Value → Prop} (h : pp_q st k) : ∃ x s, st = pp_rf x :: s ∧ k x s := by
  unfold pp_q at h
  split at h
  · exact ⟨some _, _, rfl, h⟩
  · exact ⟨none, _, rfl, h⟩
  · exact h.elim
theorem pp_wide_1 {v : Value} (h : pp_wide v = false) : v.category = 1 := by cases v <;> first | rfl | cases h
theorem pp_wide_2 {v : Value} (h : pp_wide v = true) : v.category = 2 := by cases v <;> first | rfl | cases h
theorem pp_1_e {st : List Value} {k : Value → List Value → Prop} (h : pp_1 st k) : ∃ v s, st = v :: s ∧ v.category = 1 ∧ k v s := by
  unfold pp_1 at h
  split at h
  · exact ⟨_, _, rfl, pp_wide_1 h.1, h.2⟩
  · exact h.elim
theorem pp_2_e {st : List Value} {k : Value → List Value → Prop} (h : pp_2 st k) : ∃ v s, st = v :: s ∧ v.category = 2 ∧ k v s := by
  unfold pp_2 at h
  split at h
  · exact ⟨_, _, rfl, pp_wide_2 h.1, h.2⟩
  · exact h.elim
theorem pp_li_e {L : List (Nat × Value)} {i : Nat} {k : Int32 → Prop} (h : pp_li L i k) : ∃ x, L.lookup i = some (.int x) ∧ k x := by
  unfold pp_li at h
  split at h
  · rename_i e; exact ⟨_, e, h⟩
  · exact h.elim
theorem pp_lj_e {L : List (Nat × Value)} {i : Nat} {k : Int64 → Prop} (h : pp_lj L i k) : ∃ x, L.lookup i = some (.long x) ∧ k x := by
  unfold pp_lj at h
  split at h
  · rename_i e; exact ⟨_, e, h⟩
  · exact h.elim
theorem pp_la_e {L : List (Nat × Value)} {i : Nat} {k : Value → Prop} (h : pp_la L i k) : (∃ x, L.lookup i = some (.ref x) ∧ k (.ref x)) ∨ (L.lookup i = some .null ∧ k .null) := by
  unfold pp_la at h
  split at h
  · rename_i e; exact Or.inl ⟨_, e, h⟩
  · rename_i e; exact Or.inr ⟨e, h⟩
  · exact h.elim
theorem pp_in_e {w : pp_W} {a t : Nat} {j : Int32} {k : Prop} (h : pp_in w a t j k) : ∃ n, w.1[a]? = some (t, n) ∧ vp_in j n ∧ k := by
  unfold pp_in at h
  split at h
  · rename_i q e
    obtain ⟨rfl, h2, h3⟩ := h
    exact ⟨q.2, e, h2, h3⟩
  · exact h.elim
theorem pp_al_e {w : pp_W} {a : Nat} {k : Nat → Prop} (h : pp_al w a k) : ∃ t n, w.1[a]? = some (t, n) ∧ (10 ≤ t ∧ t ≤ 14) ∧ k n := by
  unfold pp_al at h
  split at h
  · rename_i q e
    exact ⟨q.1, q.2, e, h⟩
  · exact h.elim
theorem pp_args_e : ∀ (l : List Nat) (acc st : List Value) (k : List Value → List Value → Prop), pp_args l acc st k → ∃ As s, st = As.reverse ++ s ∧ As.length = l.length ∧ k (As ++ acc) s := by
  intro l
  induction l with
  | nil => intro acc st k h; exact ⟨[], st, rfl, rfl, h⟩
  | cons a l ih =>
    intro acc st k h
    cases st with
    | nil => exact h.elim
    | cons v st =>
      obtain ⟨As, s, e1, e2, e3⟩ := ih (v :: acc) st k h
      exact ⟨As ++ [v], s, by rw [e1]; simp, by simp [e2], by simpa using e3⟩
theorem pp_blt {a b : Nat} (h : a.blt b = true) : a < b := Nat.le_of_ble_eq_true h
/-- what a body owes at its ends -/
def pp_End (g : pp_G) (R : Room) (mi : pp_MI) (Z : pp_CT → State → Prop) (off : Nat × Nat) (P : pp_R → pp_W → Prop) (Y : String → pp_W → Prop) : Prop :=
  (∀ pc L w, decode mi.by_ pc = .ok (.return_, 1) → mi.ret = none → P (.inl none) w → pp_ATc g R mi Z (off.1 + mi.mc, off.2 + mi.ms) pc L [] w) ∧
  (∀ pc L w x ty, decode mi.by_ pc = .ok (.ireturn, 1) → mi.ret = some ty → narrow ty (.int x) = .int x → P (.inl (some (.int x))) w → pp_ATc g R mi Z (off.1 + mi.mc, off.2 + mi.ms) pc L [.int x] w) ∧
  (∀ pc L w x, decode mi.by_ pc = .ok (.lreturn, 1) → mi.ret = some .long → P (.inl (some (.long x))) w → pp_ATc g R mi Z (off.1 + mi.mc, off.2 + mi.ms) pc L [.long x] w) ∧
  (∀ pc L st w E, pp_hok mi pc = true → Y E w → pp_XT g R mi Z (off.1 + mi.mc, off.2 + mi.ms) pc L st w E)
section Sound
variable {g : pp_G} {R : Room} {mi : pp_MI} {Z : pp_CT → State → Prop} {off : Nat × Nat} {P : pp_R → pp_W → Prop} {Y : String → pp_W → Prop} {X : Nat → pp_St} {h : Nat}
theorem pp_toT {c : Nat × Nat} {o : Int} {pc t : Nat} {L : List (Nat × Value)} {st : List Value} {w : pp_W} (hX : ∀ t L st w, X t L st w → pp_AT g R mi Z off t L st w) (ht : pp_tgt mi pc c o t = true) (hx : X t L st w) : ((pc : Int) + o = (t : Int)) ∧ pp_ATc g R mi Z (off.1 + c.1, off.2 + c.2) t L st w := by
  simp only [pp_tgt, Bool.and_eq_true, decide_eq_true_eq] at ht
  have hl := pp_le_1 ht.2
  exact ⟨ht.1, (hX t L st w hx).le (by show off.1 + c.1 ≤ off.1 + _; omega) (by show off.2 + c.2 ≤ off.2 + _; omega)⟩
theorem pp_tgt_1 {c : Nat × Nat} {o : Int} {pc t : Nat} (ht : pp_tgt mi pc c o t = true) : (pc : Int) + o = (t : Int) := by
  simp only [pp_tgt, Bool.and_eq_true, decide_eq_true_eq] at ht
  exact ht.1
theorem pp_toK {mj : pp_MI} {c : Nat × Nat} {pc : Nat} {L : List (Nat × Value)} {st : List Value} {K : pp_St} (hE : pp_End g R mi Z off P Y) (hh : pp_hok mi pc = true) (hc : pp_le (c.1 + mj.mc, c.2 + mj.ms) (mi.mc, mi.ms) = true)
    (hK : ∀ L st w, K L st w → pp_ATc g R mi Z (off.1 + (c.1 + mj.mc), off.2 + (c.2 + mj.ms)) (pc + 3) L st w) : ∀ r w, pp_kr K Y L st r w → pp_K1 g R mi Z (off.1 + c.1 + mj.mc, off.2 + c.2 + mj.ms) pc L st r w := by
  intro r w hr
  have hl := pp_le_1 hc
  dsimp only at hl
  match r, hr with
  | .inl none, hr => exact (hK _ _ _ hr).le (by show _ ≤ off.1 + (c.1 + mj.mc); omega) (by show _ ≤ off.2 + (c.2 + mj.ms); omega)
  | .inl (some v), hr => exact (hK _ _ _ hr).le (by show _ ≤ off.1 + (c.1 + mj.mc); omega) (by show _ ≤ off.2 + (c.2 + mj.ms); omega)
  | .inr E, hr => exact fun t C H locs ls cells slots hP hS hl9 h1 h2 => hE.2.2.2 pc L st w E hh hr t C H locs ls cells slots hP hS hl9 (Nat.le_trans h1 (by show off.1 + c.1 + mj.mc ≤ off.1 + mi.mc; omega)) (Nat.le_trans h2 (by show off.2 + c.2 + mj.ms ≤ off.2 + mi.ms; omega))
theorem ps_iconst {n : Int} {c : Nat × Nat} {pc : Nat} {lk : pp_Lk} {L : List (Nat × Value)} {st : List Value} {w : pp_W} {K : pp_St} (hd : decode mi.by_ pc = .ok (.iconst n, pp_len (.iconst n) lk)) (hst : pp_stt mi pc c (.iconst n) lk = true) (hsp : pp_sp g h mi.ret P Y X (.iconst n) lk L st w K) (hK : ∀ L st w, K L st w → pp_ATc g R mi Z (off.1 + (pp_cs (.iconst n) lk c).1, off.2 + (pp_cs (.iconst n) lk c).2) (pc + pp_len (.iconst n) lk) L st w) : pp_ATc g R mi Z (off.1 + c.1, off.2 + c.2) pc L st w := by
  match lk, hst, hsp, hd, hK with
  | .inr (.inr (.int v, p)), hst, hsp, hd, hK => exact pr_iconst hd (of_decide_eq_true hst) (hK _ _ _ hsp)
theorem ps_bipush {n : Int} {c : Nat × Nat} {pc : Nat} {lk : pp_Lk} {L : List (Nat × Value)} {st : List Value} {w : pp_W} {K : pp_St} (hd : decode mi.by_ pc = .ok (.bipush n, pp_len (.bipush n) lk)) (hst : pp_stt mi pc c (.bipush n) lk = true) (hsp : pp_sp g h mi.ret P Y X (.bipush n) lk L st w K) (hK : ∀ L st w, K L st w → pp_ATc g R mi Z (off.1 + (pp_cs (.bipush n) lk c).1, off.2 + (pp_cs (.bipush n) lk c).2) (pc + pp_len (.bipush n) lk) L st w) : pp_ATc g R mi Z (off.1 + c.1, off.2 + c.2) pc L st w := by
  match lk, hst, hsp, hd, hK with
  | .inr (.inr (.int v, p)), hst, hsp, hd, hK => exact pr_bipush hd (of_decide_eq_true hst) (hK _ _ _ hsp)
theorem ps_sipush {n : Int} {c : Nat × Nat} {pc : Nat} {lk : pp_Lk} {L : List (Nat × Value)} {st : List Value} {w : pp_W} {K : pp_St} (hd : decode mi.by_ pc = .ok (.sipush n, pp_len (.sipush n) lk)) (hst : pp_stt mi pc c (.sipush n) lk = true) (hsp : pp_sp g h mi.ret P Y X (.sipush n) lk L st w K) (hK : ∀ L st w, K L st w → pp_ATc g R mi Z (off.1 + (pp_cs (.sipush n) lk c).1, off.2 + (pp_cs (.sipush n) lk c).2) (pc + pp_len (.sipush n) lk) L st w) : pp_ATc g R mi Z (off.1 + c.1, off.2 + c.2) pc L st w := by
  match lk, hst, hsp, hd, hK with
  | .inr (.inr (.int v, p)), hst, hsp, hd, hK => exact pr_sipush hd (of_decide_eq_true hst) (hK _ _ _ hsp)
theorem ps_lconst {n : Fin 2} {c : Nat × Nat} {pc : Nat} {lk : pp_Lk} {L : List (Nat × Value)} {st : List Value} {w : pp_W} {K : pp_St} (hd : decode mi.by_ pc = .ok (.lconst n, pp_len (.lconst n) lk)) (hst : pp_stt mi pc c (.lconst n) lk = true) (hsp : pp_sp g h mi.ret P Y X (.lconst n) lk L st w K) (hK : ∀ L st w, K L st w → pp_ATc g R mi Z (off.1 + (pp_cs (.lconst n) lk c).1, off.2 + (pp_cs (.lconst n) lk c).2) (pc + pp_len (.lconst n) lk) L st w) : pp_ATc g R mi Z (off.1 + c.1, off.2 + c.2) pc L st w := by
  match lk, hst, hsp, hd, hK with
  | .inr (.inr (.long v, p)), hst, hsp, hd, hK => exact pr_lconst hd (of_decide_eq_true hst) (hK _ _ _ hsp)
theorem ps_ldc {n : Nat} {c : Nat × Nat} {pc : Nat} {lk : pp_Lk} {L : List (Nat × Value)} {st : List Value} {w : pp_W} {K : pp_St} (hd : decode mi.by_ pc = .ok (.ldc n, pp_len (.ldc n) lk)) (hst : pp_stt mi pc c (.ldc n) lk = true) (hsp : pp_sp g h mi.ret P Y X (.ldc n) lk L st w K) (hK : ∀ L st w, K L st w → pp_ATc g R mi Z (off.1 + (pp_cs (.ldc n) lk c).1, off.2 + (pp_cs (.ldc n) lk c).2) (pc + pp_len (.ldc n) lk) L st w) : pp_ATc g R mi Z (off.1 + c.1, off.2 + c.2) pc L st w := by
  match lk, hst, hsp, hd, hK with
  | .inr (.inr (.int v, p)), hst, hsp, hd, hK => exact pr_ldc hd (pp_w_in hst) (hK _ _ _ hsp)
  | .inr (.inr (.ref k, p)), hst, hsp, hd, hK =>
    simp only [pp_stt] at hst
    split at hst
    · rename_i q hq
      simp only [Bool.and_eq_true, decide_eq_true_eq] at hst
      obtain ⟨⟨⟨e1, e2⟩, e3⟩, e4⟩ := hst
      exact pr_ldcS (tx := q.2.2.1) hd (by rw [← e1, ← e2, ← e3]; exact List.mem_of_getElem? hq) (pp_blt e4) (hK _ _ _ hsp)
    · cases hst
theorem ps_ldc_w {n : Nat} {c : Nat × Nat} {pc : Nat} {lk : pp_Lk} {L : List (Nat × Value)} {st : List Value} {w : pp_W} {K : pp_St} (hd : decode mi.by_ pc = .ok (.ldc_w n, pp_len (.ldc_w n) lk)) (hst : pp_stt mi pc c (.ldc_w n) lk = true) (hsp : pp_sp g h mi.ret P Y X (.ldc_w n) lk L st w K) (hK : ∀ L st w, K L st w → pp_ATc g R mi Z (off.1 + (pp_cs (.ldc_w n) lk c).1, off.2 + (pp_cs (.ldc_w n) lk c).2) (pc + pp_len (.ldc_w n) lk) L st w) : pp_ATc g R mi Z (off.1 + c.1, off.2 + c.2) pc L st w := by
  match lk, hst, hsp, hd, hK with
  | .inr (.inr (.int v, p)), hst, hsp, hd, hK => exact pr_ldcw hd (pp_w_in hst) (hK _ _ _ hsp)
theorem ps_ldc2_w {n : Nat} {c : Nat × Nat} {pc : Nat} {lk : pp_Lk} {L : List (Nat × Value)} {st : List Value} {w : pp_W} {K : pp_St} (hd : decode mi.by_ pc = .ok (.ldc2_w n, pp_len (.ldc2_w n) lk)) (hst : pp_stt mi pc c (.ldc2_w n) lk = true) (hsp : pp_sp g h mi.ret P Y X (.ldc2_w n) lk L st w K) (hK : ∀ L st w, K L st w → pp_ATc g R mi Z (off.1 + (pp_cs (.ldc2_w n) lk c).1, off.2 + (pp_cs (.ldc2_w n) lk c).2) (pc + pp_len (.ldc2_w n) lk) L st w) : pp_ATc g R mi Z (off.1 + c.1, off.2 + c.2) pc L st w := by
  match lk, hst, hsp, hd, hK with
  | .inr (.inr (.long v, p)), hst, hsp, hd, hK => exact pr_ldc2 hd (pp_w_in hst) (hK _ _ _ hsp)
theorem ps_aconst_null {c : Nat × Nat} {pc : Nat} {lk : pp_Lk} {L : List (Nat × Value)} {st : List Value} {w : pp_W} {K : pp_St} (hd : decode mi.by_ pc = .ok (.aconst_null, pp_len (.aconst_null) lk)) (hst : pp_stt mi pc c (.aconst_null) lk = true) (hsp : pp_sp g h mi.ret P Y X (.aconst_null) lk L st w K) (hK : ∀ L st w, K L st w → pp_ATc g R mi Z (off.1 + (pp_cs (.aconst_null) lk c).1, off.2 + (pp_cs (.aconst_null) lk c).2) (pc + pp_len (.aconst_null) lk) L st w) : pp_ATc g R mi Z (off.1 + c.1, off.2 + c.2) pc L st w := by
  exact pr_null hd (hK _ _ _ hsp)
theorem ps_iload {n : Nat} {c : Nat × Nat} {pc : Nat} {lk : pp_Lk} {L : List (Nat × Value)} {st : List Value} {w : pp_W} {K : pp_St} (hd : decode mi.by_ pc = .ok (.iload n, pp_len (.iload n) lk)) (hst : pp_stt mi pc c (.iload n) lk = true) (hsp : pp_sp g h mi.ret P Y X (.iload n) lk L st w K) (hK : ∀ L st w, K L st w → pp_ATc g R mi Z (off.1 + (pp_cs (.iload n) lk c).1, off.2 + (pp_cs (.iload n) lk c).2) (pc + pp_len (.iload n) lk) L st w) : pp_ATc g R mi Z (off.1 + c.1, off.2 + c.2) pc L st w := by
  obtain ⟨x, e, hk⟩ := pp_li_e hsp
  exact pr_iload hd e (hK _ _ _ hk)
theorem ps_iload_n {n : Fin 4} {c : Nat × Nat} {pc : Nat} {lk : pp_Lk} {L : List (Nat × Value)} {st : List Value} {w : pp_W} {K : pp_St} (hd : decode mi.by_ pc = .ok (.iload_n n, pp_len (.iload_n n) lk)) (hst : pp_stt mi pc c (.iload_n n) lk = true) (hsp : pp_sp g h mi.ret P Y X (.iload_n n) lk L st w K) (hK : ∀ L st w, K L st w → pp_ATc g R mi Z (off.1 + (pp_cs (.iload_n n) lk c).1, off.2 + (pp_cs (.iload_n n) lk c).2) (pc + pp_len (.iload_n n) lk) L st w) : pp_ATc g R mi Z (off.1 + c.1, off.2 + c.2) pc L st w := by
  obtain ⟨x, e, hk⟩ := pp_li_e hsp
  exact pr_iload_n hd e (hK _ _ _ hk)
theorem ps_lload {n : Nat} {c : Nat × Nat} {pc : Nat} {lk : pp_Lk} {L : List (Nat × Value)} {st : List Value} {w : pp_W} {K : pp_St} (hd : decode mi.by_ pc = .ok (.lload n, pp_len (.lload n) lk)) (hst : pp_stt mi pc c (.lload n) lk = true) (hsp : pp_sp g h mi.ret P Y X (.lload n) lk L st w K) (hK : ∀ L st w, K L st w → pp_ATc g R mi Z (off.1 + (pp_cs (.lload n) lk c).1, off.2 + (pp_cs (.lload n) lk c).2) (pc + pp_len (.lload n) lk) L st w) : pp_ATc g R mi Z (off.1 + c.1, off.2 + c.2) pc L st w := by
  obtain ⟨x, e, hk⟩ := pp_lj_e hsp
  exact pr_lload hd e (hK _ _ _ hk)
theorem ps_lload_n {n : Fin 4} {c : Nat × Nat} {pc : Nat} {lk : pp_Lk} {L : List (Nat × Value)} {st : List Value} {w : pp_W} {K : pp_St} (hd : decode mi.by_ pc = .ok (.lload_n n, pp_len (.lload_n n) lk)) (hst : pp_stt mi pc c (.lload_n n) lk = true) (hsp : pp_sp g h mi.ret P Y X (.lload_n n) lk L st w K) (hK : ∀ L st w, K L st w → pp_ATc g R mi Z (off.1 + (pp_cs (.lload_n n) lk c).1, off.2 + (pp_cs (.lload_n n) lk c).2) (pc + pp_len (.lload_n n) lk) L st w) : pp_ATc g R mi Z (off.1 + c.1, off.2 + c.2) pc L st w := by
  obtain ⟨x, e, hk⟩ := pp_lj_e hsp
  exact pr_lload_n hd e (hK _ _ _ hk)
theorem ps_aload {n : Nat} {c : Nat × Nat} {pc : Nat} {lk : pp_Lk} {L : List (Nat × Value)} {st : List Value} {w : pp_W} {K : pp_St} (hd : decode mi.by_ pc = .ok (.aload n, pp_len (.aload n) lk)) (hst : pp_stt mi pc c (.aload n) lk = true) (hsp : pp_sp g h mi.ret P Y X (.aload n) lk L st w K) (hK : ∀ L st w, K L st w → pp_ATc g R mi Z (off.1 + (pp_cs (.aload n) lk c).1, off.2 + (pp_cs (.aload n) lk c).2) (pc + pp_len (.aload n) lk) L st w) : pp_ATc g R mi Z (off.1 + c.1, off.2 + c.2) pc L st w := by
  have hsp : pp_la L n (fun v => K L (v :: st) w) := hsp
  rcases pp_la_e hsp with ⟨x, e, hk⟩ | ⟨e, hk⟩
  · exact pr_aload hd e (hK _ _ _ hk)
  · exact pr_aloadN hd e (hK _ _ _ hk)
theorem ps_aload_n {n : Fin 4} {c : Nat × Nat} {pc : Nat} {lk : pp_Lk} {L : List (Nat × Value)} {st : List Value} {w : pp_W} {K : pp_St} (hd : decode mi.by_ pc = .ok (.aload_n n, pp_len (.aload_n n) lk)) (hst : pp_stt mi pc c (.aload_n n) lk = true) (hsp : pp_sp g h mi.ret P Y X (.aload_n n) lk L st w K) (hK : ∀ L st w, K L st w → pp_ATc g R mi Z (off.1 + (pp_cs (.aload_n n) lk c).1, off.2 + (pp_cs (.aload_n n) lk c).2) (pc + pp_len (.aload_n n) lk) L st w) : pp_ATc g R mi Z (off.1 + c.1, off.2 + c.2) pc L st w := by
  have hsp : pp_la L n.val (fun v => K L (v :: st) w) := hsp
  rcases pp_la_e hsp with ⟨x, e, hk⟩ | ⟨e, hk⟩
  · exact pr_aload_n hd e (hK _ _ _ hk)
  · exact pr_aload_nN hd e (hK _ _ _ hk)
theorem ps_istore {n : Nat} {c : Nat × Nat} {pc : Nat} {lk : pp_Lk} {L : List (Nat × Value)} {st : List Value} {w : pp_W} {K : pp_St} (hd : decode mi.by_ pc = .ok (.istore n, pp_len (.istore n) lk)) (hst : pp_stt mi pc c (.istore n) lk = true) (hsp : pp_sp g h mi.ret P Y X (.istore n) lk L st w K) (hK : ∀ L st w, K L st w → pp_ATc g R mi Z (off.1 + (pp_cs (.istore n) lk c).1, off.2 + (pp_cs (.istore n) lk c).2) (pc + pp_len (.istore n) lk) L st w) : pp_ATc g R mi Z (off.1 + c.1, off.2 + c.2) pc L st w := by
  obtain ⟨x, s, rfl, hk⟩ := pp_i_e hsp
  exact pr_istore hd (pp_blt hst) (hK _ _ _ hk)
theorem ps_istore_n {n : Fin 4} {c : Nat × Nat} {pc : Nat} {lk : pp_Lk} {L : List (Nat × Value)} {st : List Value} {w : pp_W} {K : pp_St} (hd : decode mi.by_ pc = .ok (.istore_n n, pp_len (.istore_n n) lk)) (hst : pp_stt mi pc c (.istore_n n) lk = true) (hsp : pp_sp g h mi.ret P Y X (.istore_n n) lk L st w K) (hK : ∀ L st w, K L st w → pp_ATc g R mi Z (off.1 + (pp_cs (.istore_n n) lk c).1, off.2 + (pp_cs (.istore_n n) lk c).2) (pc + pp_len (.istore_n n) lk) L st w) : pp_ATc g R mi Z (off.1 + c.1, off.2 + c.2) pc L st w := by
  obtain ⟨x, s, rfl, hk⟩ := pp_i_e hsp
  exact pr_istore_n hd (pp_blt hst) (hK _ _ _ hk)
theorem ps_lstore {n : Nat} {c : Nat × Nat} {pc : Nat} {lk : pp_Lk} {L : List (Nat × Value)} {st : List Value} {w : pp_W} {K : pp_St} (hd : decode mi.by_ pc = .ok (.lstore n, pp_len (.lstore n) lk)) (hst : pp_stt mi pc c (.lstore n) lk = true) (hsp : pp_sp g h mi.ret P Y X (.lstore n) lk L st w K) (hK : ∀ L st w, K L st w → pp_ATc g R mi Z (off.1 + (pp_cs (.lstore n) lk c).1, off.2 + (pp_cs (.lstore n) lk c).2) (pc + pp_len (.lstore n) lk) L st w) : pp_ATc g R mi Z (off.1 + c.1, off.2 + c.2) pc L st w := by
  obtain ⟨x, s, rfl, hk⟩ := pp_j_e hsp
  exact pr_lstore hd (pp_blt hst) (hK _ _ _ hk)
theorem ps_lstore_n {n : Fin 4} {c : Nat × Nat} {pc : Nat} {lk : pp_Lk} {L : List (Nat × Value)} {st : List Value} {w : pp_W} {K : pp_St} (hd : decode mi.by_ pc = .ok (.lstore_n n, pp_len (.lstore_n n) lk)) (hst : pp_stt mi pc c (.lstore_n n) lk = true) (hsp : pp_sp g h mi.ret P Y X (.lstore_n n) lk L st w K) (hK : ∀ L st w, K L st w → pp_ATc g R mi Z (off.1 + (pp_cs (.lstore_n n) lk c).1, off.2 + (pp_cs (.lstore_n n) lk c).2) (pc + pp_len (.lstore_n n) lk) L st w) : pp_ATc g R mi Z (off.1 + c.1, off.2 + c.2) pc L st w := by
  obtain ⟨x, s, rfl, hk⟩ := pp_j_e hsp
  exact pr_lstore_n hd (pp_blt hst) (hK _ _ _ hk)
theorem ps_astore {n : Nat} {c : Nat × Nat} {pc : Nat} {lk : pp_Lk} {L : List (Nat × Value)} {st : List Value} {w : pp_W} {K : pp_St} (hd : decode mi.by_ pc = .ok (.astore n, pp_len (.astore n) lk)) (hst : pp_stt mi pc c (.astore n) lk = true) (hsp : pp_sp g h mi.ret P Y X (.astore n) lk L st w K) (hK : ∀ L st w, K L st w → pp_ATc g R mi Z (off.1 + (pp_cs (.astore n) lk c).1, off.2 + (pp_cs (.astore n) lk c).2) (pc + pp_len (.astore n) lk) L st w) : pp_ATc g R mi Z (off.1 + c.1, off.2 + c.2) pc L st w := by
  have hsp : pp_q st (fun x st => K (pp_put1 n (pp_rf x) L) st w) := hsp
  obtain ⟨x, s, rfl, hk⟩ := pp_q_e hsp
  cases x with
  | none => exact pr_astoreN hd (pp_blt hst) (hK _ _ _ hk)
  | some x => exact pr_astore hd (pp_blt hst) (hK _ _ _ hk)
theorem ps_astore_n {n : Fin 4} {c : Nat × Nat} {pc : Nat} {lk : pp_Lk} {L : List (Nat × Value)} {st : List Value} {w : pp_W} {K : pp_St} (hd : decode mi.by_ pc = .ok (.astore_n n, pp_len (.astore_n n) lk)) (hst : pp_stt mi pc c (.astore_n n) lk = true) (hsp : pp_sp g h mi.ret P Y X (.astore_n n) lk L st w K) (hK : ∀ L st w, K L st w → pp_ATc g R mi Z (off.1 + (pp_cs (.astore_n n) lk c).1, off.2 + (pp_cs (.astore_n n) lk c).2) (pc + pp_len (.astore_n n) lk) L st w) : pp_ATc g R mi Z (off.1 + c.1, off.2 + c.2) pc L st w := by
  have hsp : pp_q st (fun x st => K (pp_put1 n.val (pp_rf x) L) st w) := hsp
  obtain ⟨x, s, rfl, hk⟩ := pp_q_e hsp
  cases x with
  | none => exact pr_astore_nN hd (pp_blt hst) (hK _ _ _ hk)
  | some x => exact pr_astore_n hd (pp_blt hst) (hK _ _ _ hk)
theorem ps_iinc {k : Nat} {n : Int} {c : Nat × Nat} {pc : Nat} {lk : pp_Lk} {L : List (Nat × Value)} {st : List Value} {w : pp_W} {K : pp_St} (hd : decode mi.by_ pc = .ok (.iinc k n, pp_len (.iinc k n) lk)) (hst : pp_stt mi pc c (.iinc k n) lk = true) (hsp : pp_sp g h mi.ret P Y X (.iinc k n) lk L st w K) (hK : ∀ L st w, K L st w → pp_ATc g R mi Z (off.1 + (pp_cs (.iinc k n) lk c).1, off.2 + (pp_cs (.iinc k n) lk c).2) (pc + pp_len (.iinc k n) lk) L st w) : pp_ATc g R mi Z (off.1 + c.1, off.2 + c.2) pc L st w := by
  match lk, hst, hsp, hd, hK with
  | .inr (.inr (.int v, p)), hst, hsp, hd, hK =>
    simp only [pp_stt, Bool.and_eq_true, decide_eq_true_eq] at hst
    obtain ⟨x, e, hk⟩ := pp_li_e hsp
    exact pr_iinc hd e hst.1 (pp_blt hst.2) (hK _ _ _ hk)
theorem ps_iadd {c : Nat × Nat} {pc : Nat} {lk : pp_Lk} {L : List (Nat × Value)} {st : List Value} {w : pp_W} {K : pp_St} (hd : decode mi.by_ pc = .ok (.iadd, pp_len (.iadd) lk)) (hst : pp_stt mi pc c (.iadd) lk = true) (hsp : pp_sp g h mi.ret P Y X (.iadd) lk L st w K) (hK : ∀ L st w, K L st w → pp_ATc g R mi Z (off.1 + (pp_cs (.iadd) lk c).1, off.2 + (pp_cs (.iadd) lk c).2) (pc + pp_len (.iadd) lk) L st w) : pp_ATc g R mi Z (off.1 + c.1, off.2 + c.2) pc L st w := by
  obtain ⟨y, s, rfl, hk⟩ := pp_i_e hsp
  obtain ⟨x, s, rfl, hk⟩ := pp_i_e hk
  exact pr_iadd hd (hK _ _ _ hk)
theorem ps_isub {c : Nat × Nat} {pc : Nat} {lk : pp_Lk} {L : List (Nat × Value)} {st : List Value} {w : pp_W} {K : pp_St} (hd : decode mi.by_ pc = .ok (.isub, pp_len (.isub) lk)) (hst : pp_stt mi pc c (.isub) lk = true) (hsp : pp_sp g h mi.ret P Y X (.isub) lk L st w K) (hK : ∀ L st w, K L st w → pp_ATc g R mi Z (off.1 + (pp_cs (.isub) lk c).1, off.2 + (pp_cs (.isub) lk c).2) (pc + pp_len (.isub) lk) L st w) : pp_ATc g R mi Z (off.1 + c.1, off.2 + c.2) pc L st w := by
  obtain ⟨y, s, rfl, hk⟩ := pp_i_e hsp
  obtain ⟨x, s, rfl, hk⟩ := pp_i_e hk
  exact pr_isub hd (hK _ _ _ hk)
theorem ps_imul {c : Nat × Nat} {pc : Nat} {lk : pp_Lk} {L : List (Nat × Value)} {st : List Value} {w : pp_W} {K : pp_St} (hd : decode mi.by_ pc = .ok (.imul, pp_len (.imul) lk)) (hst : pp_stt mi pc c (.imul) lk = true) (hsp : pp_sp g h mi.ret P Y X (.imul) lk L st w K) (hK : ∀ L st w, K L st w → pp_ATc g R mi Z (off.1 + (pp_cs (.imul) lk c).1, off.2 + (pp_cs (.imul) lk c).2) (pc + pp_len (.imul) lk) L st w) : pp_ATc g R mi Z (off.1 + c.1, off.2 + c.2) pc L st w := by
  obtain ⟨y, s, rfl, hk⟩ := pp_i_e hsp
  obtain ⟨x, s, rfl, hk⟩ := pp_i_e hk
  exact pr_imul hd (hK _ _ _ hk)
theorem ps_iand {c : Nat × Nat} {pc : Nat} {lk : pp_Lk} {L : List (Nat × Value)} {st : List Value} {w : pp_W} {K : pp_St} (hd : decode mi.by_ pc = .ok (.iand, pp_len (.iand) lk)) (hst : pp_stt mi pc c (.iand) lk = true) (hsp : pp_sp g h mi.ret P Y X (.iand) lk L st w K) (hK : ∀ L st w, K L st w → pp_ATc g R mi Z (off.1 + (pp_cs (.iand) lk c).1, off.2 + (pp_cs (.iand) lk c).2) (pc + pp_len (.iand) lk) L st w) : pp_ATc g R mi Z (off.1 + c.1, off.2 + c.2) pc L st w := by
  obtain ⟨y, s, rfl, hk⟩ := pp_i_e hsp
  obtain ⟨x, s, rfl, hk⟩ := pp_i_e hk
  exact pr_iand hd (hK _ _ _ hk)
theorem ps_ior {c : Nat × Nat} {pc : Nat} {lk : pp_Lk} {L : List (Nat × Value)} {st : List Value} {w : pp_W} {K : pp_St} (hd : decode mi.by_ pc = .ok (.ior, pp_len (.ior) lk)) (hst : pp_stt mi pc c (.ior) lk = true) (hsp : pp_sp g h mi.ret P Y X (.ior) lk L st w K) (hK : ∀ L st w, K L st w → pp_ATc g R mi Z (off.1 + (pp_cs (.ior) lk c).1, off.2 + (pp_cs (.ior) lk c).2) (pc + pp_len (.ior) lk) L st w) : pp_ATc g R mi Z (off.1 + c.1, off.2 + c.2) pc L st w := by
  obtain ⟨y, s, rfl, hk⟩ := pp_i_e hsp
  obtain ⟨x, s, rfl, hk⟩ := pp_i_e hk
  exact pr_ior hd (hK _ _ _ hk)
theorem ps_ixor {c : Nat × Nat} {pc : Nat} {lk : pp_Lk} {L : List (Nat × Value)} {st : List Value} {w : pp_W} {K : pp_St} (hd : decode mi.by_ pc = .ok (.ixor, pp_len (.ixor) lk)) (hst : pp_stt mi pc c (.ixor) lk = true) (hsp : pp_sp g h mi.ret P Y X (.ixor) lk L st w K) (hK : ∀ L st w, K L st w → pp_ATc g R mi Z (off.1 + (pp_cs (.ixor) lk c).1, off.2 + (pp_cs (.ixor) lk c).2) (pc + pp_len (.ixor) lk) L st w) : pp_ATc g R mi Z (off.1 + c.1, off.2 + c.2) pc L st w := by
  obtain ⟨y, s, rfl, hk⟩ := pp_i_e hsp
  obtain ⟨x, s, rfl, hk⟩ := pp_i_e hk
  exact pr_ixor hd (hK _ _ _ hk)
theorem ps_ishl {c : Nat × Nat} {pc : Nat} {lk : pp_Lk} {L : List (Nat × Value)} {st : List Value} {w : pp_W} {K : pp_St} (hd : decode mi.by_ pc = .ok (.ishl, pp_len (.ishl) lk)) (hst : pp_stt mi pc c (.ishl) lk = true) (hsp : pp_sp g h mi.ret P Y X (.ishl) lk L st w K) (hK : ∀ L st w, K L st w → pp_ATc g R mi Z (off.1 + (pp_cs (.ishl) lk c).1, off.2 + (pp_cs (.ishl) lk c).2) (pc + pp_len (.ishl) lk) L st w) : pp_ATc g R mi Z (off.1 + c.1, off.2 + c.2) pc L st w := by
  obtain ⟨y, s, rfl, hk⟩ := pp_i_e hsp
  obtain ⟨x, s, rfl, hk⟩ := pp_i_e hk
  exact pr_ishl hd (hK _ _ _ hk)
theorem ps_ishr {c : Nat × Nat} {pc : Nat} {lk : pp_Lk} {L : List (Nat × Value)} {st : List Value} {w : pp_W} {K : pp_St} (hd : decode mi.by_ pc = .ok (.ishr, pp_len (.ishr) lk)) (hst : pp_stt mi pc c (.ishr) lk = true) (hsp : pp_sp g h mi.ret P Y X (.ishr) lk L st w K) (hK : ∀ L st w, K L st w → pp_ATc g R mi Z (off.1 + (pp_cs (.ishr) lk c).1, off.2 + (pp_cs (.ishr) lk c).2) (pc + pp_len (.ishr) lk) L st w) : pp_ATc g R mi Z (off.1 + c.1, off.2 + c.2) pc L st w := by
  obtain ⟨y, s, rfl, hk⟩ := pp_i_e hsp
  obtain ⟨x, s, rfl, hk⟩ := pp_i_e hk
  exact pr_ishr hd (hK _ _ _ hk)
theorem ps_iushr {c : Nat × Nat} {pc : Nat} {lk : pp_Lk} {L : List (Nat × Value)} {st : List Value} {w : pp_W} {K : pp_St} (hd : decode mi.by_ pc = .ok (.iushr, pp_len (.iushr) lk)) (hst : pp_stt mi pc c (.iushr) lk = true) (hsp : pp_sp g h mi.ret P Y X (.iushr) lk L st w K) (hK : ∀ L st w, K L st w → pp_ATc g R mi Z (off.1 + (pp_cs (.iushr) lk c).1, off.2 + (pp_cs (.iushr) lk c).2) (pc + pp_len (.iushr) lk) L st w) : pp_ATc g R mi Z (off.1 + c.1, off.2 + c.2) pc L st w := by
  obtain ⟨y, s, rfl, hk⟩ := pp_i_e hsp
  obtain ⟨x, s, rfl, hk⟩ := pp_i_e hk
  exact pr_iushr hd (hK _ _ _ hk)
theorem ps_idiv {c : Nat × Nat} {pc : Nat} {lk : pp_Lk} {L : List (Nat × Value)} {st : List Value} {w : pp_W} {K : pp_St} (hd : decode mi.by_ pc = .ok (.idiv, pp_len (.idiv) lk)) (hst : pp_stt mi pc c (.idiv) lk = true) (hsp : pp_sp g h mi.ret P Y X (.idiv) lk L st w K) (hK : ∀ L st w, K L st w → pp_ATc g R mi Z (off.1 + (pp_cs (.idiv) lk c).1, off.2 + (pp_cs (.idiv) lk c).2) (pc + pp_len (.idiv) lk) L st w) : pp_ATc g R mi Z (off.1 + c.1, off.2 + c.2) pc L st w := by
  obtain ⟨y, s, rfl, hk⟩ := pp_i_e hsp
  obtain ⟨x, s, rfl, hk⟩ := pp_i_e hk
  exact pr_idiv hd hk.1 (hK _ _ _ hk.2)
theorem ps_ladd {c : Nat × Nat} {pc : Nat} {lk : pp_Lk} {L : List (Nat × Value)} {st : List Value} {w : pp_W} {K : pp_St} (hd : decode mi.by_ pc = .ok (.ladd, pp_len (.ladd) lk)) (hst : pp_stt mi pc c (.ladd) lk = true) (hsp : pp_sp g h mi.ret P Y X (.ladd) lk L st w K) (hK : ∀ L st w, K L st w → pp_ATc g R mi Z (off.1 + (pp_cs (.ladd) lk c).1, off.2 + (pp_cs (.ladd) lk c).2) (pc + pp_len (.ladd) lk) L st w) : pp_ATc g R mi Z (off.1 + c.1, off.2 + c.2) pc L st w := by
  obtain ⟨y, s, rfl, hk⟩ := pp_j_e hsp
  obtain ⟨x, s, rfl, hk⟩ := pp_j_e hk
  exact pr_ladd hd (hK _ _ _ hk)
theorem ps_lsub {c : Nat × Nat} {pc : Nat} {lk : pp_Lk} {L : List (Nat × Value)} {st : List Value} {w : pp_W} {K : pp_St} (hd : decode mi.by_ pc = .ok (.lsub, pp_len (.lsub) lk)) (hst : pp_stt mi pc c (.lsub) lk = true) (hsp : pp_sp g h mi.ret P Y X (.lsub) lk L st w K) (hK : ∀ L st w, K L st w → pp_ATc g R mi Z (off.1 + (pp_cs (.lsub) lk c).1, off.2 + (pp_cs (.lsub) lk c).2) (pc + pp_len (.lsub) lk) L st w) : pp_ATc g R mi Z (off.1 + c.1, off.2 + c.2) pc L st w := by
  obtain ⟨y, s, rfl, hk⟩ := pp_j_e hsp
  obtain ⟨x, s, rfl, hk⟩ := pp_j_e hk
  exact pr_lsub hd (hK _ _ _ hk)
theorem ps_lmul {c : Nat × Nat} {pc : Nat} {lk : pp_Lk} {L : List (Nat × Value)} {st : List Value} {w : pp_W} {K : pp_St} (hd : decode mi.by_ pc = .ok (.lmul, pp_len (.lmul) lk)) (hst : pp_stt mi pc c (.lmul) lk = true) (hsp : pp_sp g h mi.ret P Y X (.lmul) lk L st w K) (hK : ∀ L st w, K L st w → pp_ATc g R mi Z (off.1 + (pp_cs (.lmul) lk c).1, off.2 + (pp_cs (.lmul) lk c).2) (pc + pp_len (.lmul) lk) L st w) : pp_ATc g R mi Z (off.1 + c.1, off.2 + c.2) pc L st w := by
  obtain ⟨y, s, rfl, hk⟩ := pp_j_e hsp
  obtain ⟨x, s, rfl, hk⟩ := pp_j_e hk
  exact pr_lmul hd (hK _ _ _ hk)
theorem ps_land {c : Nat × Nat} {pc : Nat} {lk : pp_Lk} {L : List (Nat × Value)} {st : List Value} {w : pp_W} {K : pp_St} (hd : decode mi.by_ pc = .ok (.land, pp_len (.land) lk)) (hst : pp_stt mi pc c (.land) lk = true) (hsp : pp_sp g h mi.ret P Y X (.land) lk L st w K) (hK : ∀ L st w, K L st w → pp_ATc g R mi Z (off.1 + (pp_cs (.land) lk c).1, off.2 + (pp_cs (.land) lk c).2) (pc + pp_len (.land) lk) L st w) : pp_ATc g R mi Z (off.1 + c.1, off.2 + c.2) pc L st w := by
  obtain ⟨y, s, rfl, hk⟩ := pp_j_e hsp
  obtain ⟨x, s, rfl, hk⟩ := pp_j_e hk
  exact pr_land hd (hK _ _ _ hk)
theorem ps_lor {c : Nat × Nat} {pc : Nat} {lk : pp_Lk} {L : List (Nat × Value)} {st : List Value} {w : pp_W} {K : pp_St} (hd : decode mi.by_ pc = .ok (.lor, pp_len (.lor) lk)) (hst : pp_stt mi pc c (.lor) lk = true) (hsp : pp_sp g h mi.ret P Y X (.lor) lk L st w K) (hK : ∀ L st w, K L st w → pp_ATc g R mi Z (off.1 + (pp_cs (.lor) lk c).1, off.2 + (pp_cs (.lor) lk c).2) (pc + pp_len (.lor) lk) L st w) : pp_ATc g R mi Z (off.1 + c.1, off.2 + c.2) pc L st w := by
  obtain ⟨y, s, rfl, hk⟩ := pp_j_e hsp
  obtain ⟨x, s, rfl, hk⟩ := pp_j_e hk
  exact pr_lor hd (hK _ _ _ hk)
theorem ps_lxor {c : Nat × Nat} {pc : Nat} {lk : pp_Lk} {L : List (Nat × Value)} {st : List Value} {w : pp_W} {K : pp_St} (hd : decode mi.by_ pc = .ok (.lxor, pp_len (.lxor) lk)) (hst : pp_stt mi pc c (.lxor) lk = true) (hsp : pp_sp g h mi.ret P Y X (.lxor) lk L st w K) (hK : ∀ L st w, K L st w → pp_ATc g R mi Z (off.1 + (pp_cs (.lxor) lk c).1, off.2 + (pp_cs (.lxor) lk c).2) (pc + pp_len (.lxor) lk) L st w) : pp_ATc g R mi Z (off.1 + c.1, off.2 + c.2) pc L st w := by
  obtain ⟨y, s, rfl, hk⟩ := pp_j_e hsp
  obtain ⟨x, s, rfl, hk⟩ := pp_j_e hk
  exact pr_lxor hd (hK _ _ _ hk)
theorem ps_lcmp {c : Nat × Nat} {pc : Nat} {lk : pp_Lk} {L : List (Nat × Value)} {st : List Value} {w : pp_W} {K : pp_St} (hd : decode mi.by_ pc = .ok (.lcmp, pp_len (.lcmp) lk)) (hst : pp_stt mi pc c (.lcmp) lk = true) (hsp : pp_sp g h mi.ret P Y X (.lcmp) lk L st w K) (hK : ∀ L st w, K L st w → pp_ATc g R mi Z (off.1 + (pp_cs (.lcmp) lk c).1, off.2 + (pp_cs (.lcmp) lk c).2) (pc + pp_len (.lcmp) lk) L st w) : pp_ATc g R mi Z (off.1 + c.1, off.2 + c.2) pc L st w := by
  obtain ⟨y, s, rfl, hk⟩ := pp_j_e hsp
  obtain ⟨x, s, rfl, hk⟩ := pp_j_e hk
  exact pr_lcmp hd (hK _ _ _ hk)
theorem ps_ldiv {c : Nat × Nat} {pc : Nat} {lk : pp_Lk} {L : List (Nat × Value)} {st : List Value} {w : pp_W} {K : pp_St} (hd : decode mi.by_ pc = .ok (.ldiv, pp_len (.ldiv) lk)) (hst : pp_stt mi pc c (.ldiv) lk = true) (hsp : pp_sp g h mi.ret P Y X (.ldiv) lk L st w K) (hK : ∀ L st w, K L st w → pp_ATc g R mi Z (off.1 + (pp_cs (.ldiv) lk c).1, off.2 + (pp_cs (.ldiv) lk c).2) (pc + pp_len (.ldiv) lk) L st w) : pp_ATc g R mi Z (off.1 + c.1, off.2 + c.2) pc L st w := by
  obtain ⟨y, s, rfl, hk⟩ := pp_j_e hsp
  obtain ⟨x, s, rfl, hk⟩ := pp_j_e hk
  exact pr_ldiv hd hk.1 (hK _ _ _ hk.2)
theorem ps_lrem {c : Nat × Nat} {pc : Nat} {lk : pp_Lk} {L : List (Nat × Value)} {st : List Value} {w : pp_W} {K : pp_St} (hd : decode mi.by_ pc = .ok (.lrem, pp_len (.lrem) lk)) (hst : pp_stt mi pc c (.lrem) lk = true) (hsp : pp_sp g h mi.ret P Y X (.lrem) lk L st w K) (hK : ∀ L st w, K L st w → pp_ATc g R mi Z (off.1 + (pp_cs (.lrem) lk c).1, off.2 + (pp_cs (.lrem) lk c).2) (pc + pp_len (.lrem) lk) L st w) : pp_ATc g R mi Z (off.1 + c.1, off.2 + c.2) pc L st w := by
  obtain ⟨y, s, rfl, hk⟩ := pp_j_e hsp
  obtain ⟨x, s, rfl, hk⟩ := pp_j_e hk
  exact pr_lrem hd hk.1 (hK _ _ _ hk.2)
theorem ps_lshl {c : Nat × Nat} {pc : Nat} {lk : pp_Lk} {L : List (Nat × Value)} {st : List Value} {w : pp_W} {K : pp_St} (hd : decode mi.by_ pc = .ok (.lshl, pp_len (.lshl) lk)) (hst : pp_stt mi pc c (.lshl) lk = true) (hsp : pp_sp g h mi.ret P Y X (.lshl) lk L st w K) (hK : ∀ L st w, K L st w → pp_ATc g R mi Z (off.1 + (pp_cs (.lshl) lk c).1, off.2 + (pp_cs (.lshl) lk c).2) (pc + pp_len (.lshl) lk) L st w) : pp_ATc g R mi Z (off.1 + c.1, off.2 + c.2) pc L st w := by
  obtain ⟨y, s, rfl, hk⟩ := pp_i_e hsp
  obtain ⟨x, s, rfl, hk⟩ := pp_j_e hk
  exact pr_lshl hd (hK _ _ _ hk)
theorem ps_i2l {c : Nat × Nat} {pc : Nat} {lk : pp_Lk} {L : List (Nat × Value)} {st : List Value} {w : pp_W} {K : pp_St} (hd : decode mi.by_ pc = .ok (.i2l, pp_len (.i2l) lk)) (hst : pp_stt mi pc c (.i2l) lk = true) (hsp : pp_sp g h mi.ret P Y X (.i2l) lk L st w K) (hK : ∀ L st w, K L st w → pp_ATc g R mi Z (off.1 + (pp_cs (.i2l) lk c).1, off.2 + (pp_cs (.i2l) lk c).2) (pc + pp_len (.i2l) lk) L st w) : pp_ATc g R mi Z (off.1 + c.1, off.2 + c.2) pc L st w := by
  obtain ⟨x, s, rfl, hk⟩ := pp_i_e hsp
  exact pr_i2l hd (hK _ _ _ hk)
theorem ps_i2b {c : Nat × Nat} {pc : Nat} {lk : pp_Lk} {L : List (Nat × Value)} {st : List Value} {w : pp_W} {K : pp_St} (hd : decode mi.by_ pc = .ok (.i2b, pp_len (.i2b) lk)) (hst : pp_stt mi pc c (.i2b) lk = true) (hsp : pp_sp g h mi.ret P Y X (.i2b) lk L st w K) (hK : ∀ L st w, K L st w → pp_ATc g R mi Z (off.1 + (pp_cs (.i2b) lk c).1, off.2 + (pp_cs (.i2b) lk c).2) (pc + pp_len (.i2b) lk) L st w) : pp_ATc g R mi Z (off.1 + c.1, off.2 + c.2) pc L st w := by
  obtain ⟨x, s, rfl, hk⟩ := pp_i_e hsp
  exact pr_i2b hd (hK _ _ _ hk)
theorem ps_l2i {c : Nat × Nat} {pc : Nat} {lk : pp_Lk} {L : List (Nat × Value)} {st : List Value} {w : pp_W} {K : pp_St} (hd : decode mi.by_ pc = .ok (.l2i, pp_len (.l2i) lk)) (hst : pp_stt mi pc c (.l2i) lk = true) (hsp : pp_sp g h mi.ret P Y X (.l2i) lk L st w K) (hK : ∀ L st w, K L st w → pp_ATc g R mi Z (off.1 + (pp_cs (.l2i) lk c).1, off.2 + (pp_cs (.l2i) lk c).2) (pc + pp_len (.l2i) lk) L st w) : pp_ATc g R mi Z (off.1 + c.1, off.2 + c.2) pc L st w := by
  obtain ⟨x, s, rfl, hk⟩ := pp_j_e hsp
  exact pr_l2i hd (hK _ _ _ hk)
theorem ps_dup {c : Nat × Nat} {pc : Nat} {lk : pp_Lk} {L : List (Nat × Value)} {st : List Value} {w : pp_W} {K : pp_St} (hd : decode mi.by_ pc = .ok (.dup, pp_len (.dup) lk)) (hst : pp_stt mi pc c (.dup) lk = true) (hsp : pp_sp g h mi.ret P Y X (.dup) lk L st w K) (hK : ∀ L st w, K L st w → pp_ATc g R mi Z (off.1 + (pp_cs (.dup) lk c).1, off.2 + (pp_cs (.dup) lk c).2) (pc + pp_len (.dup) lk) L st w) : pp_ATc g R mi Z (off.1 + c.1, off.2 + c.2) pc L st w := by
  obtain ⟨v, s, rfl, hv, hk⟩ := pp_1_e hsp
  exact pr_dup hd hv (hK _ _ _ hk)
theorem ps_pop {c : Nat × Nat} {pc : Nat} {lk : pp_Lk} {L : List (Nat × Value)} {st : List Value} {w : pp_W} {K : pp_St} (hd : decode mi.by_ pc = .ok (.pop, pp_len (.pop) lk)) (hst : pp_stt mi pc c (.pop) lk = true) (hsp : pp_sp g h mi.ret P Y X (.pop) lk L st w K) (hK : ∀ L st w, K L st w → pp_ATc g R mi Z (off.1 + (pp_cs (.pop) lk c).1, off.2 + (pp_cs (.pop) lk c).2) (pc + pp_len (.pop) lk) L st w) : pp_ATc g R mi Z (off.1 + c.1, off.2 + c.2) pc L st w := by
  obtain ⟨v, s, rfl, hv, hk⟩ := pp_1_e hsp
  exact pr_pop hd hv (hK _ _ _ hk)
theorem ps_pop2 {c : Nat × Nat} {pc : Nat} {lk : pp_Lk} {L : List (Nat × Value)} {st : List Value} {w : pp_W} {K : pp_St} (hd : decode mi.by_ pc = .ok (.pop2, pp_len (.pop2) lk)) (hst : pp_stt mi pc c (.pop2) lk = true) (hsp : pp_sp g h mi.ret P Y X (.pop2) lk L st w K) (hK : ∀ L st w, K L st w → pp_ATc g R mi Z (off.1 + (pp_cs (.pop2) lk c).1, off.2 + (pp_cs (.pop2) lk c).2) (pc + pp_len (.pop2) lk) L st w) : pp_ATc g R mi Z (off.1 + c.1, off.2 + c.2) pc L st w := by
  obtain ⟨v, s, rfl, hv, hk⟩ := pp_2_e hsp
  exact pr_pop2 hd hv (hK _ _ _ hk)
theorem ps_dup2 {c : Nat × Nat} {pc : Nat} {lk : pp_Lk} {L : List (Nat × Value)} {st : List Value} {w : pp_W} {K : pp_St} (hd : decode mi.by_ pc = .ok (.dup2, pp_len (.dup2) lk)) (hst : pp_stt mi pc c (.dup2) lk = true) (hsp : pp_sp g h mi.ret P Y X (.dup2) lk L st w K) (hK : ∀ L st w, K L st w → pp_ATc g R mi Z (off.1 + (pp_cs (.dup2) lk c).1, off.2 + (pp_cs (.dup2) lk c).2) (pc + pp_len (.dup2) lk) L st w) : pp_ATc g R mi Z (off.1 + c.1, off.2 + c.2) pc L st w := by
  obtain ⟨v, s, rfl, hv, hk⟩ := pp_1_e hsp
  obtain ⟨u, s, rfl, hu, hk⟩ := pp_1_e hk
  exact pr_dup2 hd hv hu (hK _ _ _ hk)
theorem ps_ifCond {q : ClassFile.Cond} {o : Int} {c : Nat × Nat} {pc : Nat} {lk : pp_Lk} {L : List (Nat × Value)} {st : List Value} {w : pp_W} {K : pp_St} (hd : decode mi.by_ pc = .ok (.ifCond q o, pp_len (.ifCond q o) lk)) (hst : pp_stt mi pc c (.ifCond q o) lk = true) (hsp : pp_sp g h mi.ret P Y X (.ifCond q o) lk L st w K) (hX : ∀ t L st w, X t L st w → pp_AT g R mi Z off t L st w) (hK : ∀ L st w, K L st w → pp_ATc g R mi Z (off.1 + (pp_cs (.ifCond q o) lk c).1, off.2 + (pp_cs (.ifCond q o) lk c).2) (pc + pp_len (.ifCond q o) lk) L st w) : pp_ATc g R mi Z (off.1 + c.1, off.2 + c.2) pc L st w := by
  match lk, hst, hsp, hd, hK with
  | .inl (t, a, b), hst, hsp, hd, hK =>
    obtain ⟨x, s, rfl, h1, h2⟩ := pp_i_e hsp
    have ht := pp_tgt_1 hst
    cases q
    · exact pr_if_eq hd ht (fun z => (pp_toT hX hst (h1 z)).2) (fun z => hK _ _ _ (h2 z))
    · exact pr_if_ne hd ht (fun z => (pp_toT hX hst (h1 z)).2) (fun z => hK _ _ _ (h2 z))
    · exact pr_if_lt hd ht (fun z => (pp_toT hX hst (h1 z)).2) (fun z => hK _ _ _ (h2 z))
    · exact pr_if_ge hd ht (fun z => (pp_toT hX hst (h1 z)).2) (fun z => hK _ _ _ (h2 z))
    · exact pr_if_gt hd ht (fun z => (pp_toT hX hst (h1 z)).2) (fun z => hK _ _ _ (h2 z))
    · exact pr_if_le hd ht (fun z => (pp_toT hX hst (h1 z)).2) (fun z => hK _ _ _ (h2 z))
theorem ps_if_icmp {q : ClassFile.Cond} {o : Int} {c : Nat × Nat} {pc : Nat} {lk : pp_Lk} {L : List (Nat × Value)} {st : List Value} {w : pp_W} {K : pp_St} (hd : decode mi.by_ pc = .ok (.if_icmp q o, pp_len (.if_icmp q o) lk)) (hst : pp_stt mi pc c (.if_icmp q o) lk = true) (hsp : pp_sp g h mi.ret P Y X (.if_icmp q o) lk L st w K) (hX : ∀ t L st w, X t L st w → pp_AT g R mi Z off t L st w) (hK : ∀ L st w, K L st w → pp_ATc g R mi Z (off.1 + (pp_cs (.if_icmp q o) lk c).1, off.2 + (pp_cs (.if_icmp q o) lk c).2) (pc + pp_len (.if_icmp q o) lk) L st w) : pp_ATc g R mi Z (off.1 + c.1, off.2 + c.2) pc L st w := by
  match lk, hst, hsp, hd, hK with
  | .inl (t, a, b), hst, hsp, hd, hK =>
    obtain ⟨y, s, rfl, hk⟩ := pp_i_e hsp
    obtain ⟨x, s, rfl, h1, h2⟩ := pp_i_e hk
    have ht := pp_tgt_1 hst
    cases q
    · exact pr_icmp_eq hd ht (fun z => (pp_toT hX hst (h1 z)).2) (fun z => hK _ _ _ (h2 z))
    · exact pr_icmp_ne hd ht (fun z => (pp_toT hX hst (h1 z)).2) (fun z => hK _ _ _ (h2 z))
    · exact pr_icmp_lt hd ht (fun z => (pp_toT hX hst (h1 z)).2) (fun z => hK _ _ _ (h2 z))
    · exact pr_icmp_ge hd ht (fun z => (pp_toT hX hst (h1 z)).2) (fun z => hK _ _ _ (h2 z))
    · exact pr_icmp_gt hd ht (fun z => (pp_toT hX hst (h1 z)).2) (fun z => hK _ _ _ (h2 z))
    · exact pr_icmp_le hd ht (fun z => (pp_toT hX hst (h1 z)).2) (fun z => hK _ _ _ (h2 z))
theorem ps_goto {o : Int} {c : Nat × Nat} {pc : Nat} {lk : pp_Lk} {L : List (Nat × Value)} {st : List Value} {w : pp_W} {K : pp_St} (hd : decode mi.by_ pc = .ok (.goto o, pp_len (.goto o) lk)) (hst : pp_stt mi pc c (.goto o) lk = true) (hsp : pp_sp g h mi.ret P Y X (.goto o) lk L st w K) (hX : ∀ t L st w, X t L st w → pp_AT g R mi Z off t L st w) (hK : ∀ L st w, K L st w → pp_ATc g R mi Z (off.1 + (pp_cs (.goto o) lk c).1, off.2 + (pp_cs (.goto o) lk c).2) (pc + pp_len (.goto o) lk) L st w) : pp_ATc g R mi Z (off.1 + c.1, off.2 + c.2) pc L st w := by
  match lk, hst, hsp, hd, hK with
  | .inl (t, a, b), hst, hsp, hd, hK => exact pr_goto hd (pp_tgt_1 hst) (pp_toT hX hst hsp).2
theorem ps_ifnull {o : Int} {c : Nat × Nat} {pc : Nat} {lk : pp_Lk} {L : List (Nat × Value)} {st : List Value} {w : pp_W} {K : pp_St} (hd : decode mi.by_ pc = .ok (.ifnull o, pp_len (.ifnull o) lk)) (hst : pp_stt mi pc c (.ifnull o) lk = true) (hsp : pp_sp g h mi.ret P Y X (.ifnull o) lk L st w K) (hX : ∀ t L st w, X t L st w → pp_AT g R mi Z off t L st w) (hK : ∀ L st w, K L st w → pp_ATc g R mi Z (off.1 + (pp_cs (.ifnull o) lk c).1, off.2 + (pp_cs (.ifnull o) lk c).2) (pc + pp_len (.ifnull o) lk) L st w) : pp_ATc g R mi Z (off.1 + c.1, off.2 + c.2) pc L st w := by
  match lk, hst, hsp, hd, hK with
  | .inl (t, a, b), hst, hsp, hd, hK =>
    have hsp : pp_q st (fun x st => match x with | none => X t L st w | some _ => K L st w) := hsp
    obtain ⟨x, s, rfl, hk⟩ := pp_q_e hsp
    cases x with
    | none => exact pr_ifnullN hd (pp_tgt_1 hst) (pp_toT hX hst hk).2
    | some x => exact pr_ifnull hd (hK _ _ _ hk)
theorem ps_ifnonnull {o : Int} {c : Nat × Nat} {pc : Nat} {lk : pp_Lk} {L : List (Nat × Value)} {st : List Value} {w : pp_W} {K : pp_St} (hd : decode mi.by_ pc = .ok (.ifnonnull o, pp_len (.ifnonnull o) lk)) (hst : pp_stt mi pc c (.ifnonnull o) lk = true) (hsp : pp_sp g h mi.ret P Y X (.ifnonnull o) lk L st w K) (hX : ∀ t L st w, X t L st w → pp_AT g R mi Z off t L st w) (hK : ∀ L st w, K L st w → pp_ATc g R mi Z (off.1 + (pp_cs (.ifnonnull o) lk c).1, off.2 + (pp_cs (.ifnonnull o) lk c).2) (pc + pp_len (.ifnonnull o) lk) L st w) : pp_ATc g R mi Z (off.1 + c.1, off.2 + c.2) pc L st w := by
  match lk, hst, hsp, hd, hK with
  | .inl (t, a, b), hst, hsp, hd, hK =>
    have hsp : pp_q st (fun x st => match x with | none => K L st w | some _ => X t L st w) := hsp
    obtain ⟨x, s, rfl, hk⟩ := pp_q_e hsp
    cases x with
    | none => exact pr_ifnonnullN hd (hK _ _ _ hk)
    | some x => exact pr_ifnonnull hd (pp_tgt_1 hst) (pp_toT hX hst hk).2
theorem pp_sw_e {X : Nat → Prop} {x : Int32} : ∀ (ts : List Nat) (lo : Int) (k t : Nat), pp_sw X x lo ts → ts[k]? = some t → x.toInt = lo + k → X t := by
  intro ts
  induction ts with
  | nil => intro lo k t _ h; simp at h
  | cons a ts ih =>
    intro lo k t hs hk hx
    cases k with
    | zero =>
      simp only [List.getElem?_cons_zero, Option.some.injEq] at hk
      subst hk
      refine hs.1 ?_
      have : lo = x.toInt := by simpa using hx.symm
      rw [this, Int32.ofInt_toInt]
    | succ k => exact ih (lo + 1) k t hs.2 (by simpa using hk) (by rw [hx]; push_cast; omega)
theorem ps_tableswitch {d lo hi : Int} {offs : Array Int} {c : Nat × Nat} {pc : Nat} {lk : pp_Lk} {L : List (Nat × Value)} {st : List Value} {w : pp_W} {K : pp_St} (hd : decode mi.by_ pc = .ok (.tableswitch d lo hi offs, pp_len (.tableswitch d lo hi offs) lk)) (hst : pp_stt mi pc c (.tableswitch d lo hi offs) lk = true) (hsp : pp_sp g h mi.ret P Y X (.tableswitch d lo hi offs) lk L st w K) (hX : ∀ t L st w, X t L st w → pp_AT g R mi Z off t L st w) (hK : ∀ L st w, K L st w → pp_ATc g R mi Z (off.1 + (pp_cs (.tableswitch d lo hi offs) lk c).1, off.2 + (pp_cs (.tableswitch d lo hi offs) lk c).2) (pc + pp_len (.tableswitch d lo hi offs) lk) L st w) : pp_ATc g R mi Z (off.1 + c.1, off.2 + c.2) pc L st w := by
  match lk, hst, hsp, hd, hK with
  | .inl (td, len, ts), hst, hsp, hd, hK =>
    simp only [pp_stt, Bool.and_eq_true, decide_eq_true_eq] at hst
    obtain ⟨⟨⟨ht, hhi⟩, hof⟩, hall⟩ := hst
    obtain ⟨x, s, rfl, h1, h2⟩ := pp_i_e hsp
    by_cases hlo : x.toInt < lo
    · exact pr_tableOut hd (Or.inl hlo) (pp_tgt_1 ht) (pp_toT hX ht (h2 (Or.inl hlo))).2
    · by_cases hhi2 : hi < x.toInt
      · exact pr_tableOut hd (Or.inr hhi2) (pp_tgt_1 ht) (pp_toT hX ht (h2 (Or.inr hhi2))).2
      · obtain ⟨k, hk⟩ : ∃ k : Nat, x.toInt = lo + k := ⟨(x.toInt - lo).toNat, by omega⟩
        have hkl : k < ts.length := by omega
        have hlen : offs.toList.length = ts.length := by
          have := congrArg List.length hof
          simpa using this
        obtain ⟨t, htk⟩ : ∃ t, ts[k]? = some t := ⟨_, List.getElem?_eq_getElem hkl⟩
        obtain ⟨o, hok⟩ : ∃ o, offs.toList[k]? = some o := ⟨_, List.getElem?_eq_getElem (by omega)⟩
        have hpt : (pc : Int) + o = (t : Int) := by
          have := congrArg (fun l : List Int => l[k]?) hof
          simp only [List.getElem?_map, hok, htk, Option.map_some, Option.some.injEq] at this
          exact this
        have hle := pp_le_1 (List.all_eq_true.mp hall t (List.mem_of_getElem? htk))
        refine pr_tableIn (off := o) hd hlo hhi2 ?_ hpt ((hX t _ _ _ (pp_sw_e ts lo k t h1 htk hk)).le (by show off.1 + c.1 ≤ off.1 + _; omega) (by show off.2 + c.2 ≤ off.2 + _; omega))
        rw [show (x.toInt - lo).toNat = k by omega, ← Array.getElem?_toList]
        exact hok
end Sound
end
section
/-! THE ENGINE, 12: soundness, the heap and calls -/
section Outside
variable {g : pp_G} {R : Room} {mi mj : pp_MI} {Z : pp_CT → State → Prop} {cs : Nat × Nat} {pc h : Nat} {L : List (Nat × Value)} {st : List Value} {w : pp_W}
theorem pp_ad_lo (g : pp_G) {k : Nat} (h : k < 64) : pp_ad g k = pp_x g k := if_pos h
theorem pr_xval {idx a : Nat} (hd : decode mi.by_ pc = .ok (.getfield idx, 3)) (hlk : Cond.fieldLink mi.y.cls idx "java/lang/String" "value" "[B" ∈ pp_T) (ha : 1 ≤ a ∧ a ≤ 15) (kk : pp_ATc g R mi Z cs (pc + 3) L (.ref (a + 15) :: st) w) : pp_ATc g R mi Z cs pc L (.ref a :: st) w := by
  intro t C H locs ls cells slots hP hS hl h1 h2
  have kw := kk t C H locs ls cells slots hP hS hl h1 h2
  obtain ⟨i, rfl⟩ : ∃ i, a = i + 1 := ⟨a - 1, by omega⟩
  simp only [List.map_cons, pp_v] at kw ⊢
  rw [pp_ad_lo g (by omega)] at kw ⊢
  exact vk_getf C.1 C.2.1 (C.2.2.2.2.2.2.2.2.2.2.1.1 i (by omega)).2.2.1 hS C.2.2.2.1 (C.2.2.2.2.1 _ hlk) (fun _ h => h) hd kw
theorem pr_xcod {idx a : Nat} (hd : decode mi.by_ pc = .ok (.getfield idx, 3)) (hlk : Cond.fieldLink mi.y.cls idx "java/lang/String" "coder" "B" ∈ pp_T) (ha : 1 ≤ a ∧ a ≤ 15) (kk : pp_ATc g R mi Z cs (pc + 3) L (.int 0 :: st) w) : pp_ATc g R mi Z cs pc L (.ref a :: st) w := by
  intro t C H locs ls cells slots hP hS hl h1 h2
  have kw := kk t C H locs ls cells slots hP hS hl h1 h2
  obtain ⟨i, rfl⟩ : ∃ i, a = i + 1 := ⟨a - 1, by omega⟩
  simp only [List.map_cons, pp_v] at kw ⊢
  rw [pp_ad_lo g (by omega)]
  exact vk_getf C.1 C.2.1 (C.2.2.2.2.2.2.2.2.2.2.1.1 i (by omega)).2.1 hS C.2.2.2.1 (C.2.2.2.2.1 _ hlk) (fun _ h => h) hd kw
theorem pr_xcs {idx : Nat} (hd : decode mi.by_ pc = .ok (.getstatic idx, 3)) (hlk : Cond.fieldLink mi.y.cls idx "java/lang/String" "COMPACT_STRINGS" "Z" ∈ pp_T) (kk : pp_ATc g R mi Z cs (pc + 3) L (.int 1 :: st) w) : pp_ATc g R mi Z cs pc L st w :=
  fun t C H locs ls cells slots hP hS hl h1 h2 => va_gets C.1 C.2.1 C.2.2.2.2.2.2.2.2.2.2.1.2.2.2.2.2.2.2.1 hS C.2.2.2.1 (C.2.2.2.2.1 _ hlk) (fun _ h => h) hd (kk t C H locs ls cells slots hP hS hl h1 h2)
theorem pr_xfm {idx : Nat} (hd : decode mi.by_ pc = .ok (.getstatic idx, 3)) (hlk : Cond.fieldLink mi.y.cls idx "jdk/internal/util/Preconditions" "SIOOBE_FORMATTER" "Ljava/util/function/BiFunction;" ∈ pp_T) (k1 : pp_ATc g R mi Z cs (pc + 3) L (.null :: st) w) (k2 : pp_ATc g R mi Z cs (pc + 3) L (.ref 31 :: st) w) : pp_ATc g R mi Z cs pc L st w := by
  intro t C H locs ls cells slots hP hS hl h1 h2
  rcases C.2.2.2.2.2.2.2.2.2.2.1.2.2.2.2.2.2.2.2.1 with z | z
  · exact va_gets C.1 C.2.1 z hS C.2.2.2.1 (C.2.2.2.2.1 _ hlk) (fun _ h => h) hd (k1 t C H locs ls cells slots hP hS hl h1 h2)
  · exact va_gets C.1 C.2.1 z hS C.2.2.2.1 (C.2.2.2.2.1 _ hlk) (fun _ h => h) hd (k2 t C H locs ls cells slots hP hS hl h1 h2)
theorem pr_xlen {a : Nat} (hd : decode mi.by_ pc = .ok (.arraylength, 1)) (ha : 16 ≤ a ∧ a ≤ 30) (kk : pp_ATc g R mi Z cs (pc + 1) L (.int (Int32.ofNat (pp_txt.getD (a - 16) []).length) :: st) w) : pp_ATc g R mi Z cs pc L (.ref a :: st) w := by
  intro t C H locs ls cells slots hP hS hl h1 h2
  have kw := kk t C H locs ls cells slots hP hS hl h1 h2
  obtain ⟨i, rfl⟩ : ∃ i, a = i + 16 := ⟨a - 16, by omega⟩
  simp only [List.map_cons, pp_v] at kw ⊢
  rw [pp_ad_lo g (by omega)]
  rw [Nat.add_sub_cancel] at kw
  exact va_tlen C.1 C.2.1 (C.2.2.2.2.2.2.2.2.2.2.1.1 i (by omega)).2.2.2 hS rfl hd kw
theorem pr_xld {a : Nat} {j : Int32} (hd : decode mi.by_ pc = .ok (.baload, 1)) (ha : 16 ≤ a ∧ a ≤ 30) (hin : vp_in j (pp_txt.getD (a - 16) []).length) (kk : pp_ATc g R mi Z cs (pc + 1) L (.int ((pp_txt.getD (a - 16) []).getD j.toNatClampNeg 0) :: st) w) : pp_ATc g R mi Z cs pc L (.int j :: .ref a :: st) w := by
  intro t C H locs ls cells slots hP hS hl h1 h2
  have kw := kk t C H locs ls cells slots hP hS hl h1 h2
  obtain ⟨i, rfl⟩ : ∃ i, a = i + 16 := ⟨a - 16, by omega⟩
  simp only [List.map_cons, pp_v] at kw ⊢
  rw [pp_ad_lo g (by omega)]
  rw [Nat.add_sub_cancel] at kw hin
  exact va_tb C.1 C.2.1 (C.2.2.2.2.2.2.2.2.2.2.1.1 i (by omega)).2.2.2 hS hin rfl hd kw
theorem pr_slen {a : Nat} (hd : decode mi.by_ pc = .ok (.arraylength, 1)) (hy : mi.y = yL_law) (ha : a = 0) (kk : pp_ATc g R mi Z cs (pc + 1) L (.int (Int32.ofNat (pp_sL g)) :: st) w) : pp_ATc g R mi Z cs pc L (.ref a :: st) w := by
  intro t C H locs ls cells slots hP hS hl h1 h2
  have kw := kk t C H locs ls cells slots hP hS hl h1 h2
  subst ha
  simp only [List.map_cons, pp_v] at kw ⊢
  rw [pp_ad_lo g (by omega)]
  obtain ⟨hX, hlt⟩ := C.2.2.2.2.2.2.2.2.2.2.2.2.2 hy
  have hb0 := C.2.2.2.2.2.2.2.2.2.2.2.1
  exact va_slen (A := pp_A g) C.1 C.2.1 hX (by omega) (Nat.not_le.mpr hlt) hS hd kw
theorem pr_sld {a : Nat} {j : Int32} (hd : decode mi.by_ pc = .ok (.iaload, 1)) (hy : mi.y = yL_law) (ha : a = 0) (hin : vp_in j (pp_sL g)) (kk : pp_ATc g R mi Z cs (pc + 1) L (.int (pp_sx g j.toNatClampNeg) :: st) w) : pp_ATc g R mi Z cs pc L (.int j :: .ref a :: st) w := by
  intro t C H locs ls cells slots hP hS hl h1 h2
  have kw := kk t C H locs ls cells slots hP hS hl h1 h2
  subst ha
  simp only [List.map_cons, pp_v] at kw ⊢
  rw [pp_ad_lo g (by omega)]
  obtain ⟨hX, hlt⟩ := C.2.2.2.2.2.2.2.2.2.2.2.2.2 hy
  have hb0 := C.2.2.2.2.2.2.2.2.2.2.2.1
  exact va_sld (A := pp_A g) C.1 C.2.1 hX (by omega) (Nat.not_le.mpr hlt) hS hin hd kw
theorem pr_i2c {x : Int32} (hd : decode mi.by_ pc = .ok (.i2c, 1)) (kk : pp_ATc g R mi Z cs (pc + 1) L (.int (x.toUInt32 % 65536).toInt32 :: st) w) : pp_ATc g R mi Z cs pc L (.int x :: st) w :=
  fun t C H locs ls cells slots hP hS hl a b => lv_i2c C.1 C.2.1 hd rfl (kk t C H locs ls cells slots hP hS hl a b)
theorem pr_callX {idx b : Nat} {As : List Value} {P : pp_R → pp_W → Prop} (hd : decode mi.by_ pc = .ok (.invokevirtual idx, 3)) (hlk : Cond.methodLink mi.y.cls idx mj.y ∈ pp_T) (hkd : mj.kd = 1) (hh : mj.hh = []) (hrc : mj.y.cls = "java/lang/String") (hb9 : 1 ≤ b ∧ b ≤ 15) (hlen : As.length = mj.np) (hR : pp_big R h) (hc : cs.1 + mj.mc ≤ R.cells) (hs : cs.2 + mj.ms ≤ R.slots) (hst : st.length ≤ 4)
    (hM : pp_MW g h mj (.ref b :: As) w P) (hk : ∀ r w, P r w → pp_K1 g R mi Z (cs.1 + mj.mc, cs.2 + mj.ms) pc L st r w) : pp_ATc g R mi Z cs pc L (As.reverse ++ .ref b :: st) w := by
  intro t C H locs ls cells slots hP hS hl h1 h2
  have hok := hM.1
  obtain ⟨hsel1, hsel2⟩ : Cond.instanceMethod mj.y ∈ pp_T ∧ Cond.selects mj.y.cls mj.y mj.y ∈ pp_T := by
    rcases hok.2.2.2.2.2.2.1 with ⟨h, -⟩ | ⟨-, h⟩ | ⟨h, -⟩
    · rw [hkd] at h; cases h
    · exact h
    · rw [hkd] at h; cases h
  have e9 : (As.reverse ++ .ref b :: st).map (pp_v g) = (As.map (pp_v g)).reverse ++ .ref (pp_ad g b) :: st.map (pp_v g) := by
    rw [List.map_append, List.map_reverse]; rfl
  rw [e9]
  have hrecv : ∃ cell : Cell, H[pp_ad g b]? = some cell ∧ cell.vm.isStatics = false ∧ t.s.vm.findClass "java/lang/String" = some cell.cls := by
    obtain ⟨i, rfl⟩ : ∃ i, b = i + 1 := ⟨b - 1, by omega⟩
    rw [pp_ad_lo g (by omega)]
    obtain ⟨cell, q1, q2, q3, -⟩ := (C.2.2.2.2.2.2.2.2.2.2.1.1 i (by omega)).1.kept hS.2.1
    exact ⟨cell, q1, q2, q3⟩
  refine pp_after C hS hl (vx_runV (C := "java/lang/String") (As := As.map (pp_v g)) (b := pp_ad g b) ⟨C.1, C.2.1, C.2.2.1, C.2.2.2.1, C.2.2.2.2.1⟩ hM.2 ⟨pp_callB C hok hh hR hlk, C.2.2.2.2.1 _ hsel1, by rw [← hrc]; exact C.2.2.2.2.1 _ hsel2⟩ ⟨pp_blind g _ w, hrecv, pp_pre C hP hS (.ref b :: As)⟩ rfl (by rw [List.length_map]; exact hlen) hl.1 rfl (pp_rest g hst) hd ⟨by omega, by omega⟩) h1 h2 hk
theorem pp_mathW : ∀ w ∈ [Cond.static Lib.Math.min.name, Cond.static Lib.Math.max.name, Cond.static Lib.MathLoose.min_long.x, Cond.initialized "java/lang/Math", Cond.code Lib.Math.min.name Lib.Math.min.code 2 (some .int), Cond.code Lib.Math.max.name Lib.Math.max.code 2 (some .int), Cond.code Lib.MathLoose.min_long.x Lib.MathLoose.min_long.code 4 (some .long)], w ∈ pp_T := pp_sub (by decide +kernel)
theorem pr_min {idx : Nat} {x y : Int32} (hd : decode mi.by_ pc = .ok (.invokestatic idx, 3)) (hlk : Cond.methodLink mi.y.cls idx Lib.Math.min.name ∈ pp_T) (hR : pp_big R h) (hc : cs.1 ≤ R.cells) (hs : cs.2 ≤ R.slots) (hst : st.length ≤ 4) (kk : pp_ATc g R mi Z cs (pc + 3) L (.int (if y < x then y else x) :: st) w) : pp_ATc g R mi Z cs pc L (.int y :: .int x :: st) w :=
  fun t C H locs ls cells slots hP hS hl h1 h2 => va_mmin C.1 C.2.1 (by rw [C.2.2.1]; exact hl.1.symm) C.2.2.2.1 (C.2.2.2.2.1 _ hlk) (C.2.2.2.2.1 _ (pp_mathW _ (by simp))) (C.2.2.2.2.1 _ (pp_mathW _ (by simp))) (C.2.2.2.2.1 _ (pp_mathW _ (by simp))) (by have := hR.1; omega) (by have := hR.2; have := pp_cat_le g st; omega) (by omega) (by omega) hd (kk t C H locs ls cells slots hP hS hl h1 h2)
theorem pr_max {idx : Nat} {x y : Int32} (hd : decode mi.by_ pc = .ok (.invokestatic idx, 3)) (hlk : Cond.methodLink mi.y.cls idx Lib.Math.max.name ∈ pp_T) (hR : pp_big R h) (hc : cs.1 ≤ R.cells) (hs : cs.2 ≤ R.slots) (hst : st.length ≤ 4) (kk : pp_ATc g R mi Z cs (pc + 3) L (.int (if x < y then y else x) :: st) w) : pp_ATc g R mi Z cs pc L (.int y :: .int x :: st) w :=
  fun t C H locs ls cells slots hP hS hl h1 h2 => va_mmax C.1 C.2.1 (by rw [C.2.2.1]; exact hl.1.symm) C.2.2.2.1 (C.2.2.2.2.1 _ hlk) (C.2.2.2.2.1 _ (pp_mathW _ (by simp))) (C.2.2.2.2.1 _ (pp_mathW _ (by simp))) (C.2.2.2.2.1 _ (pp_mathW _ (by simp))) (by have := hR.1; omega) (by have := hR.2; have := pp_cat_le g st; omega) (by omega) (by omega) hd (kk t C H locs ls cells slots hP hS hl h1 h2)
theorem pr_minL {idx : Nat} {x y : Int64} (hd : decode mi.by_ pc = .ok (.invokestatic idx, 3)) (hlk : Cond.methodLink mi.y.cls idx Lib.MathLoose.min_long.x ∈ pp_T) (hR : pp_big R h) (hc : cs.1 ≤ R.cells) (hs : cs.2 ≤ R.slots) (hst : st.length ≤ 4) (kk : pp_ATc g R mi Z cs (pc + 3) L (.long (if y < x then y else x) :: st) w) : pp_ATc g R mi Z cs pc L (.long y :: .long x :: st) w :=
  fun t C H locs ls cells slots hP hS hl h1 h2 => va_mmin_long C.1 C.2.1 (by rw [C.2.2.1]; exact hl.1.symm) C.2.2.2.1 (C.2.2.2.2.1 _ hlk) (C.2.2.2.2.1 _ (pp_mathW _ (by simp))) (C.2.2.2.2.1 _ (pp_mathW _ (by simp))) (C.2.2.2.2.1 _ (pp_mathW _ (by simp))) (by have := hR.1; omega) (by have := hR.2; have := pp_cat_le g st; omega) (by omega) (by omega) hd (kk t C H locs ls cells slots hP hS hl h1 h2)
end Outside
section Sound2
variable {g : pp_G} {R : Room} {mi : pp_MI} {Z : pp_CT → State → Prop} {off : Nat × Nat} {P : pp_R → pp_W → Prop} {Y : String → pp_W → Prop} {X : Nat → pp_St} {h : Nat}
theorem pp_fl_e {n ci k t p : Nat} {b : Bool} (hf : pp_fl mi n ci k t p b = true) : ∃ r : vw_C, pp_cl[ci]? = some r ∧ k < r.2.2 ∧ pp_fk ci k = t ∧ Cond.fieldLink mi.y.cls n (r.2.1 k).1 (r.2.1 k).2.1 (r.2.1 k).2.2.1 ∈ pp_T ∧ (b = true → (r.2.1 k).2.2.2 = false ∨ ((r.2.1 k).2.2.2 = true ∧ mi.y.name = "<init>" ∧ (r.2.1 k).1 = mi.y.cls)) := by
  unfold pp_fl at hf
  split at hf
  · rename_i r hr
    simp only [Bool.and_eq_true, decide_eq_true_eq, Bool.or_eq_true, Bool.not_eq_true'] at hf
    obtain ⟨⟨⟨h1, h2⟩, h3⟩, h4⟩ := hf
    refine ⟨r, hr, h1, h2, pp_w_in h3, fun hb => ?_⟩
    rcases h4 with (h4 | h4) | h4
    · rw [hb] at h4; cases h4
    · exact Or.inl h4
    · cases hz : (r.2.1 k).2.2.2 with
      | false => exact Or.inl rfl
      | true => exact Or.inr ⟨rfl, h4.1, h4.2⟩
  · cases hf
theorem ps_getfield {n : Nat} {c : Nat × Nat} {pc : Nat} {lk : pp_Lk} {L : List (Nat × Value)} {st : List Value} {w : pp_W} {K : pp_St} (hd : decode mi.by_ pc = .ok (.getfield n, pp_len (.getfield n) lk)) (hst : pp_stt mi pc c (.getfield n) lk = true) (hsp : pp_sp g h mi.ret P Y X (.getfield n) lk L st w K) (hK : ∀ L st w, K L st w → pp_ATc g R mi Z (off.1 + (pp_cs (.getfield n) lk c).1, off.2 + (pp_cs (.getfield n) lk c).2) (pc + pp_len (.getfield n) lk) L st w) : pp_ATc g R mi Z (off.1 + c.1, off.2 + c.2) pc L st w := by
  match lk, hst, hsp, hd, hK with
  | .inl (ci, k, 0 :: p :: l), hst, hsp, hd, hK =>
    obtain ⟨a, s, rfl, ha, hk⟩ := pp_r_e hsp
    obtain ⟨r, hr, h1, h2, h3, -⟩ := pp_fl_e hst
    exact pr_get hd hr h1 h3 ha (by rw [h2]; rfl) (hK _ _ _ hk)
  | .inl (ci, k, 1 :: p :: l), hst, hsp, hd, hK =>
    obtain ⟨a, s, rfl, ha, hk⟩ := pp_r_e hsp
    obtain ⟨r, hr, h1, h2, h3, -⟩ := pp_fl_e hst
    exact pr_get hd hr h1 h3 ha (by rw [h2]; rfl) (hK _ _ _ hk)
  | .inl (ci, k, 2 :: p :: l), hst, hsp, hd, hK =>
    obtain ⟨a, s, rfl, ha, hk⟩ := pp_r_e hsp
    obtain ⟨r, hr, h1, h2, h3, -⟩ := pp_fl_e hst
    exact pr_get hd hr h1 h3 ha (by rw [h2]; exact pp_v_rf g _) (hK _ _ _ hk)
  | .inl (ci, k, 3 :: p :: l), hst, hsp, hd, hK =>
    obtain ⟨a, s, rfl, ha, hk⟩ := pp_r_e hsp
    exact pr_xval hd (pp_w_in hst) ha (hK _ _ _ hk)
  | .inl (ci, k, 4 :: p :: l), hst, hsp, hd, hK =>
    obtain ⟨a, s, rfl, ha, hk⟩ := pp_r_e hsp
    exact pr_xcod hd (pp_w_in hst) ha (hK _ _ _ hk)
theorem ps_getstatic {n : Nat} {c : Nat × Nat} {pc : Nat} {lk : pp_Lk} {L : List (Nat × Value)} {st : List Value} {w : pp_W} {K : pp_St} (hd : decode mi.by_ pc = .ok (.getstatic n, pp_len (.getstatic n) lk)) (hst : pp_stt mi pc c (.getstatic n) lk = true) (hsp : pp_sp g h mi.ret P Y X (.getstatic n) lk L st w K) (hK : ∀ L st w, K L st w → pp_ATc g R mi Z (off.1 + (pp_cs (.getstatic n) lk c).1, off.2 + (pp_cs (.getstatic n) lk c).2) (pc + pp_len (.getstatic n) lk) L st w) : pp_ATc g R mi Z (off.1 + c.1, off.2 + c.2) pc L st w := by
  match lk, hst, hsp, hd, hK with
  | .inl (0, p, l), hst, hsp, hd, hK => exact pr_xcs hd (pp_w_in hst) (hK _ _ _ hsp)
  | .inl (1, p, l), hst, hsp, hd, hK => exact pr_xfm hd (pp_w_in hst) (hK _ _ _ hsp.1) (hK _ _ _ hsp.2)
theorem ps_i2c {c : Nat × Nat} {pc : Nat} {lk : pp_Lk} {L : List (Nat × Value)} {st : List Value} {w : pp_W} {K : pp_St} (hd : decode mi.by_ pc = .ok (.i2c, pp_len (.i2c) lk)) (hst : pp_stt mi pc c (.i2c) lk = true) (hsp : pp_sp g h mi.ret P Y X (.i2c) lk L st w K) (hK : ∀ L st w, K L st w → pp_ATc g R mi Z (off.1 + (pp_cs (.i2c) lk c).1, off.2 + (pp_cs (.i2c) lk c).2) (pc + pp_len (.i2c) lk) L st w) : pp_ATc g R mi Z (off.1 + c.1, off.2 + c.2) pc L st w := by
  obtain ⟨x, s, rfl, hk⟩ := pp_i_e hsp
  exact pr_i2c hd (hK _ _ _ hk)
theorem ps_putfield {n : Nat} {c : Nat × Nat} {pc : Nat} {lk : pp_Lk} {L : List (Nat × Value)} {st : List Value} {w : pp_W} {K : pp_St} (hd : decode mi.by_ pc = .ok (.putfield n, pp_len (.putfield n) lk)) (hst : pp_stt mi pc c (.putfield n) lk = true) (hsp : pp_sp g h mi.ret P Y X (.putfield n) lk L st w K) (hK : ∀ L st w, K L st w → pp_ATc g R mi Z (off.1 + (pp_cs (.putfield n) lk c).1, off.2 + (pp_cs (.putfield n) lk c).2) (pc + pp_len (.putfield n) lk) L st w) : pp_ATc g R mi Z (off.1 + c.1, off.2 + c.2) pc L st w := by
  match lk, hst, hsp, hd, hK with
  | .inl (ci, k, 0 :: p :: l), hst, hsp, hd, hK =>
    obtain ⟨x, s, rfl, hk⟩ := pp_i_e hsp
    obtain ⟨a, s, rfl, ha, hk⟩ := pp_r_e hk
    obtain ⟨r, hr, h1, h2, h3, h4⟩ := pp_fl_e hst
    have hty := pp_fkD (pp_fkOK hr k h1)
    rw [h2] at hty
    have hty : pp_ty ci k = .int := by
      rcases hty with ⟨-, z⟩ | ⟨z, -⟩ | ⟨z, -⟩
      · exact z
      · cases z
      · cases z
    refine pr_put (v := .int x) (m' := (pp_s w.2.1 a (va_up (w.2.1 a) k x), w.2.2)) hd hr h1 h3 (h4 rfl) (by rw [hty]; rfl) (by rw [hty]; rfl) ha (fun i hi => pp_s_ne _ _ hi) (fun i hi => rfl) (fun i hi => rfl) ?_ (fun j hj => ?_) (hK _ _ _ hk)
    · rw [h2]
      simp only [pp_fv, pp_s_eq, va_up, if_pos]
      rfl
    · simp only [pp_fv, pp_s_eq, va_up, if_neg hj]
  | .inl (ci, k, 1 :: p :: l), hst, hsp, hd, hK =>
    obtain ⟨x, s, rfl, hk⟩ := pp_j_e hsp
    obtain ⟨a, s, rfl, ha, hk⟩ := pp_r_e hk
    obtain ⟨r, hr, h1, h2, h3, h4⟩ := pp_fl_e hst
    have hty := pp_fkD (pp_fkOK hr k h1)
    rw [h2] at hty
    have hty : pp_ty ci k = .long := by
      rcases hty with ⟨z, -⟩ | ⟨-, z⟩ | ⟨z, -⟩
      · cases z
      · exact z
      · cases z
    refine pr_put (v := .long x) (m' := (w.2.1, pp_s w.2.2.1 a (va_up (w.2.2.1 a) k x), w.2.2.2)) hd hr h1 h3 (h4 rfl) (by rw [hty]; rfl) (by rw [hty]; rfl) ha (fun i hi => rfl) (fun i hi => pp_s_ne _ _ hi) (fun i hi => rfl) ?_ (fun j hj => ?_) (hK _ _ _ hk)
    · rw [h2]
      simp only [pp_fv, pp_s_eq, va_up, if_pos]
      rfl
    · simp only [pp_fv, pp_s_eq, va_up, if_neg hj]
  | .inl (ci, k, 2 :: p :: l), hst, hsp, hd, hK =>
    have hsp : pp_q st (fun x st => pp_r st (fun a st => w.1[a]? = some (ci, 0) ∧ K L st (w.1, w.2.1, w.2.2.1, pp_s w.2.2.2 a (va_up (w.2.2.2 a) k x)))) := hsp
    obtain ⟨x, s, rfl, hk⟩ := pp_q_e hsp
    obtain ⟨a, s, rfl, ha, hk⟩ := pp_r_e hk
    obtain ⟨r, hr, h1, h2, h3, h4⟩ := pp_fl_e hst
    have hty := pp_fkD (pp_fkOK hr k h1)
    rw [h2] at hty
    have hty : (∃ C, pp_ty ci k = .object C) ∨ ∃ t, pp_ty ci k = .array t := by
      rcases hty with ⟨z, -⟩ | ⟨z, -⟩ | ⟨-, z⟩
      · cases z
      · cases z
      · exact z
    refine pr_put (v := pp_rf x) (m' := (w.2.1, w.2.2.1, pp_s w.2.2.2 a (va_up (w.2.2.2 a) k x))) hd hr h1 h3 (h4 rfl) (by rcases hty with ⟨_, z⟩ | ⟨_, z⟩ <;> rw [z] <;> cases x <;> rfl) (by rcases hty with ⟨_, z⟩ | ⟨_, z⟩ <;> rw [z] <;> cases x <;> rfl) ha (fun i hi => rfl) (fun i hi => rfl) (fun i hi => pp_s_ne _ _ hi) ?_ (fun j hj => ?_) (hK _ _ _ hk)
    · rw [h2, pp_v_rf]
      simp only [pp_fv, pp_s_eq, va_up, if_pos]
    · simp only [pp_fv, pp_s_eq, va_up, if_neg hj]
theorem ps_arraylength {c : Nat × Nat} {pc : Nat} {lk : pp_Lk} {L : List (Nat × Value)} {st : List Value} {w : pp_W} {K : pp_St} (hd : decode mi.by_ pc = .ok (.arraylength, pp_len (.arraylength) lk)) (hst : pp_stt mi pc c (.arraylength) lk = true) (hsp : pp_sp g h mi.ret P Y X (.arraylength) lk L st w K) (hK : ∀ L st w, K L st w → pp_ATc g R mi Z (off.1 + (pp_cs (.arraylength) lk c).1, off.2 + (pp_cs (.arraylength) lk c).2) (pc + pp_len (.arraylength) lk) L st w) : pp_ATc g R mi Z (off.1 + c.1, off.2 + c.2) pc L st w := by
  match lk, hst, hsp, hd, hK with
  | .inl (0, b, l), hst, hsp, hd, hK =>
    obtain ⟨a, s, rfl, hk⟩ := pp_r_e hsp
    obtain ⟨t, n, e, ht, hk⟩ := pp_al_e hk
    exact pr_alen hd e ht rfl (hK _ _ _ hk)
  | .inl (1, b, l), hst, hsp, hd, hK =>
    obtain ⟨a, s, rfl, ha, hk⟩ := pp_r_e hsp
    exact pr_slen hd (of_decide_eq_true hst) ha (hK _ _ _ hk)
  | .inl (2, b, l), hst, hsp, hd, hK =>
    obtain ⟨a, s, rfl, ha, hk⟩ := pp_r_e hsp
    exact pr_xlen hd ha (hK _ _ _ hk)
theorem ps_iaload {c : Nat × Nat} {pc : Nat} {lk : pp_Lk} {L : List (Nat × Value)} {st : List Value} {w : pp_W} {K : pp_St} (hd : decode mi.by_ pc = .ok (.iaload, pp_len (.iaload) lk)) (hst : pp_stt mi pc c (.iaload) lk = true) (hsp : pp_sp g h mi.ret P Y X (.iaload) lk L st w K) (hK : ∀ L st w, K L st w → pp_ATc g R mi Z (off.1 + (pp_cs (.iaload) lk c).1, off.2 + (pp_cs (.iaload) lk c).2) (pc + pp_len (.iaload) lk) L st w) : pp_ATc g R mi Z (off.1 + c.1, off.2 + c.2) pc L st w := by
  match lk, hst, hsp, hd, hK with
  | .inl (0, b, l), hst, hsp, hd, hK =>
    obtain ⟨j, s, rfl, hk⟩ := pp_i_e hsp
    obtain ⟨a, s, rfl, hk⟩ := pp_r_e hk
    obtain ⟨n, e, hin, hk⟩ := pp_in_e hk
    exact pr_iald hd e hin (hK _ _ _ hk)
  | .inl (1, b, l), hst, hsp, hd, hK =>
    obtain ⟨j, s, rfl, hk⟩ := pp_i_e hsp
    obtain ⟨a, s, rfl, ha, hin, hk⟩ := pp_r_e hk
    exact pr_sld hd (of_decide_eq_true hst) ha hin (hK _ _ _ hk)
theorem ps_baload {c : Nat × Nat} {pc : Nat} {lk : pp_Lk} {L : List (Nat × Value)} {st : List Value} {w : pp_W} {K : pp_St} (hd : decode mi.by_ pc = .ok (.baload, pp_len (.baload) lk)) (hst : pp_stt mi pc c (.baload) lk = true) (hsp : pp_sp g h mi.ret P Y X (.baload) lk L st w K) (hK : ∀ L st w, K L st w → pp_ATc g R mi Z (off.1 + (pp_cs (.baload) lk c).1, off.2 + (pp_cs (.baload) lk c).2) (pc + pp_len (.baload) lk) L st w) : pp_ATc g R mi Z (off.1 + c.1, off.2 + c.2) pc L st w := by
  match lk, hst, hsp, hd, hK with
  | .inl (0, b, l), hst, hsp, hd, hK =>
    obtain ⟨j, s, rfl, hk⟩ := pp_i_e hsp
    obtain ⟨a, s, rfl, hk⟩ := pp_r_e hk
    obtain ⟨n, e, hin, hk⟩ := pp_in_e hk
    exact pr_bald hd e hin (hK _ _ _ hk)
  | .inl (1, b, l), hst, hsp, hd, hK =>
    obtain ⟨j, s, rfl, hk⟩ := pp_i_e hsp
    obtain ⟨a, s, rfl, hk⟩ := pp_r_e hk
    obtain ⟨n, e, hin, hk⟩ := pp_in_e hk
    exact pr_zald hd e hin (hK _ _ _ hk)
  | .inl (2, b, l), hst, hsp, hd, hK =>
    obtain ⟨j, s, rfl, hk⟩ := pp_i_e hsp
    obtain ⟨a, s, rfl, ha, hin, hk⟩ := pp_r_e hk
    exact pr_xld hd ha hin (hK _ _ _ hk)
theorem ps_laload {c : Nat × Nat} {pc : Nat} {lk : pp_Lk} {L : List (Nat × Value)} {st : List Value} {w : pp_W} {K : pp_St} (hd : decode mi.by_ pc = .ok (.laload, pp_len (.laload) lk)) (hst : pp_stt mi pc c (.laload) lk = true) (hsp : pp_sp g h mi.ret P Y X (.laload) lk L st w K) (hK : ∀ L st w, K L st w → pp_ATc g R mi Z (off.1 + (pp_cs (.laload) lk c).1, off.2 + (pp_cs (.laload) lk c).2) (pc + pp_len (.laload) lk) L st w) : pp_ATc g R mi Z (off.1 + c.1, off.2 + c.2) pc L st w := by
  obtain ⟨j, s, rfl, hk⟩ := pp_i_e hsp
  obtain ⟨a, s, rfl, hk⟩ := pp_r_e hk
  obtain ⟨n, e, hin, hk⟩ := pp_in_e hk
  exact pr_lald hd e hin (hK _ _ _ hk)
theorem ps_aaload {c : Nat × Nat} {pc : Nat} {lk : pp_Lk} {L : List (Nat × Value)} {st : List Value} {w : pp_W} {K : pp_St} (hd : decode mi.by_ pc = .ok (.aaload, pp_len (.aaload) lk)) (hst : pp_stt mi pc c (.aaload) lk = true) (hsp : pp_sp g h mi.ret P Y X (.aaload) lk L st w K) (hK : ∀ L st w, K L st w → pp_ATc g R mi Z (off.1 + (pp_cs (.aaload) lk c).1, off.2 + (pp_cs (.aaload) lk c).2) (pc + pp_len (.aaload) lk) L st w) : pp_ATc g R mi Z (off.1 + c.1, off.2 + c.2) pc L st w := by
  obtain ⟨j, s, rfl, hk⟩ := pp_i_e hsp
  obtain ⟨a, s, rfl, hk⟩ := pp_r_e hk
  obtain ⟨n, e, hin, hk⟩ := pp_in_e hk
  exact pr_aald hd e hin (hK _ _ _ hk)
theorem ps_iastore {c : Nat × Nat} {pc : Nat} {lk : pp_Lk} {L : List (Nat × Value)} {st : List Value} {w : pp_W} {K : pp_St} (hd : decode mi.by_ pc = .ok (.iastore, pp_len (.iastore) lk)) (hst : pp_stt mi pc c (.iastore) lk = true) (hsp : pp_sp g h mi.ret P Y X (.iastore) lk L st w K) (hK : ∀ L st w, K L st w → pp_ATc g R mi Z (off.1 + (pp_cs (.iastore) lk c).1, off.2 + (pp_cs (.iastore) lk c).2) (pc + pp_len (.iastore) lk) L st w) : pp_ATc g R mi Z (off.1 + c.1, off.2 + c.2) pc L st w := by
  obtain ⟨x, s, rfl, hk⟩ := pp_i_e hsp
  obtain ⟨j, s, rfl, hk⟩ := pp_i_e hk
  obtain ⟨a, s, rfl, hk⟩ := pp_r_e hk
  obtain ⟨n, e, hin, hk⟩ := pp_in_e hk
  exact pr_iast hd e hin (hK _ _ _ hk)
theorem ps_lastore {c : Nat × Nat} {pc : Nat} {lk : pp_Lk} {L : List (Nat × Value)} {st : List Value} {w : pp_W} {K : pp_St} (hd : decode mi.by_ pc = .ok (.lastore, pp_len (.lastore) lk)) (hst : pp_stt mi pc c (.lastore) lk = true) (hsp : pp_sp g h mi.ret P Y X (.lastore) lk L st w K) (hK : ∀ L st w, K L st w → pp_ATc g R mi Z (off.1 + (pp_cs (.lastore) lk c).1, off.2 + (pp_cs (.lastore) lk c).2) (pc + pp_len (.lastore) lk) L st w) : pp_ATc g R mi Z (off.1 + c.1, off.2 + c.2) pc L st w := by
  obtain ⟨x, s, rfl, hk⟩ := pp_j_e hsp
  obtain ⟨j, s, rfl, hk⟩ := pp_i_e hk
  obtain ⟨a, s, rfl, hk⟩ := pp_r_e hk
  obtain ⟨n, e, hin, hk⟩ := pp_in_e hk
  exact pr_last hd e hin (hK _ _ _ hk)
theorem ps_bastore {c : Nat × Nat} {pc : Nat} {lk : pp_Lk} {L : List (Nat × Value)} {st : List Value} {w : pp_W} {K : pp_St} (hd : decode mi.by_ pc = .ok (.bastore, pp_len (.bastore) lk)) (hst : pp_stt mi pc c (.bastore) lk = true) (hsp : pp_sp g h mi.ret P Y X (.bastore) lk L st w K) (hK : ∀ L st w, K L st w → pp_ATc g R mi Z (off.1 + (pp_cs (.bastore) lk c).1, off.2 + (pp_cs (.bastore) lk c).2) (pc + pp_len (.bastore) lk) L st w) : pp_ATc g R mi Z (off.1 + c.1, off.2 + c.2) pc L st w := by
  match lk, hst, hsp, hd, hK with
  | .inl (0, b, l), hst, hsp, hd, hK =>
    obtain ⟨x, s, rfl, hk⟩ := pp_i_e hsp
    obtain ⟨j, s, rfl, hk⟩ := pp_i_e hk
    obtain ⟨a, s, rfl, hk⟩ := pp_r_e hk
    obtain ⟨n, e, hin, hk⟩ := pp_in_e hk
    exact pr_bast hd e hin (hK _ _ _ hk)
  | .inl (1, b, l), hst, hsp, hd, hK =>
    obtain ⟨x, s, rfl, hk⟩ := pp_i_e hsp
    obtain ⟨j, s, rfl, hk⟩ := pp_i_e hk
    obtain ⟨a, s, rfl, hk⟩ := pp_r_e hk
    obtain ⟨n, e, hin, hx, hk⟩ := pp_in_e hk
    exact pr_zast hd e hin hx (hK _ _ _ hk)
theorem ps_aastore {c : Nat × Nat} {pc : Nat} {lk : pp_Lk} {L : List (Nat × Value)} {st : List Value} {w : pp_W} {K : pp_St} (hd : decode mi.by_ pc = .ok (.aastore, pp_len (.aastore) lk)) (hst : pp_stt mi pc c (.aastore) lk = true) (hsp : pp_sp g h mi.ret P Y X (.aastore) lk L st w K) (hK : ∀ L st w, K L st w → pp_ATc g R mi Z (off.1 + (pp_cs (.aastore) lk c).1, off.2 + (pp_cs (.aastore) lk c).2) (pc + pp_len (.aastore) lk) L st w) : pp_ATc g R mi Z (off.1 + c.1, off.2 + c.2) pc L st w := by
  have hsp : pp_q st (fun x st => pp_i st (fun j st => pp_r st (fun a st => pp_in w a 14 j ((∀ b, x = some b → w.1[b]? = some (4, 0)) ∧ K L st (w.1, w.2.1, w.2.2.1, pp_s w.2.2.2 a (va_up (w.2.2.2 a) j.toNatClampNeg x)))))) := hsp
  obtain ⟨x, s, rfl, hk⟩ := pp_q_e hsp
  obtain ⟨j, s, rfl, hk⟩ := pp_i_e hk
  obtain ⟨a, s, rfl, hk⟩ := pp_r_e hk
  obtain ⟨n, e, hin, hx, hk⟩ := pp_in_e hk
  cases x with
  | none => exact pr_aastN hd e hin (hK _ _ _ hk)
  | some b => exact pr_aast hd e (hx b rfl) hin (hK _ _ _ hk)
theorem ps_new {n : Nat} {c : Nat × Nat} {pc : Nat} {lk : pp_Lk} {L : List (Nat × Value)} {st : List Value} {w : pp_W} {K : pp_St} (hd : decode mi.by_ pc = .ok (.new n, pp_len (.new n) lk)) (hst : pp_stt mi pc c (.new n) lk = true) (hsp : pp_sp g h mi.ret P Y X (.new n) lk L st w K) (hRc : off.1 + mi.mc ≤ R.cells) (hRs : off.2 + mi.ms ≤ R.slots) (hK : ∀ L st w, K L st w → pp_ATc g R mi Z (off.1 + (pp_cs (.new n) lk c).1, off.2 + (pp_cs (.new n) lk c).2) (pc + pp_len (.new n) lk) L st w) : pp_ATc g R mi Z (off.1 + c.1, off.2 + c.2) pc L st w := by
  match lk, hst, hsp, hd, hK with
  | .inl (ci, k, p :: l), hst, hsp, hd, hK =>
    simp only [pp_stt] at hst
    split at hst
    · rename_i r hr
      simp only [Bool.and_eq_true, decide_eq_true_eq] at hst
      obtain ⟨⟨rfl, h2⟩, h3⟩ := hst
      have := pp_le_1 h3
      dsimp only at this
      exact pr_new hd hr (pp_w_in h2) (by show off.1 + c.1 + 1 ≤ _; omega) (by show off.2 + c.2 + r.2.2 ≤ _; omega) ((hK _ _ _ hsp).le (by show off.1 + c.1 + 1 ≤ off.1 + (c.1 + 1); omega) (by show off.2 + c.2 + r.2.2 ≤ off.2 + (c.2 + r.2.2); omega))
    · cases hst
theorem ps_newarray {n : ArrayType} {c : Nat × Nat} {pc : Nat} {lk : pp_Lk} {L : List (Nat × Value)} {st : List Value} {w : pp_W} {K : pp_St} (hd : decode mi.by_ pc = .ok (.newarray n, pp_len (.newarray n) lk)) (hst : pp_stt mi pc c (.newarray n) lk = true) (hsp : pp_sp g h mi.ret P Y X (.newarray n) lk L st w K) (hRc : off.1 + mi.mc ≤ R.cells) (hRs : off.2 + mi.ms ≤ R.slots) (hK : ∀ L st w, K L st w → pp_ATc g R mi Z (off.1 + (pp_cs (.newarray n) lk c).1, off.2 + (pp_cs (.newarray n) lk c).2) (pc + pp_len (.newarray n) lk) L st w) : pp_ATc g R mi Z (off.1 + c.1, off.2 + c.2) pc L st w := by
  match lk, hst, hsp, hd, hK with
  | .inl (t, k, l), hst, hsp, hd, hK =>
    simp only [pp_stt, Bool.and_eq_true, decide_eq_true_eq] at hst
    obtain ⟨⟨⟨h1, h2⟩, h3⟩, h4⟩ := hst
    have hl := pp_le_1 h4
    have hk1 := pp_blt h3
    have ht := pp_blt h2
    dsimp only at hl
    obtain ⟨x, s, rfl, hx, hk⟩ := pp_i_e hsp
    have q1 : off.1 + c.1 + 1 ≤ R.cells := by omega
    have q2 : off.2 + c.2 + k ≤ R.slots := by omega
    cases n <;> simp only [pp_atk] at h1 <;> subst h1 <;> first | (exact absurd ht (by decide)) | exact pr_newi hd hx hk1 q1 q2 ((hK _ _ _ hk).le (by show off.1 + c.1 + 1 ≤ off.1 + (c.1 + 1); omega) (by show off.2 + c.2 + k ≤ off.2 + (c.2 + k); omega)) | exact pr_newb hd hx hk1 q1 q2 ((hK _ _ _ hk).le (by show off.1 + c.1 + 1 ≤ off.1 + (c.1 + 1); omega) (by show off.2 + c.2 + k ≤ off.2 + (c.2 + k); omega)) | exact pr_newz hd hx hk1 q1 q2 ((hK _ _ _ hk).le (by show off.1 + c.1 + 1 ≤ off.1 + (c.1 + 1); omega) (by show off.2 + c.2 + k ≤ off.2 + (c.2 + k); omega)) | exact pr_newj hd hx hk1 q1 q2 ((hK _ _ _ hk).le (by show off.1 + c.1 + 1 ≤ off.1 + (c.1 + 1); omega) (by show off.2 + c.2 + k ≤ off.2 + (c.2 + k); omega))
theorem ps_anewarray {n : Nat} {c : Nat × Nat} {pc : Nat} {lk : pp_Lk} {L : List (Nat × Value)} {st : List Value} {w : pp_W} {K : pp_St} (hd : decode mi.by_ pc = .ok (.anewarray n, pp_len (.anewarray n) lk)) (hst : pp_stt mi pc c (.anewarray n) lk = true) (hsp : pp_sp g h mi.ret P Y X (.anewarray n) lk L st w K) (hRc : off.1 + mi.mc ≤ R.cells) (hRs : off.2 + mi.ms ≤ R.slots) (hK : ∀ L st w, K L st w → pp_ATc g R mi Z (off.1 + (pp_cs (.anewarray n) lk c).1, off.2 + (pp_cs (.anewarray n) lk c).2) (pc + pp_len (.anewarray n) lk) L st w) : pp_ATc g R mi Z (off.1 + c.1, off.2 + c.2) pc L st w := by
  match lk, hst, hsp, hd, hK with
  | .inl (t, k, p :: l), hst, hsp, hd, hK =>
    simp only [pp_stt, Bool.and_eq_true] at hst
    obtain ⟨⟨h1, h3⟩, h4⟩ := hst
    have hl := pp_le_1 h4
    dsimp only at hl
    obtain ⟨x, s, rfl, hx, hk⟩ := pp_i_e hsp
    exact pr_newq hd (pp_w_in h1) hx (pp_blt h3) (by show off.1 + c.1 + 1 ≤ _; omega) (by show off.2 + c.2 + k ≤ _; omega) ((hK _ _ _ hk).le (by show off.1 + c.1 + 1 ≤ off.1 + (c.1 + 1); omega) (by show off.2 + c.2 + k ≤ off.2 + (c.2 + k); omega))
theorem pp_objW : Cond.instanceMethod Lib.objectInit ∈ pp_T ∧ Cond.code Lib.objectInit ⟨#[0xb1]⟩ 1 none ∈ pp_T := by
  have := pp_sub (ws := [Cond.instanceMethod Lib.objectInit, Cond.code Lib.objectInit ⟨#[0xb1]⟩ 1 none]) (by decide +kernel)
  exact ⟨this _ (by simp), this _ (by simp)⟩
theorem pp_call_e {mj : pp_MI} {c : Nat × Nat} {idx p kd n : Nat} (hc : pp_call mi mj c idx p kd n = true) : mj.kd = kd ∧ n = mj.np ∧ Cond.methodLink mi.y.cls idx mj.y ∈ pp_T ∧ pp_le (c.1 + mj.mc, c.2 + mj.ms) (mi.mc, mi.ms) = true := by
  simp only [pp_call, Bool.and_eq_true, decide_eq_true_eq] at hc
  exact ⟨hc.1.1.1, hc.1.1.2, pp_w_in hc.1.2, hc.2⟩
theorem ps_invokespecial {n : Nat} {c : Nat × Nat} {pc : Nat} {lk : pp_Lk} {L : List (Nat × Value)} {st : List Value} {w : pp_W} {K : pp_St} (hd : decode mi.by_ pc = .ok (.invokespecial n, pp_len (.invokespecial n) lk)) (hst : pp_stt mi pc c (.invokespecial n) lk = true) (hsp : pp_sp g h mi.ret P Y X (.invokespecial n) lk L st w K) (hRc : off.1 + mi.mc ≤ R.cells) (hRs : off.2 + mi.ms ≤ R.slots) (hR : pp_big R h) (hE : pp_End g R mi Z off P Y) (hK : ∀ L st w, K L st w → pp_ATc g R mi Z (off.1 + (pp_cs (.invokespecial n) lk c).1, off.2 + (pp_cs (.invokespecial n) lk c).2) (pc + pp_len (.invokespecial n) lk) L st w) : pp_ATc g R mi Z (off.1 + c.1, off.2 + c.2) pc L st w := by
  match lk, hst, hsp, hd, hK with
  | .inl (p, k, l), hst, hsp, hd, hK =>
    obtain ⟨a, s, rfl, hl, hk⟩ := pp_r_e hsp
    have := hR.1
    have := hR.2
    exact pr_objInit hd (pp_w_in hst) pp_objW.1 pp_objW.2 (by omega) (by omega) hl (hK _ _ _ hk)
  | .inr (.inl (mj, ci, p, l)), hst, hsp, hd, hK =>
    simp only [pp_stt, Bool.and_eq_true, Bool.not_eq_true', List.isEmpty_iff] at hst
    obtain ⟨⟨⟨h1, h2⟩, h3⟩, h4⟩ := hst
    obtain ⟨e1, e2, e3, e4⟩ := pp_call_e h1
    have hl := pp_le_1 e4
    dsimp only at hl
    obtain ⟨As, s, rfl, hlen, hs4, hrv, hM⟩ := pp_args_e l [] st _ hsp
    rw [List.append_nil] at hM hrv
    cases As with
    | nil => exact hrv.elim
    | cons v As =>
      obtain ⟨b, s9, hav, -⟩ := pp_r_e hrv
      cases hav
      rw [List.reverse_cons, List.append_assoc]
      exact pr_callI hd e3 e1 h3 (by simp only [List.length_cons] at hlen; omega) hR (by show off.1 + c.1 + mj.mc ≤ _; omega) (by show off.2 + c.2 + mj.ms ≤ _; omega) hs4 hM (pp_toK hE h4 e4 hK)
theorem ps_invokevirtual {n : Nat} {c : Nat × Nat} {pc : Nat} {lk : pp_Lk} {L : List (Nat × Value)} {st : List Value} {w : pp_W} {K : pp_St} (hd : decode mi.by_ pc = .ok (.invokevirtual n, pp_len (.invokevirtual n) lk)) (hst : pp_stt mi pc c (.invokevirtual n) lk = true) (hsp : pp_sp g h mi.ret P Y X (.invokevirtual n) lk L st w K) (hRc : off.1 + mi.mc ≤ R.cells) (hRs : off.2 + mi.ms ≤ R.slots) (hR : pp_big R h) (hE : pp_End g R mi Z off P Y) (hK : ∀ L st w, K L st w → pp_ATc g R mi Z (off.1 + (pp_cs (.invokevirtual n) lk c).1, off.2 + (pp_cs (.invokevirtual n) lk c).2) (pc + pp_len (.invokevirtual n) lk) L st w) : pp_ATc g R mi Z (off.1 + c.1, off.2 + c.2) pc L st w := by
  match lk, hst, hsp, hd, hK with
  | .inr (.inl (mj, ci, p, 0 :: l)), hst, hsp, hd, hK =>
    simp only [pp_stt, Bool.and_eq_true, List.isEmpty_iff] at hst
    obtain ⟨⟨⟨h1, h3⟩, h4⟩, h5⟩ := hst
    obtain ⟨e1, e2, e3, e4⟩ := pp_call_e h1
    have hl := pp_le_1 e4
    dsimp only at hl
    obtain ⟨As, s, rfl, hlen, hs4, hrv, hM⟩ := pp_args_e (0 :: l) [] st _ hsp
    rw [List.append_nil] at hM hrv
    cases As with
    | nil => exact hrv.elim
    | cons v As =>
      obtain ⟨b, s9, hav, hb⟩ := pp_r_e hrv
      cases hav
      rw [List.reverse_cons, List.append_assoc]
      split at h5
      · rename_i r hr
        exact pr_callV hd e3 e1 h3 hr (of_decide_eq_true h5) hb (by simp only [List.length_cons] at hlen; omega) hR (by show off.1 + c.1 + mj.mc ≤ _; omega) (by show off.2 + c.2 + mj.ms ≤ _; omega) hs4 hM (pp_toK hE h4 e4 hK)
      · cases h5
  | .inr (.inl (mj, ci, p, 1 :: l)), hst, hsp, hd, hK =>
    simp only [pp_stt, Bool.and_eq_true, List.isEmpty_iff] at hst
    obtain ⟨⟨⟨h1, h3⟩, h4⟩, h5⟩ := hst
    obtain ⟨e1, e2, e3, e4⟩ := pp_call_e h1
    have hl := pp_le_1 e4
    dsimp only at hl
    obtain ⟨As, s, rfl, hlen, hs4, hrv, hM⟩ := pp_args_e (1 :: l) [] st _ hsp
    rw [List.append_nil] at hM hrv
    cases As with
    | nil => exact hrv.elim
    | cons v As =>
      obtain ⟨b, s9, hav, hb⟩ := pp_r_e hrv
      cases hav
      rw [List.reverse_cons, List.append_assoc]
      exact pr_callX hd e3 e1 h3 (of_decide_eq_true h5) hb (by simp only [List.length_cons] at hlen; omega) hR (by show off.1 + c.1 + mj.mc ≤ _; omega) (by show off.2 + c.2 + mj.ms ≤ _; omega) hs4 hM (pp_toK hE h4 e4 hK)
theorem ps_invokestatic {n : Nat} {c : Nat × Nat} {pc : Nat} {lk : pp_Lk} {L : List (Nat × Value)} {st : List Value} {w : pp_W} {K : pp_St} (hd : decode mi.by_ pc = .ok (.invokestatic n, pp_len (.invokestatic n) lk)) (hst : pp_stt mi pc c (.invokestatic n) lk = true) (hsp : pp_sp g h mi.ret P Y X (.invokestatic n) lk L st w K) (hRc : off.1 + mi.mc ≤ R.cells) (hRs : off.2 + mi.ms ≤ R.slots) (hR : pp_big R h) (hE : pp_End g R mi Z off P Y) (hK : ∀ L st w, K L st w → pp_ATc g R mi Z (off.1 + (pp_cs (.invokestatic n) lk c).1, off.2 + (pp_cs (.invokestatic n) lk c).2) (pc + pp_len (.invokestatic n) lk) L st w) : pp_ATc g R mi Z (off.1 + c.1, off.2 + c.2) pc L st w := by
  match lk, hst, hsp, hd, hK with
  | .inl (0, p, l), hst, hsp, hd, hK =>
    obtain ⟨n9, s1, rfl, hk1⟩ := pp_i_e hsp
    obtain ⟨dp, s2, rfl, hk2⟩ := pp_i_e hk1
    obtain ⟨b, s3, rfl, hk3⟩ := pp_r_e hk2
    obtain ⟨sp, s4, rfl, hk4⟩ := pp_i_e hk3
    obtain ⟨a, s5, rfl, hl, g1, g2, g3, g4, g5, g6, g7, hk⟩ := pp_r_e hk4
    obtain ⟨t0, n0, ea, -, g4⟩ := pp_al_e g4
    obtain ⟨t1, n1, eb, -, g5⟩ := pp_al_e g5
    rw [ea] at g6
    rw [eb] at g7
    cases g6
    cases g7
    have := hR.1
    have := hR.2
    exact pr_copyi hd (pp_w_in hst) (by omega) (by omega) hl ea eb g1 g2 g3 g4 g5 (hK _ _ _ hk)
  | .inl (1, p, l), hst, hsp, hd, hK =>
    obtain ⟨n9, s1, rfl, hk1⟩ := pp_i_e hsp
    obtain ⟨dp, s2, rfl, hk2⟩ := pp_i_e hk1
    obtain ⟨b, s3, rfl, hk3⟩ := pp_r_e hk2
    obtain ⟨sp, s4, rfl, hk4⟩ := pp_i_e hk3
    obtain ⟨a, s5, rfl, hl, g1, g2, g3, g4, g5, g6, g7, hk⟩ := pp_r_e hk4
    obtain ⟨t0, n0, ea, -, g4⟩ := pp_al_e g4
    obtain ⟨t1, n1, eb, -, g5⟩ := pp_al_e g5
    rw [ea] at g6
    rw [eb] at g7
    cases g6
    cases g7
    have := hR.1
    have := hR.2
    exact pr_copyl hd (pp_w_in hst) (by omega) (by omega) hl ea eb g1 g2 g3 g4 g5 (hK _ _ _ hk)
  | .inl (2, p, l), hst, hsp, hd, hK =>
    simp only [pp_stt, Bool.and_eq_true] at hst
    have hl := pp_le_1 hst.2
    dsimp only at hl
    obtain ⟨y, s1, rfl, hk1⟩ := pp_i_e hsp
    obtain ⟨x, s2, rfl, hs4, hk⟩ := pp_i_e hk1
    exact pr_min hd (pp_w_in hst.1) hR (by show off.1 + c.1 ≤ _; omega) (by show off.2 + c.2 ≤ _; omega) hs4 (hK _ _ _ hk)
  | .inl (3, p, l), hst, hsp, hd, hK =>
    simp only [pp_stt, Bool.and_eq_true] at hst
    have hl := pp_le_1 hst.2
    dsimp only at hl
    obtain ⟨y, s1, rfl, hk1⟩ := pp_i_e hsp
    obtain ⟨x, s2, rfl, hs4, hk⟩ := pp_i_e hk1
    exact pr_max hd (pp_w_in hst.1) hR (by show off.1 + c.1 ≤ _; omega) (by show off.2 + c.2 ≤ _; omega) hs4 (hK _ _ _ hk)
  | .inl (4, p, l), hst, hsp, hd, hK =>
    simp only [pp_stt, Bool.and_eq_true] at hst
    have hl := pp_le_1 hst.2
    dsimp only at hl
    obtain ⟨y, s1, rfl, hk1⟩ := pp_j_e hsp
    obtain ⟨x, s2, rfl, hs4, hk⟩ := pp_j_e hk1
    exact pr_minL hd (pp_w_in hst.1) hR (by show off.1 + c.1 ≤ _; omega) (by show off.2 + c.2 ≤ _; omega) hs4 (hK _ _ _ hk)
  | .inr (.inl (mj, ci, p, l)), hst, hsp, hd, hK =>
    obtain ⟨As, s, rfl, hlen, hs4, hM⟩ := pp_args_e l [] st _ hsp
    rw [List.append_nil] at hM
    simp only [pp_stt] at hst
    split at hst
    · simp only [Bool.and_eq_true, decide_eq_true_eq, List.isEmpty_iff] at hst
      obtain ⟨⟨⟨⟨⟨⟨⟨h1, h2⟩, h3⟩, h4⟩, h5⟩, h6⟩, h7⟩, h8⟩ := hst
      have hl := pp_le_1 h7
      dsimp only at hl
      subst h3
      exact pr_callN h1 h2 hd h4 h5 (by omega) hR (by show off.1 + c.1 + mj.mc ≤ _; omega) (by show off.2 + c.2 + mj.ms ≤ _; omega) hs4 hM (pp_toK hE h8 h7 hK)
    · simp only [Bool.and_eq_true] at hst
      obtain ⟨h1, h4⟩ := hst
      obtain ⟨e1, e2, e3, e4⟩ := pp_call_e h1
      have hl := pp_le_1 e4
      dsimp only at hl
      by_cases hh : mj.hh = []
      · exact pr_callS hd e3 e1 hh (by omega) hR (by show off.1 + c.1 + mj.mc ≤ _; omega) (by show off.2 + c.2 + mj.ms ≤ _; omega) hs4 hM (pp_toK hE h4 e4 hK)
      · exact pr_callSX hd e3 e1 hh (by omega) hR (by show off.1 + c.1 + mj.mc ≤ _; omega) (by show off.2 + c.2 + mj.ms ≤ _; omega) hs4 hM (pp_toK hE h4 e4 hK)
theorem ps_ireturn {c : Nat × Nat} {pc : Nat} {lk : pp_Lk} {L : List (Nat × Value)} {st : List Value} {w : pp_W} {K : pp_St} (hd : decode mi.by_ pc = .ok (.ireturn, pp_len (.ireturn) lk)) (hst : pp_stt mi pc c (.ireturn) lk = true) (hsp : pp_sp g h mi.ret P Y X (.ireturn) lk L st w K) (hRc : off.1 + mi.mc ≤ R.cells) (hRs : off.2 + mi.ms ≤ R.slots) (hR : pp_big R h) (hE : pp_End g R mi Z off P Y) (hK : ∀ L st w, K L st w → pp_ATc g R mi Z (off.1 + (pp_cs (.ireturn) lk c).1, off.2 + (pp_cs (.ireturn) lk c).2) (pc + pp_len (.ireturn) lk) L st w) : pp_ATc g R mi Z (off.1 + c.1, off.2 + c.2) pc L st w := by
  have hl := pp_le_1 hst
  dsimp only at hl
  simp only [pp_sp] at hsp
  split at hsp
  · rename_i x
    refine (hE.2.1 pc L w x (mi.ret.getD .int) hd ?_ ?_ hsp.2).le (by show off.1 + c.1 ≤ off.1 + mi.mc; omega) (by show off.2 + c.2 ≤ off.2 + mi.ms; omega)
    · have := hsp.1
      unfold pp_rok at this
      split at this <;> first | (rename_i e; rw [e]; rfl) | exact this.elim
    · have := hsp.1
      unfold pp_rok at this
      split at this
      · rename_i e; rw [e]; rfl
      · rename_i e; rw [e]; rcases this with rfl | rfl <;> rfl
      · rename_i e; rw [e]; exact this
      · exact this.elim
  · exact hsp.elim
theorem ps_lreturn {c : Nat × Nat} {pc : Nat} {lk : pp_Lk} {L : List (Nat × Value)} {st : List Value} {w : pp_W} {K : pp_St} (hd : decode mi.by_ pc = .ok (.lreturn, pp_len (.lreturn) lk)) (hst : pp_stt mi pc c (.lreturn) lk = true) (hsp : pp_sp g h mi.ret P Y X (.lreturn) lk L st w K) (hRc : off.1 + mi.mc ≤ R.cells) (hRs : off.2 + mi.ms ≤ R.slots) (hR : pp_big R h) (hE : pp_End g R mi Z off P Y) (hK : ∀ L st w, K L st w → pp_ATc g R mi Z (off.1 + (pp_cs (.lreturn) lk c).1, off.2 + (pp_cs (.lreturn) lk c).2) (pc + pp_len (.lreturn) lk) L st w) : pp_ATc g R mi Z (off.1 + c.1, off.2 + c.2) pc L st w := by
  simp only [pp_stt, Bool.and_eq_true, decide_eq_true_eq] at hst
  obtain ⟨hst, hrt⟩ := hst
  have hl := pp_le_1 hst
  dsimp only at hl
  simp only [pp_sp] at hsp
  split at hsp
  · exact (hE.2.2.1 pc L w _ hd hrt hsp).le (by show off.1 + c.1 ≤ off.1 + mi.mc; omega) (by show off.2 + c.2 ≤ off.2 + mi.ms; omega)
  · exact hsp.elim
theorem ps_return {c : Nat × Nat} {pc : Nat} {lk : pp_Lk} {L : List (Nat × Value)} {st : List Value} {w : pp_W} {K : pp_St} (hd : decode mi.by_ pc = .ok (.return_, pp_len (.return_) lk)) (hst : pp_stt mi pc c (.return_) lk = true) (hsp : pp_sp g h mi.ret P Y X (.return_) lk L st w K) (hRc : off.1 + mi.mc ≤ R.cells) (hRs : off.2 + mi.ms ≤ R.slots) (hR : pp_big R h) (hE : pp_End g R mi Z off P Y) (hK : ∀ L st w, K L st w → pp_ATc g R mi Z (off.1 + (pp_cs (.return_) lk c).1, off.2 + (pp_cs (.return_) lk c).2) (pc + pp_len (.return_) lk) L st w) : pp_ATc g R mi Z (off.1 + c.1, off.2 + c.2) pc L st w := by
  simp only [pp_stt, Bool.and_eq_true, decide_eq_true_eq] at hst
  obtain ⟨hst, hrt⟩ := hst
  have hl := pp_le_1 hst
  dsimp only at hl
  simp only [pp_sp] at hsp
  split at hsp
  · exact (hE.1 pc L w hd hrt hsp).le (by show off.1 + c.1 ≤ off.1 + mi.mc; omega) (by show off.2 + c.2 ≤ off.2 + mi.ms; omega)
  · exact hsp.elim
end Sound2
end
section
/-! THE ENGINE, 13: a listing of a method, and what it asks-/
section Run
variable {g : pp_G} {R : Room} {mi : pp_MI} {Z : pp_CT → State → Prop} {off : Nat × Nat} {P : pp_R → pp_W → Prop} {Y : String → pp_W → Prop} {X : Nat → pp_St} {h : Nat}
theorem pp_step {i : Instr} {c : Nat × Nat} {pc : Nat} {lk : pp_Lk} {L : List (Nat × Value)} {st : List Value} {w : pp_W} {K : pp_St} (hi : i ≠ .athrow) (hd : decode mi.by_ pc = .ok (i, pp_len i lk)) (hst : pp_stt mi pc c i lk = true) (hsp : pp_sp g h mi.ret P Y X i lk L st w K)
    (hX : ∀ t L st w, X t L st w → pp_AT g R mi Z off t L st w) (hRc : off.1 + mi.mc ≤ R.cells) (hRs : off.2 + mi.ms ≤ R.slots) (hR : pp_big R h) (hE : pp_End g R mi Z off P Y)
    (hK : ∀ L st w, K L st w → pp_ATc g R mi Z (off.1 + (pp_cs i lk c).1, off.2 + (pp_cs i lk c).2) (pc + pp_len i lk) L st w) : pp_ATc g R mi Z (off.1 + c.1, off.2 + c.2) pc L st w := by
  cases i with
  | aconst_null => exact ps_aconst_null hd hst hsp hK
  | iconst => exact ps_iconst hd hst hsp hK
  | bipush => exact ps_bipush hd hst hsp hK
  | sipush => exact ps_sipush hd hst hsp hK
  | lconst => exact ps_lconst hd hst hsp hK
  | ldc => exact ps_ldc hd hst hsp hK
  | ldc_w => exact ps_ldc_w hd hst hsp hK
  | ldc2_w => exact ps_ldc2_w hd hst hsp hK
  | iload => exact ps_iload hd hst hsp hK
  | iload_n => exact ps_iload_n hd hst hsp hK
  | lload => exact ps_lload hd hst hsp hK
  | lload_n => exact ps_lload_n hd hst hsp hK
  | aload => exact ps_aload hd hst hsp hK
  | aload_n => exact ps_aload_n hd hst hsp hK
  | istore => exact ps_istore hd hst hsp hK
  | istore_n => exact ps_istore_n hd hst hsp hK
  | lstore => exact ps_lstore hd hst hsp hK
  | lstore_n => exact ps_lstore_n hd hst hsp hK
  | astore => exact ps_astore hd hst hsp hK
  | astore_n => exact ps_astore_n hd hst hsp hK
  | iinc => exact ps_iinc hd hst hsp hK
  | iadd => exact ps_iadd hd hst hsp hK
  | isub => exact ps_isub hd hst hsp hK
  | imul => exact ps_imul hd hst hsp hK
  | iand => exact ps_iand hd hst hsp hK
  | ior => exact ps_ior hd hst hsp hK
  | ixor => exact ps_ixor hd hst hsp hK
  | ishl => exact ps_ishl hd hst hsp hK
  | ishr => exact ps_ishr hd hst hsp hK
  | iushr => exact ps_iushr hd hst hsp hK
  | idiv => exact ps_idiv hd hst hsp hK
  | ladd => exact ps_ladd hd hst hsp hK
  | lsub => exact ps_lsub hd hst hsp hK
  | lmul => exact ps_lmul hd hst hsp hK
  | land => exact ps_land hd hst hsp hK
  | lor => exact ps_lor hd hst hsp hK
  | lxor => exact ps_lxor hd hst hsp hK
  | ldiv => exact ps_ldiv hd hst hsp hK
  | lrem => exact ps_lrem hd hst hsp hK
  | lcmp => exact ps_lcmp hd hst hsp hK
  | lshl => exact ps_lshl hd hst hsp hK
  | i2l => exact ps_i2l hd hst hsp hK
  | i2b => exact ps_i2b hd hst hsp hK
  | l2i => exact ps_l2i hd hst hsp hK
  | dup => exact ps_dup hd hst hsp hK
  | pop => exact ps_pop hd hst hsp hK
  | pop2 => exact ps_pop2 hd hst hsp hK
  | dup2 => exact ps_dup2 hd hst hsp hK
  | getfield => exact ps_getfield hd hst hsp hK
  | getstatic => exact ps_getstatic hd hst hsp hK
  | i2c => exact ps_i2c hd hst hsp hK
  | putfield => exact ps_putfield hd hst hsp hK
  | arraylength => exact ps_arraylength hd hst hsp hK
  | iaload => exact ps_iaload hd hst hsp hK
  | baload => exact ps_baload hd hst hsp hK
  | laload => exact ps_laload hd hst hsp hK
  | aaload => exact ps_aaload hd hst hsp hK
  | iastore => exact ps_iastore hd hst hsp hK
  | lastore => exact ps_lastore hd hst hsp hK
  | bastore => exact ps_bastore hd hst hsp hK
  | aastore => exact ps_aastore hd hst hsp hK
  | ifCond => exact ps_ifCond hd hst hsp hX hK
  | if_icmp => exact ps_if_icmp hd hst hsp hX hK
  | goto => exact ps_goto hd hst hsp hX hK
  | ifnull => exact ps_ifnull hd hst hsp hX hK
  | ifnonnull => exact ps_ifnonnull hd hst hsp hX hK
  | tableswitch => exact ps_tableswitch hd hst hsp hX hK
  | new => exact ps_new hd hst hsp hRc hRs hK
  | newarray => exact ps_newarray hd hst hsp hRc hRs hK
  | anewarray => exact ps_anewarray hd hst hsp hRc hRs hK
  | invokespecial => exact ps_invokespecial hd hst hsp hRc hRs hR hE hK
  | invokevirtual => exact ps_invokevirtual hd hst hsp hRc hRs hR hE hK
  | invokestatic => exact ps_invokestatic hd hst hsp hRc hRs hR hE hK
  | ireturn => exact ps_ireturn hd hst hsp hRc hRs hR hE hK
  | lreturn => exact ps_lreturn hd hst hsp hRc hRs hR hE hK
  | return_ => exact ps_return hd hst hsp hRc hRs hR hE hK
  | athrow => exact absurd rfl hi
  | _ => exact hsp.elim
/-- what a throw owes -/
def pp_EndT (g : pp_G) (R : Room) (mi : pp_MI) (Z : pp_CT → State → Prop) (off : Nat × Nat) (P : pp_R → pp_W → Prop) : Prop :=
  ∀ (pc is wd : Nat) (tx : String) (q : String × Nat × Nat) (c : Nat × Nat) (L : List (Nat × Value)) (st : List Value) (w : pp_W), mi.y.cls = RX8 → q ∈ pp_exs → (is, tx) ∈ pp_msgs → mi.hh = [] → c.1 + 1 ≤ mi.mc → c.2 + 6 ≤ mi.ms → decode mi.by_ pc = .ok (.new q.2.1, 3) → decode mi.by_ (pc + 3) = .ok (.dup, 1) →
    ((decode mi.by_ (pc + 4) = .ok (.ldc is, 2) ∧ decode mi.by_ (pc + 6) = .ok (.invokespecial q.2.2, 3) ∧ decode mi.by_ (pc + 9) = .ok (.athrow, 1)) ∨ (decode mi.by_ (pc + 4) = .ok (.ldc_w is, 3) ∧ decode mi.by_ (pc + 7) = .ok (.invokespecial q.2.2, 3) ∧ decode mi.by_ (pc + 10) = .ok (.athrow, 1))) →
    st.length ≤ 4 → (∀ k : Nat, P (.inr q.1) (w.1 ++ List.replicate k (15, 0), w.2)) → pp_ATc g R mi Z (off.1 + c.1, off.2 + c.2) pc L st w
theorem pp_run {e : Nat} (hX : ∀ t L st w, X t L st w → pp_AT g R mi Z off t L st w) (hRc : off.1 + mi.mc ≤ R.cells) (hRs : off.2 + mi.ms ≤ R.slots) (hR : pp_big R h) (hE : pp_End g R mi Z off P Y) (hT : pp_EndT g R mi Z off P) :
    ∀ (seg : pp_Seg) (pc : Nat) (c : Nat × Nat) (L : List (Nat × Value)) (st : List Value) (w : pp_W), pp_chk mi e pc c seg = true → pp_wp g h mi.ret P Y X e seg L st w → pp_ATc g R mi Z (off.1 + c.1, off.2 + c.2) pc L st w := by
  intro seg
  induction seg with
  | nil =>
    intro pc c L st w hc hw
    simp only [pp_chk, Bool.and_eq_true, decide_eq_true_eq] at hc
    obtain ⟨rfl, h2⟩ := hc
    have := pp_le_1 h2
    exact (hX _ _ _ _ hw).le (by show off.1 + c.1 ≤ off.1 + _; omega) (by show off.2 + c.2 ≤ off.2 + _; omega)
  | cons q seg ih =>
    intro pc c L st w hc hw
    obtain ⟨i, lk⟩ := q
    by_cases hi : i = .athrow
    · subst hi
      match lk, hc, hw with
      | .inl (x, is, wd :: mp :: l), hc, hw =>
        simp only [pp_chk] at hc
        split at hc
        · rename_i z y hz hy
          simp only [Bool.and_eq_true, decide_eq_true_eq, List.isEmpty_iff] at hc
          obtain ⟨⟨⟨⟨⟨⟨h1, h2⟩, h3⟩, h4⟩, h5⟩, h6⟩, h7⟩ := hc
          have hl := pp_le_1 h4
          dsimp only at hl
          have hw : st.length ≤ 4 ∧ ∀ k : Nat, P (.inr ((pp_exs.getD x ("", 0, 0)).1)) (w.1 ++ List.replicate k (15, 0), w.2) := hw
          have hg : pp_exs.getD x ("", 0, 0) = z := by rw [List.getD_eq_getElem?_getD, hz]; rfl
          rw [hg] at hw
          refine hT pc is wd y.2 z c L st w h1 (List.mem_of_getElem? hz) (by rw [← h2]; exact List.mem_of_getElem? hy) h3 hl.1 hl.2 h5 h6 ?_ hw.1 hw.2
          by_cases hwd : wd = 0
          · rw [if_pos hwd] at h7
            simp only [Bool.and_eq_true, decide_eq_true_eq] at h7
            exact Or.inl ⟨h7.1.1, h7.1.2, h7.2⟩
          · rw [if_neg hwd] at h7
            simp only [Bool.and_eq_true, decide_eq_true_eq] at h7
            exact Or.inr ⟨h7.1.1, h7.1.2, h7.2⟩
        · cases hc
    · have hc : (decide (decode mi.by_ pc = .ok (i, pp_len i lk)) && pp_stt mi pc c i lk && pp_chk mi e (pc + pp_len i lk) (pp_cs i lk c) seg) = true := by
        rw [pp_chk] at hc
        split at hc
        · exact absurd (by assumption) hi
        · exact hc
      simp only [Bool.and_eq_true, decide_eq_true_eq] at hc
      exact pp_step hi hc.1.1 hc.1.2 hw hX hRc hRs hR hE (fun L st w hk => ih _ _ _ _ _ hc.2 hk)
/-- ordinary methods -/
theorem pp_endOK (hh : mi.hh = []) : pp_End g R mi (pp_Z g mi P) (0, 0) P (fun E w => P (.inr E) w) :=
  ⟨fun pc L w hd hr hP => pe_vret hd hr (by show 0 + mi.mc ≤ _; omega) (by show 0 + mi.ms ≤ _; omega) hP, fun pc L w x ty hd hr hn hP => pe_iret hd hr hn (by show 0 + mi.mc ≤ _; omega) (by show 0 + mi.ms ≤ _; omega) hP, fun pc L w x hd hr hP => pe_lret hd hr (by show 0 + mi.mc ≤ _; omega) (by show 0 + mi.ms ≤ _; omega) hP, fun pc L st w E _ hP => pe_out hh (by show 0 + mi.mc ≤ _; omega) (by show 0 + mi.ms ≤ _; omega) hP⟩
theorem pp_endT : pp_EndT g (pp_room h mi) mi (pp_Z g mi P) (0, 0) P := by
  intro pc is wd tx q c L st w h1 h2 h3 h4 h5 h6 d0 d3 dd hst hP
  rcases dd with ⟨d4, d6, d9⟩ | ⟨d4, d6, d9⟩
  · exact pe_throw h1 h2 h3 h4 (by show 0 + c.1 + 1 ≤ _; omega) (by show 0 + c.2 + 6 ≤ _; omega) d0 d3 d4 d6 d9 hst hP
  · exact pe_throwW h1 h2 h3 h4 (by show 0 + c.1 + 1 ≤ _; omega) (by show 0 + c.2 + 6 ≤ _; omega) d0 d3 d4 d6 d9 hst hP
/-- THE JUDGEMENT of ordinary methods: at the label pc; calls go one lower -/
def pp_N (g : pp_G) (h : Nat) (mi : pp_MI) (P : pp_R → pp_W → Prop) (pc : Nat) : pp_St := fun L st w => pp_AT g (pp_room (h + 1) mi) mi (pp_Z g mi P) (0, 0) pc L st w
theorem pp_go {e pc : Nat} {seg : pp_Seg} {L : List (Nat × Value)} {st : List Value} {w : pp_W} (hh : mi.hh = []) (hc : pp_chk mi e pc (pp_cnt mi pc) seg = true) (hw : pp_wp g h mi.ret P (fun E w => P (.inr E) w) (pp_N g h mi P) e seg L st w) : pp_N g h mi P pc L st w :=
  pp_run (R := pp_room (h + 1) mi) (off := (0, 0)) (X := pp_N g h mi P) (fun _ _ _ _ hx => hx) (by show 0 + mi.mc ≤ mi.mc; omega) (by show 0 + mi.ms ≤ mi.ms; omega) ⟨by show h + 9 ≤ h + 1 + 8; omega, by show 40 * h + 240 ≤ 40 * (h + 1) + 200; omega⟩ (pp_endOK hh) pp_endT seg pc _ L st w hc hw
theorem pp_start {av : List Value} {w : pp_W} (hok : pp_MIok mi) (hh : mi.hh = []) (hl : (lg_sl av).length ≤ mi.nL) (k : pp_N g h mi P 0 (lv_args 0 av) [] w) : pp_MW g (h + 1) mi av w P :=
  pp_enter hok hh hl (k.le (Nat.zero_le _) (Nat.zero_le _))
theorem pp_N.sub {pc : Nat} {L L' : List (Nat × Value)} {st : List Value} {w : pp_W} (k : pp_N g h mi P pc L' st w) (hL : ∀ q ∈ L', q ∈ L) : pp_N g h mi P pc L st w := pp_ATc.sub k hL
end Run
end
