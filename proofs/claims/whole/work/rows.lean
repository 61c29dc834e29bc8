section
/-! ===== BEGIN words of one list among another's, by their places ===== -/
theorem goodIn_r {big : List Cond} (ws : List Cond) (ps : List Nat) (hp : ws = ps.filterMap (fun i => big[i]?)) (h : ws.all goodWord = true) : GoodIn big ws := by
  intro w hw
  have h1 := List.all_eq_true.mp h w hw
  rw [hp] at hw
  obtain ⟨i, -, hi⟩ := List.mem_filterMap.mp hw
  have hm : w ∈ big := by first | exact List.mem_of_getElem? hi | exact List.getElem?_mem hi
  exact ⟨hm, good_of_word h1⟩
theorem goodIn_app {big a b : List Cond} (ha : GoodIn big a) (hb : GoodIn big b) : GoodIn big (a ++ b) := fun w h => (List.mem_append.mp h).elim (ha w) (hb w)
theorem goodIn_ca {big a b : List Cond} {c : Cond} (ha : GoodIn big (c :: a)) (hb : GoodIn big b) : GoodIn big (c :: (a ++ b)) := fun w h => (List.mem_cons.mp h).elim (fun e => ha w (List.mem_cons.mpr (Or.inl e))) (fun h => (List.mem_append.mp h).elim (fun h => ha w (List.mem_cons.mpr (Or.inr h))) (hb w))
theorem goodIn_sub {big ws : List Cond} (hm : ∀ w ∈ ws, w ∈ big) (h : ws.all goodWord = true) : GoodIn big ws := fun w hw => ⟨hm w hw, good_of_word (List.all_eq_true.mp h w hw)⟩
/-! ===== END ===== -/

/-! ===== BEGIN exceptions that leave a method, and their catching by the caller (launches without stack traces) ===== -/
section VXA
/-! The laws vx_back, vx_callV, vx_callS, vx_callSW, vx_throw0, vx_throwS follow proofs of the library, with one case more: JvmDerived/Free/Laws.lean (Back.of_free), Shelf42/LK1.lean (callV, callS), Shelf/KitTraced.lean (throwNew0V, throwNewS). -/
/-- where a method has thrown q: the class by its name, the cell, what was written, the world -/
def vx_T (XC : String → State → State → Prop) (st : State) (q : Addr) (t : State) (mc ms : Nat) (free : Addr → Prop) : Prop :=
  ∃ (E : String) (ce : Cell) (L : List Loc), XC E st t ∧ t.heap[q]? = some ce ∧ ce.vm = .none ∧ st.vm.findClass E = some ce.cls ∧ st.WarmedH t.vm ∧ st.sameButNew ({ t with vm := st.vm } : State) L mc ms ∧ ∀ z ∈ L, free z.base
def vx_Q (Qc : Array Value → State → Outcome → State → Prop) (XC : String → State → State → Prop) (mc ms : Nat) (free : Addr → Prop) : Array Value → State → Outcome → State → Prop := fun a st o t =>
  (Qc a st o t ∧ ∃ L, FrameEnd st o t L mc ms ∧ ∀ q ∈ L, free q.base) ∨ ∃ q, o = .threw q ∧ vx_T XC st q t mc ms free
/-- a callee that returns or throws -/
def vx_Met (l : Launch) (y : MethodName) (ws : List Cond) (rm : Room) (Pc : Array Value → State → Prop) (Qc : Array Value → State → Outcome → State → Prop) (XC : String → State → State → Prop) (mc ms : Nat) (free : Addr → Prop) : Prop :=
  MetFree l y (headSpec ws rm) Pc (fun _ _ _ _ _ => True) (vx_Q Qc XC mc ms free)
def vx_Post (XC : String → State → State → Prop) (mc ms : Nat) (free : Addr → Prop) : Pt → Array Value → Addr → Pt → Prop := fun A a q B =>
  ∃ (g : JFrame) (mk : MethodId) (t : State) (L : List Loc) (E : String) (ce : Cell), B.U.heap = t.heap ∧ B.U.vm = t.vm ∧ XC E (A.U.calling g mk a) t ∧ t.heap[q]? = some ce ∧ ce.vm = .none ∧ A.U.vm.findClass E = some ce.cls ∧ B.locs = A.locs ++ L ∧ (∀ z ∈ L, free z.base) ∧ B.cells = A.cells + mc ∧ B.slots = A.slots + ms
def vx_Back (l : Launch) (R : Room) (p : Program) (e : Env) (below : List Frame) (s : State) (sargs : Array Value) (y : MethodName) (len W9 : Nat)
    (Pre : Pt → Array Value → Prop) (Post : Pt → Array Value → Option Value → Pt → Prop) (PostX : Pt → Array Value → Addr → Pt → Prop) : Prop :=
  ∀ (m : MethodId) (meth : Method) (c : Code) (A : Pt) (g : JFrame) (ig : Instr) (mk : MethodId) (a : Array Value),
    Stand p l e R s m sargs below meth c A.U A.locs A.cells A.slots → g.method = m → g.locals.size = c.maxLocals → decode c.code g.pc = .ok (ig, len) →
    2 * g.monitorRoom + (g.stack.map fun v => v.category).sum ≤ W9 → A.U.methodNamed? y = some mk → Pre A a →
    (∃ (v : Option Value) (B : Pt), Stand p l e R s m sargs below meth c B.U B.locs B.cells B.slots ∧ Post A a v B ∧
      Steps p.tables e below (doInvoke e (A.U.setTop g) [] mk a).1 (B.U.setTop { g with pc := g.pc + len, stack := v.toList ++ g.stack })) ∨
    (∃ (q : Addr) (B : Pt), Stand p l e R s m sargs below meth c B.U B.locs B.cells B.slots ∧ PostX A a q B ∧
      Steps p.tables e below (doInvoke e (A.U.setTop g) [] mk a).1 ((B.U.setTop g).pushFrame (.throwing q)))
section Payer
variable {l : Launch} {R : Room} {p : Program} {e : Env} {below : List Frame} {s : State} {sargs : Array Value} {y : MethodName} {len W9 : Nat}
theorem vx_back {ws : List Cond} {rm : Room} {Pc : Array Value → State → Prop} {Qc : Array Value → State → Outcome → State → Prop} {XC : String → State → State → Prop} {mc ms : Nat} {free : Addr → Prop} {bytes : ByteArray} {maxL : Nat} {ret : Option FieldType}
    (hM : vx_Met l y ws rm Pc Qc XC mc ms free) (hblind : FrameBlind Pc) (hrc : rm.cells = mc) (hrs : rm.slots = ms)
    (hframes : rm.frames + 1 ≤ R.frames) (hlocals : W9 + (maxL + 11) + rm.locals ≤ R.locals)
    (hws : ∀ w ∈ ws, ∀ a' U, s.WarmedH U.vm → w.before a' U = true) (hcode : Cond.code y bytes maxL ret ∈ ws) (hinit : ∀ a' U, s.WarmedH U.vm → (Cond.initialized y.cls).before a' U = true) :
    vx_Back l R p e below s sargs y len W9 (PreOf R mc ms Pc) (PostOf Qc mc ms free) (vx_Post XC mc ms free) := by
  intro m meth c A g ig mk a X hg hsize hdg hW hn hp
  have h1 : (headSpec ws rm).pre.before a A.U = true := atoms_intro fun w hw => hws w hw _ _ X.warmed
  have h2 : (Cond.code y bytes maxL ret).before a A.U = true := hws _ hcode _ _ X.warmed
  have h3 : (Cond.initialized y.cls).before a A.U = true := hinit _ _ X.warmed
  have h4 : A.cells + (headSpec ws rm).room.cells ≤ R.cells := by rw [show (headSpec ws rm).room.cells = mc from hrc]; exact hp.1
  have h5 : A.slots + (headSpec ws rm).room.slots ≤ R.slots := by rw [show (headSpec ws rm).room.slots = ms from hrs]; exact hp.2.1
  have hPc : Pc a (A.U.calling g mk a) := hblind _ _ _ _ hp.2.2
  obtain ⟨U, Ls, c0, s0⟩ := A
  dsimp only [Pt.U, Pt.locs, Pt.cells, Pt.slots] at h1 h2 h3 h4 h5 X hn hPc ⊢
  obtain ⟨methY, cY, hmY, hcY, -, hlY, -, -, -, -⟩ := Cond.code_spec hn h2
  obtain ⟨kY, hkY, -⟩ := className_of_methodNamed hn
  have hinitY : kY.init = .initialized := Cond.initialized_spec (findClass_of_methodNamed hn) hkY h3
  have h : At U g.method c below := by rw [hg]; exact X.here
  have hlocals9 : W9 + (maxL + 11) + (headSpec ws rm).room.locals ≤ R.locals := hlocals
  have happ : (headSpec ws rm).appliesLoose y e.platform (U.calling g mk a) = true :=
    Spec.appliesLoose_calling (g := g) h hdg hn hkY hinitY
      (X.room_calling (g := g) (R' := (headSpec ws rm).room) hsize hmY hcY hframes (by rw [hlY]; omega) h4 h5) h1
  obtain ⟨mid, hmid⟩ := h.above
  have hfr : (U.setTop g).frames = (.java g :: mid) ++ below := by rw [State.frames_setTop' g h.top, hmid]; rfl
  obtain ⟨o, s₂, hsteps, -, hend, hq⟩ := Steps.callFree hM p X.admits X.cas X.clock (acts := []) hfr happ hPc trivial
  have hq' : vx_Q Qc XC mc ms free a (U.calling g mk a) o s₂ := hq
  rw [State.frames_setTop' g h.top] at hend
  obtain ⟨g₀, hg0⟩ := Option.isSome_iff_exists.mp h.top
  obtain ⟨r, hr⟩ := State.topJava?_eq_some.mp hg0
  have hr' : (({ U with heap := s₂.heap, slotsUsed := s₂.slotsUsed } : State).setVm s₂.vm).frames = .java g₀ :: r := hr
  rcases hq' with ⟨hqc, L, hfe, hL⟩ | ⟨q, rfl, E, ce, L, hx, hce, hcv, hcl, hW₂, hsm, hL⟩
  · obtain ⟨⟨v, rfl⟩, hW₂, e2, q2, q3, q4, q5, q6⟩ := id hfe
    have e3 : s₂ = ({ (U.calling g mk a).setFrames s₂.frames with heap := s₂.heap, slotsUsed := s₂.slotsUsed } : State).setVm s₂.vm := by
      have : s₂ = ({ s₂ with vm := (U.calling g mk a).vm } : State).setVm s₂.vm := rfl
      rw [e2] at this
      exact this
    obtain ⟨c₂, i₂, len₂, hc₂, hd₂, hf₂⟩ := hend
    have hW' : U.WarmedH s₂.vm := hW₂
    have hcc : c₂ = c := by
      have h1 : s₂.code? g.method = U.code? g.method := by
        rw [State.code?_eq, State.code?_eq, hW'.alike.method?]
      exact Option.some.inj (hc₂.symm.trans (h1.trans h.code))
    subst hcc
    have hlen : len₂ = len := by rw [hdg] at hd₂; cases hd₂; rfl
    subst hlen
    have hs₂ : s₂ = (({ U with heap := s₂.heap, slotsUsed := s₂.slotsUsed } : State).setVm s₂.vm).setTop { g with pc := g.pc + len₂, stack := v.toList ++ g.stack } := by
      refine e3.trans ?_
      rw [hf₂, State.calling_eq h.top, State.setFrames_setFrames, State.setTop_of_frames _ hr', hr]
      rfl
    have hsame : U.sameButNew ({ U with heap := s₂.heap, slotsUsed := s₂.slotsUsed } : State) L mc ms := by
      refine ⟨?_, q2, q3, q4, q5, q6⟩
      obtain ⟨t, ht, -⟩ := State.frames_cons hr
      show ({ U with heap := s₂.heap, slotsUsed := s₂.slotsUsed } : State) = { U.setFrames U.frames with heap := s₂.heap, slotsUsed := s₂.slotsUsed }
      rw [State.setFrames_self ht]
    subst hg
    refine Or.inl ⟨v, ⟨(({ U with heap := s₂.heap, slotsUsed := s₂.slotsUsed } : State).setVm s₂.vm), Ls ++ L, c0 + mc, s0 + ms⟩,
      ⟨X.admits, X.cas, X.clock, X.frames, X.room, X.hears, X.method, X.code, (X.here.setHeapUsed s₂.heap s₂.slotsUsed).setVm hW'.alike, X.tail, State.WarmedH.trans X.warmed hW', X.limits, X.bytes, X.same.trans (hsame.setVm s.vm)⟩,
      ⟨g, mk, s₂, L, rfl, rfl, hqc, rfl, hL, rfl, rfl⟩, ?_⟩
    show Steps p.tables e below _ ((({ U with heap := s₂.heap, slotsUsed := s₂.slotsUsed } : State).setVm s₂.vm).setTop { g with pc := g.pc + len₂, stack := v.toList ++ g.stack })
    rw [← hs₂]
    exact hsteps
  · obtain ⟨e2, q2, q3, q4, q5, q6⟩ := id hsm
    have e3 : s₂ = ({ (U.calling g mk a).setFrames s₂.frames with heap := s₂.heap, slotsUsed := s₂.slotsUsed } : State).setVm s₂.vm := by
      have : s₂ = ({ s₂ with vm := (U.calling g mk a).vm } : State).setVm s₂.vm := rfl
      rw [e2] at this
      exact this
    have hf₂ : s₂.frames = .throwing q :: .java g :: U.frames.tail := hend
    have hW' : U.WarmedH s₂.vm := hW₂
    have hs₂ : s₂ = ((({ U with heap := s₂.heap, slotsUsed := s₂.slotsUsed } : State).setVm s₂.vm).setTop g).pushFrame (.throwing q) := by
      refine e3.trans ?_
      rw [hf₂, State.calling_eq h.top, State.setFrames_setFrames, State.pushFrame, State.frames_setTop _ hr', State.setTop_of_frames _ hr', State.setFrames_setFrames, hr]
      rfl
    have hsame : U.sameButNew ({ U with heap := s₂.heap, slotsUsed := s₂.slotsUsed } : State) L mc ms := by
      refine ⟨?_, q2, q3, q4, q5, q6⟩
      obtain ⟨t, ht, -⟩ := State.frames_cons hr
      show ({ U with heap := s₂.heap, slotsUsed := s₂.slotsUsed } : State) = { U.setFrames U.frames with heap := s₂.heap, slotsUsed := s₂.slotsUsed }
      rw [State.setFrames_self ht]
    subst hg
    refine Or.inr ⟨q, ⟨(({ U with heap := s₂.heap, slotsUsed := s₂.slotsUsed } : State).setVm s₂.vm), Ls ++ L, c0 + mc, s0 + ms⟩,
      ⟨X.admits, X.cas, X.clock, X.frames, X.room, X.hears, X.method, X.code, (X.here.setHeapUsed s₂.heap s₂.slotsUsed).setVm hW'.alike, X.tail, State.WarmedH.trans X.warmed hW', X.limits, X.bytes, X.same.trans (hsame.setVm s.vm)⟩,
      ⟨g, mk, s₂, L, E, ce, rfl, rfl, hx, hce, hcv, hcl, rfl, hL, rfl, rfl⟩, ?_⟩
    show Steps p.tables e below _ (((({ U with heap := s₂.heap, slotsUsed := s₂.slotsUsed } : State).setVm s₂.vm).setTop g).pushFrame (.throwing q))
    rw [← hs₂]
    exact hsteps
end Payer
section Calls
variable {p : Program} {l : Launch} {e : Env} {R : Room} {s : State} {m : MethodId} {args : Array Value} {below : List Frame} {meth : Method} {c : Code} {T : State} {locs : List Loc} {cells slots : Nat}
theorem vx_callV (X : Stand p l e R s m args below meth c T locs cells slots) (hexec : p.tables.exec = Jvm.exec) {own C : String} {index : Nat} {y : MethodName} {bytes : ByteArray} {maxL : Nat} {ret : Option FieldType}
    (hown : s.vm.findClass own = some m.cls) (hlink : (Cond.methodLink own index y).before args s = true) (hinst : (Cond.instanceMethod y).before args s = true) (hsel : (Cond.selects C y y).before args s = true)
    (hcode : (Cond.code y bytes maxL ret).before args s = true) (hy : y.cls ≠ "java/lang/invoke/MethodHandle" ∧ y.cls ≠ "java/lang/invoke/VarHandle")
    {W9 : Nat} {Pre : Pt → Array Value → Prop} {Post : Pt → Array Value → Option Value → Pt → Prop} {PostX : Pt → Array Value → Addr → Pt → Prop} (hK : vx_Back l R p e below s args y 3 W9 Pre Post PostX)
    {b : Addr} {cellB : Cell} (hcell : T.heap[b]? = some cellB) (hobj : cellB.vm.isStatics = false) (hcls : s.vm.findClass C = some cellB.cls)
    {g : JFrame} (hg : g.method = m) (hsize : g.locals.size = c.maxLocals) {argsL rest : List Value} (hlen : ∀ sig, parseMethodDescriptor y.desc = some sig → argsL.length = sig.parameters.length)
    (hstack : g.stack = argsL.reverse ++ .ref b :: rest) (hW : 2 * g.monitorRoom + (rest.map fun v => v.category).sum ≤ W9) (hdg : decode c.code g.pc = .ok (.invokevirtual index, 3))
    (hpre : ∀ vm₁, s.WarmedH vm₁ → Pre ⟨T.setVm vm₁, locs, cells, slots⟩ (Value.ref b :: argsL).toArray) :
    (∃ (v : Option Value) (vm₁ : Vm) (B : Pt), s.WarmedH vm₁ ∧ Stand p l e R s m args below meth c B.U B.locs B.cells B.slots ∧ Post ⟨T.setVm vm₁, locs, cells, slots⟩ (Value.ref b :: argsL).toArray v B ∧
      ∀ target, Steps p.tables e below (B.U.setTop { g with pc := g.pc + 3, stack := v.toList ++ rest }) target → Steps p.tables e below (T.setTop g) target) ∨
    (∃ (q : Addr) (vm₁ : Vm) (B : Pt), s.WarmedH vm₁ ∧ Stand p l e R s m args below meth c B.U B.locs B.cells B.slots ∧ PostX ⟨T.setVm vm₁, locs, cells, slots⟩ (Value.ref b :: argsL).toArray q B ∧
      Steps p.tables e below (T.setTop g) ((B.U.setTop { g with stack := rest }).pushFrame (.throwing q))) := by
  obtain ⟨mk, methM, hnamed, hmethM, hstM, habM⟩ := Cond.instanceMethod_spec hinst
  obtain ⟨methM', cM, hmethM', -, -, -, -, -, -, hsigM⟩ := Cond.code_spec hnamed hcode
  cases hmethM.symm.trans hmethM'
  obtain ⟨c2, r2, m2, q1, q2, q3, q4, kP, hkP, hkPi⟩ := Cond.selects_spec hsel
  cases hcls.symm.trans q1
  cases (State.methodFound?_of_named hnamed hy).symm.trans q2
  cases hnamed.symm.trans q3
  have hselP : selectMethod e.platform s.vm cellB.cls mk = .method mk := by rw [Launch.admits_selectMethod X.admits]; exact q4
  obtain ⟨vm₁, X₁, hstep₁⟩ := X.invokevirtual hexec hown hlink hnamed hmethM hstM hkP hkPi hy (a := b) (cell := cellB) hcell
    (fun z h => by rw [h] at hobj; cases hobj) hselP hmethM habM hkP hkPi (g := g) hg (argsL := argsL) (rest := rest) (hlen _ hsigM) hstack hdg
  rcases hK m meth c ⟨T.setVm vm₁, locs, cells, slots⟩ { g with stack := rest } (.invokevirtual index) mk (Value.ref b :: argsL).toArray X₁ hg hsize hdg hW (X₁.named hnamed) (hpre vm₁ X₁.warmed) with ⟨v, B, X', hpost, hsteps⟩ | ⟨q, B, X', hpost, hsteps⟩
  · exact Or.inl ⟨v, vm₁, B, X₁.warmed, X', hpost, fun target h => hstep₁ _ fun acts => by rw [doInvoke_state]; exact hsteps.trans h⟩
  · exact Or.inr ⟨q, vm₁, B, X₁.warmed, X', hpost, hstep₁ _ fun acts => by rw [doInvoke_state]; exact hsteps⟩
theorem vx_callS (X : Stand p l e R s m args below meth c T locs cells slots) (hexec : p.tables.exec = Jvm.exec) {own : String} {index : Nat} {y : MethodName} {bytes : ByteArray} {maxL : Nat} {ret : Option FieldType}
    (hown : s.vm.findClass own = some m.cls) (hlink : (Cond.methodLink own index y).before args s = true) (hstat : (Cond.static y).before args s = true) (hinit : (Cond.initialized y.cls).before args s = true)
    (hcode : (Cond.code y bytes maxL ret).before args s = true) (hy : y.cls ≠ "java/lang/invoke/MethodHandle" ∧ y.cls ≠ "java/lang/invoke/VarHandle")
    {W9 : Nat} {Pre : Pt → Array Value → Prop} {Post : Pt → Array Value → Option Value → Pt → Prop} {PostX : Pt → Array Value → Addr → Pt → Prop} (hK : vx_Back l R p e below s args y 3 W9 Pre Post PostX)
    {g : JFrame} (hg : g.method = m) (hsize : g.locals.size = c.maxLocals) {argsL rest : List Value} (hlen : ∀ sig, parseMethodDescriptor y.desc = some sig → argsL.length = sig.parameters.length)
    (hstack : g.stack = argsL.reverse ++ rest) (hW : 2 * g.monitorRoom + (rest.map fun v => v.category).sum ≤ W9) (hdg : decode c.code g.pc = .ok (.invokestatic index, 3))
    (hpre : ∀ vm₁, s.WarmedH vm₁ → Pre ⟨T.setVm vm₁, locs, cells, slots⟩ argsL.toArray) :
    (∃ (v : Option Value) (vm₁ : Vm) (B : Pt), s.WarmedH vm₁ ∧ Stand p l e R s m args below meth c B.U B.locs B.cells B.slots ∧ Post ⟨T.setVm vm₁, locs, cells, slots⟩ argsL.toArray v B ∧
      ∀ target, Steps p.tables e below (B.U.setTop { g with pc := g.pc + 3, stack := v.toList ++ rest }) target → Steps p.tables e below (T.setTop g) target) ∨
    (∃ (q : Addr) (vm₁ : Vm) (B : Pt), s.WarmedH vm₁ ∧ Stand p l e R s m args below meth c B.U B.locs B.cells B.slots ∧ PostX ⟨T.setVm vm₁, locs, cells, slots⟩ argsL.toArray q B ∧
      Steps p.tables e below (T.setTop g) ((B.U.setTop { g with stack := rest }).pushFrame (.throwing q))) := by
  obtain ⟨mk, hnamed⟩ := Cond.code_named hcode
  obtain ⟨methM, cM, hmethM, -, -, -, -, -, -, hsigM⟩ := Cond.code_spec hnamed hcode
  have hstatic : methM.isStatic = true := Cond.static_spec hnamed hmethM hstat
  obtain ⟨kP, hkP, -⟩ := className_of_methodNamed hnamed
  have hinitP : kP.init = .initialized := Cond.initialized_spec (findClass_of_methodNamed hnamed) hkP hinit
  obtain ⟨vm₁, X₁, hstep₁⟩ := X.invokestatic hexec hown hlink hnamed hmethM hstatic hkP hinitP hy (g := g) hg (argsL := argsL) (rest := rest) (hlen _ hsigM) hstack hdg
  rcases hK m meth c ⟨T.setVm vm₁, locs, cells, slots⟩ { g with stack := rest } (.invokestatic index) mk argsL.toArray X₁ hg hsize hdg hW (X₁.named hnamed) (hpre vm₁ X₁.warmed) with ⟨v, B, X', hpost, hsteps⟩ | ⟨q, B, X', hpost, hsteps⟩
  · exact Or.inl ⟨v, vm₁, B, X₁.warmed, X', hpost, fun target h => hstep₁ _ fun acts => by rw [doInvoke_state]; exact hsteps.trans h⟩
  · exact Or.inr ⟨q, vm₁, B, X₁.warmed, X', hpost, hstep₁ _ fun acts => by rw [doInvoke_state]; exact hsteps⟩
end Calls
theorem vx_cls {s : State} {T : State} {vm₁ : Vm} {E : String} {k : ClassId} (hW : s.WarmedH vm₁) (h : (T.setVm vm₁).vm.findClass E = some k) : s.vm.findClass E = some k := by
  have h1 : vm₁.findClass E = some k := h
  rw [hW.alike.findClass] at h1
  exact h1
/-- the method's frame g, with q thrown over it -/
def vx_W (p : Program) (l : Launch) (e : Env) (R : Room) (s : State) (m : MethodId) (args : Array Value) (below : List Frame) (meth : Method) (c : Code) (H : Heap) (locs : List Loc) (cells slots : Nat) (Q : State → Prop) (g : JFrame) (q : Addr) : Prop :=
  ∀ T : State, T.heap = H → Stand p l e R s m args below meth c T locs cells slots → ∃ t, Steps p.tables e below ((T.setTop g).pushFrame (.throwing q)) t ∧ Q t
def vx_Run (p : Program) (l : Launch) (e : Env) (R : Room) (s : State) (m : MethodId) (args : Array Value) (below : List Frame) (meth : Method) (c : Code) (H : Heap) (locs : List Loc) (cells slots mc ms : Nat) (g : JFrame) (rest : List Value) (Qa : State → Outcome → State → Prop) (XC : String → State → State → Prop) (free : Addr → Prop) : Prop :=
  ∀ T : State, T.heap = H → Stand p l e R s m args below meth c T locs cells slots →
    (∃ (v : Option Value) (st₀ t T' : State) (L : List Loc), st₀.heap = H ∧ Stand p l e R s m args below meth c T' (locs ++ L) (cells + mc) (slots + ms) ∧ (∀ q ∈ L, free q.base) ∧ T'.heap = t.heap ∧ T'.vm = t.vm ∧ Qa st₀ (.returned v) t ∧
      Goes p e below T g T' { g with pc := g.pc + 3, stack := v.toList ++ rest }) ∨
    (∃ (q : Addr) (st₀ t T' : State) (L : List Loc) (E : String) (ce : Cell), st₀.heap = H ∧ Stand p l e R s m args below meth c T' (locs ++ L) (cells + mc) (slots + ms) ∧ (∀ z ∈ L, free z.base) ∧ T'.heap = t.heap ∧ T'.vm = t.vm ∧ XC E st₀ t ∧ t.heap[q]? = some ce ∧ ce.vm = .none ∧ s.vm.findClass E = some ce.cls ∧
      Steps p.tables e below (T.setTop g) ((T'.setTop { g with stack := rest }).pushFrame (.throwing q)))
def vx_X {S : Type} (px : S → Prop) (B : String → S → State → Prop) (A : Nat → Prop) : String → State → State → Prop := fun E st t => ∃ u : S, px u ∧ B E u t ∧ va_F A st t
section Runs
variable {p : Program} {l : Launch} {e : Env} {R : Room} {s : State} {m : MethodId} {args : Array Value} {below : List Frame} {meth : Method} {c : Code} {H : Heap} {locs : List Loc} {cells slots : Nat}
variable {y : MethodName} {bytes cc : ByteArray} {maxL nL mc ms n index : Nat} {ret : Option FieldType} {ws : List Cond} {rm : Room} {Pc : Array Value → State → Prop} {Qc : Array Value → State → Outcome → State → Prop} {XC : String → State → State → Prop} {free : Addr → Prop} {Ts : List Cond} {own C : String} {b : Addr} {As rest : List Value} {g : JFrame}
theorem vx_callBack (cb : CallB R s args own index y bytes maxL ret ws rm mc ms n) (hM : vx_Met l y ws rm Pc Qc XC mc ms free) (hbl : FrameBlind Pc) : vx_Back l R p e below s args y 3 8 (PreOf R mc ms Pc) (PostOf Qc mc ms free) (vx_Post XC mc ms free) := by
  obtain ⟨hrc, hrs, hfr, hlo, hws, hcw, -, hini, -⟩ := cb
  exact vx_back (bytes := bytes) (maxL := maxL) (ret := ret) hM hbl hrc hrs hfr hlo hws hcw (fun a' U hW => word_at hW (Or.inl (by first | rfl | simp [Cond.onTables, Cond.keeps, Cond.steady])) hini)
theorem vx_runV (S : CallFix p m c cc nL s args Ts own) (hM : vx_Met l y ws rm Pc Qc XC mc ms free) (cw : CallW R s args own C index y bytes maxL ret ws rm mc ms n) (hp : PreV s H C b Pc As)
    (hg : g.method = m) (hn : As.length = n) (hsize : g.locals.size = nL) (hstack : g.stack = As.reverse ++ .ref b :: rest) (hW : 2 * g.monitorRoom + (rest.map fun v => v.category).sum ≤ 8) (hdg : decode cc g.pc = .ok (.invokevirtual index, 3)) (hf : cells + mc ≤ R.cells ∧ slots + ms ≤ R.slots) :
    vx_Run p l e R s m args below meth c H locs cells slots mc ms g rest (Qc (Value.ref b :: As).toArray) XC free := by
  have hK : vx_Back l R p e below s args y 3 8 (PreOf R mc ms Pc) (PostOf Qc mc ms free) (vx_Post XC mc ms free) := vx_callBack cw.1 hM hp.1
  obtain ⟨⟨-, -, -, -, -, -, hcode, -, hy, hlen, hl⟩, hin, hse⟩ := cw
  obtain ⟨hx, hb, hml, ho, -⟩ := S
  obtain ⟨-, ⟨cellB, hcB, hoB, hclB⟩, hPc⟩ := hp
  intro T hT X
  rcases vx_callV X hx (C := C) (bytes := bytes) (maxL := maxL) (ret := ret) ho hl hin hse hcode hy hK (by rw [hT]; exact hcB) hoB hclB hg (hsize.trans hml.symm) (argsL := As) (rest := rest) (fun sig h => hn.trans (hlen sig h)) hstack hW (by rw [hb]; exact hdg)
    (fun vm₁ hW₁ => ⟨hf.1, hf.2, hPc (T.setVm vm₁) hT hW₁⟩) with ⟨v, vm₁, ⟨U', l2, c2, s2⟩, hW₁, X', ⟨g', mk, t, L, e1, e2, hq, h1, hL, h2, h3⟩, st⟩ | ⟨q, vm₁, ⟨U', l2, c2, s2⟩, hW₁, X', ⟨g', mk, t, L, E, ce, e1, e2, hq, hce, hcv, hcl, h1, hL, h2, h3⟩, st⟩
  · dsimp only [Pt.U, Pt.locs, Pt.cells, Pt.slots] at X' e1 e2 h1 h2 h3 st
    subst h1; subst h2; subst h3
    exact Or.inl ⟨v, (T.setVm vm₁).calling g' mk (Value.ref b :: As).toArray, t, U', L, hT, X', hL, e1, e2, hq, st⟩
  · dsimp only [Pt.U, Pt.locs, Pt.cells, Pt.slots] at X' e1 e2 h1 h2 h3 st hcl
    subst h1; subst h2; subst h3
    exact Or.inr ⟨q, (T.setVm vm₁).calling g' mk (Value.ref b :: As).toArray, t, U', L, E, ce, hT, X', hL, e1, e2, hq, hce, hcv, vx_cls hW₁ hcl, st⟩
theorem vx_runS (S : CallFix p m c cc nL s args Ts own) (hM : vx_Met l y ws rm Pc Qc XC mc ms free) (cw : CallB R s args own index y bytes maxL ret ws rm mc ms n ∧ (Cond.static y).before args s = true) (hp : PreS s H Pc As)
    (hg : g.method = m) (hn : As.length = n) (hsize : g.locals.size = nL) (hstack : g.stack = As.reverse ++ rest) (hW : 2 * g.monitorRoom + (rest.map fun v => v.category).sum ≤ 8) (hdg : decode cc g.pc = .ok (.invokestatic index, 3)) (hf : cells + mc ≤ R.cells ∧ slots + ms ≤ R.slots) :
    vx_Run p l e R s m args below meth c H locs cells slots mc ms g rest (Qc As.toArray) XC free := by
  have hK : vx_Back l R p e below s args y 3 8 (PreOf R mc ms Pc) (PostOf Qc mc ms free) (vx_Post XC mc ms free) := vx_callBack cw.1 hM hp.1
  obtain ⟨⟨-, -, -, -, -, -, hcode, hini, hy, hlen, hl⟩, hstt⟩ := cw
  obtain ⟨hx, hb, hml, ho, -⟩ := S
  intro T hT X
  rcases vx_callS X hx (bytes := bytes) (maxL := maxL) (ret := ret) ho hl hstt hini hcode hy hK hg (hsize.trans hml.symm) (argsL := As) (rest := rest) (fun sig h => hn.trans (hlen sig h)) hstack hW (by rw [hb]; exact hdg)
    (fun vm₁ hW₁ => ⟨hf.1, hf.2, hp.2 (T.setVm vm₁) hT hW₁⟩) with ⟨v, vm₁, ⟨U', l2, c2, s2⟩, hW₁, X', ⟨g', mk, t, L, e1, e2, hq, h1, hL, h2, h3⟩, st⟩ | ⟨q, vm₁, ⟨U', l2, c2, s2⟩, hW₁, X', ⟨g', mk, t, L, E, ce, e1, e2, hq, hce, hcv, hcl, h1, hL, h2, h3⟩, st⟩
  · dsimp only [Pt.U, Pt.locs, Pt.cells, Pt.slots] at X' e1 e2 h1 h2 h3 st
    subst h1; subst h2; subst h3
    exact Or.inl ⟨v, (T.setVm vm₁).calling g' mk As.toArray, t, U', L, hT, X', hL, e1, e2, hq, st⟩
  · dsimp only [Pt.U, Pt.locs, Pt.cells, Pt.slots] at X' e1 e2 h1 h2 h3 st hcl
    subst h1; subst h2; subst h3
    exact Or.inr ⟨q, (T.setVm vm₁).calling g' mk As.toArray, t, U', L, E, ce, hT, X', hL, e1, e2, hq, hce, hcv, vx_cls hW₁ hcl, st⟩
end Runs
section Rows
variable {p : Program} {l : Launch} {e : Env} {R : Room} {s : State} {m : MethodId} {args : Array Value} {below : List Frame} {meth : Method} {c : Code} {H : Heap} {locs : List Loc} {cells slots : Nat} {Q : State → Prop}
variable {mc ms : Nat} {free : Addr → Prop} {A0 A1 : Nat → Prop} {H0 : Heap} {a : Array Value} {pc : Nat} {ls : Array Slot} {st0 rest : List Value}
theorem vx_keep {st₀ t T' : State} {L : List Loc} (h0 : st₀.heap = H) (e1 : T'.heap = t.heap) (hS : va_S A0 H0 H locs) (hA : ∀ q, q < H.size → A1 q → A0 q) (hf : ∀ q, free q → A0 q) (hL : ∀ q ∈ L, free q.base) (hF : va_F A1 st₀ t) :
    H.size ≤ T'.heap.size ∧ (∀ q : Nat, q < H.size → ¬ A1 q → T'.heap[q]? = H[q]?) ∧ va_S A0 H0 T'.heap (locs ++ L) := by
  obtain ⟨hz, hk⟩ := hF
  rw [h0] at hz hk
  exact ⟨by rw [e1]; exact hz, fun q h1 h2 => by rw [e1]; exact hk q h1 h2,
    ⟨Nat.le_trans hS.1 (by rw [e1]; exact hz), fun q h1 h2 => by rw [e1, hk q (Nat.lt_of_lt_of_le h1 hS.1) (fun z => h2 (hA q (Nat.lt_of_lt_of_le h1 hS.1) z))]; exact hS.2.1 q h1 h2, fun q hq => by
      rcases List.mem_append.mp hq with h | h
      · exact hS.2.2 q h
      · exact hf _ (hL q h)⟩⟩
theorem vx_calli {S SX : Type} {post : Int32 → S → Prop} {px : SX → Prop} {B : S → State → Prop} {BX : String → SX → State → Prop} {AX : Nat → Prop} (hr : vx_Run p l e R s m args below meth c H locs cells slots mc ms (F0 m pc ls st0) rest (va_Qi post B A1 a) (vx_X px BX AX) free) (hS : va_S A0 H0 H locs) (hA : ∀ q, q < H.size → A1 q → A0 q) (hf : ∀ q, free q → A0 q) (hAX : ∀ q, q < H.size → AX q → A0 q)
    (kx : ∀ (E : String) (ce : Cell) (q9 : Addr) (u : SX) (t : State) (H1 : Heap) (locs1 : List Loc), t.heap = H1 → s.vm.Alike t.vm → px u → BX E u t → H.size ≤ H1.size → (∀ q : Nat, q < H.size → ¬ AX q → H1[q]? = H[q]?) → va_S A0 H0 H1 locs1 → H1[q9]? = some ce → ce.vm = .none → s.vm.findClass E = some ce.cls → vx_W p l e R s m args below meth c H1 locs1 (cells + mc) (slots + ms) Q (F0 m pc ls rest) q9)
    (kk : ∀ (r : Int32) (u : S) (t : State) (H1 : Heap) (locs1 : List Loc), t.heap = H1 → s.vm.Alike t.vm → post r u → B u t → H.size ≤ H1.size → (∀ q : Nat, q < H.size → ¬ A1 q → H1[q]? = H[q]?) → va_S A0 H0 H1 locs1 → W p l e R s m args below meth c H1 locs1 (cells + mc) (slots + ms) Q (F0 m (pc + 3) ls (.int r :: rest))) : W p l e R s m args below meth c H locs cells slots Q (F0 m pc ls st0) := by
  intro T hT X
  rcases hr T hT X with ⟨v, st₀, t, T', L, h0, X', hL, e1, e2, ⟨⟨r, u, hv, hp, hb⟩, hF⟩, st⟩ | ⟨q, st₀, t, T', L, E, ce, h0, X', hL, e1, e2, ⟨u, hp, hb, hF⟩, hce, hcv, hcl, st⟩
  · cases hv
    obtain ⟨k1, k2, k3⟩ := vx_keep h0 e1 hS hA hf hL hF
    obtain ⟨t2, a1, b1⟩ := kk r u t T'.heap (locs ++ L) e1.symm (by rw [← e2]; exact X'.warmed.alike) hp hb k1 k2 k3 T' rfl X'
    exact ⟨t2, st t2 a1, b1⟩
  · obtain ⟨k1, k2, k3⟩ := vx_keep h0 e1 hS hAX hf hL hF
    obtain ⟨t2, a1, b1⟩ := kx E ce q u t T'.heap (locs ++ L) e1.symm (by rw [← e2]; exact X'.warmed.alike) hp hb k1 k2 k3 (by rw [e1]; exact hce) hcv hcl T' rfl X'
    exact ⟨t2, st.trans a1, b1⟩
theorem vx_calll {S SX : Type} {post : Int64 → S → Prop} {px : SX → Prop} {B : S → State → Prop} {BX : String → SX → State → Prop} {AX : Nat → Prop} (hr : vx_Run p l e R s m args below meth c H locs cells slots mc ms (F0 m pc ls st0) rest (va_Ql post B A1 a) (vx_X px BX AX) free) (hS : va_S A0 H0 H locs) (hA : ∀ q, q < H.size → A1 q → A0 q) (hf : ∀ q, free q → A0 q) (hAX : ∀ q, q < H.size → AX q → A0 q)
    (kx : ∀ (E : String) (ce : Cell) (q9 : Addr) (u : SX) (t : State) (H1 : Heap) (locs1 : List Loc), t.heap = H1 → s.vm.Alike t.vm → px u → BX E u t → H.size ≤ H1.size → (∀ q : Nat, q < H.size → ¬ AX q → H1[q]? = H[q]?) → va_S A0 H0 H1 locs1 → H1[q9]? = some ce → ce.vm = .none → s.vm.findClass E = some ce.cls → vx_W p l e R s m args below meth c H1 locs1 (cells + mc) (slots + ms) Q (F0 m pc ls rest) q9)
    (kk : ∀ (r : Int64) (u : S) (t : State) (H1 : Heap) (locs1 : List Loc), t.heap = H1 → s.vm.Alike t.vm → post r u → B u t → H.size ≤ H1.size → (∀ q : Nat, q < H.size → ¬ A1 q → H1[q]? = H[q]?) → va_S A0 H0 H1 locs1 → W p l e R s m args below meth c H1 locs1 (cells + mc) (slots + ms) Q (F0 m (pc + 3) ls (.long r :: rest))) : W p l e R s m args below meth c H locs cells slots Q (F0 m pc ls st0) := by
  intro T hT X
  rcases hr T hT X with ⟨v, st₀, t, T', L, h0, X', hL, e1, e2, ⟨⟨r, u, hv, hp, hb⟩, hF⟩, st⟩ | ⟨q, st₀, t, T', L, E, ce, h0, X', hL, e1, e2, ⟨u, hp, hb, hF⟩, hce, hcv, hcl, st⟩
  · cases hv
    obtain ⟨k1, k2, k3⟩ := vx_keep h0 e1 hS hA hf hL hF
    obtain ⟨t2, a1, b1⟩ := kk r u t T'.heap (locs ++ L) e1.symm (by rw [← e2]; exact X'.warmed.alike) hp hb k1 k2 k3 T' rfl X'
    exact ⟨t2, st t2 a1, b1⟩
  · obtain ⟨k1, k2, k3⟩ := vx_keep h0 e1 hS hAX hf hL hF
    obtain ⟨t2, a1, b1⟩ := kx E ce q u t T'.heap (locs ++ L) e1.symm (by rw [← e2]; exact X'.warmed.alike) hp hb k1 k2 k3 (by rw [e1]; exact hce) hcv hcl T' rfl X'
    exact ⟨t2, st.trans a1, b1⟩
theorem vx_callf {S SX : Type} {post : UInt32 → S → Prop} {px : SX → Prop} {B : S → State → Prop} {BX : String → SX → State → Prop} {AX : Nat → Prop} (hr : vx_Run p l e R s m args below meth c H locs cells slots mc ms (F0 m pc ls st0) rest (va_Qf post B A1 a) (vx_X px BX AX) free) (hS : va_S A0 H0 H locs) (hA : ∀ q, q < H.size → A1 q → A0 q) (hf : ∀ q, free q → A0 q) (hAX : ∀ q, q < H.size → AX q → A0 q)
    (kx : ∀ (E : String) (ce : Cell) (q9 : Addr) (u : SX) (t : State) (H1 : Heap) (locs1 : List Loc), t.heap = H1 → s.vm.Alike t.vm → px u → BX E u t → H.size ≤ H1.size → (∀ q : Nat, q < H.size → ¬ AX q → H1[q]? = H[q]?) → va_S A0 H0 H1 locs1 → H1[q9]? = some ce → ce.vm = .none → s.vm.findClass E = some ce.cls → vx_W p l e R s m args below meth c H1 locs1 (cells + mc) (slots + ms) Q (F0 m pc ls rest) q9)
    (kk : ∀ (r : UInt32) (u : S) (t : State) (H1 : Heap) (locs1 : List Loc), t.heap = H1 → s.vm.Alike t.vm → post r u → B u t → H.size ≤ H1.size → (∀ q : Nat, q < H.size → ¬ A1 q → H1[q]? = H[q]?) → va_S A0 H0 H1 locs1 → W p l e R s m args below meth c H1 locs1 (cells + mc) (slots + ms) Q (F0 m (pc + 3) ls (.float r :: rest))) : W p l e R s m args below meth c H locs cells slots Q (F0 m pc ls st0) := by
  intro T hT X
  rcases hr T hT X with ⟨v, st₀, t, T', L, h0, X', hL, e1, e2, ⟨⟨r, u, hv, hp, hb⟩, hF⟩, st⟩ | ⟨q, st₀, t, T', L, E, ce, h0, X', hL, e1, e2, ⟨u, hp, hb, hF⟩, hce, hcv, hcl, st⟩
  · cases hv
    obtain ⟨k1, k2, k3⟩ := vx_keep h0 e1 hS hA hf hL hF
    obtain ⟨t2, a1, b1⟩ := kk r u t T'.heap (locs ++ L) e1.symm (by rw [← e2]; exact X'.warmed.alike) hp hb k1 k2 k3 T' rfl X'
    exact ⟨t2, st t2 a1, b1⟩
  · obtain ⟨k1, k2, k3⟩ := vx_keep h0 e1 hS hAX hf hL hF
    obtain ⟨t2, a1, b1⟩ := kx E ce q u t T'.heap (locs ++ L) e1.symm (by rw [← e2]; exact X'.warmed.alike) hp hb k1 k2 k3 (by rw [e1]; exact hce) hcv hcl T' rfl X'
    exact ⟨t2, st.trans a1, b1⟩
theorem vx_calld {S SX : Type} {post : UInt64 → S → Prop} {px : SX → Prop} {B : S → State → Prop} {BX : String → SX → State → Prop} {AX : Nat → Prop} (hr : vx_Run p l e R s m args below meth c H locs cells slots mc ms (F0 m pc ls st0) rest (va_Qd post B A1 a) (vx_X px BX AX) free) (hS : va_S A0 H0 H locs) (hA : ∀ q, q < H.size → A1 q → A0 q) (hf : ∀ q, free q → A0 q) (hAX : ∀ q, q < H.size → AX q → A0 q)
    (kx : ∀ (E : String) (ce : Cell) (q9 : Addr) (u : SX) (t : State) (H1 : Heap) (locs1 : List Loc), t.heap = H1 → s.vm.Alike t.vm → px u → BX E u t → H.size ≤ H1.size → (∀ q : Nat, q < H.size → ¬ AX q → H1[q]? = H[q]?) → va_S A0 H0 H1 locs1 → H1[q9]? = some ce → ce.vm = .none → s.vm.findClass E = some ce.cls → vx_W p l e R s m args below meth c H1 locs1 (cells + mc) (slots + ms) Q (F0 m pc ls rest) q9)
    (kk : ∀ (r : UInt64) (u : S) (t : State) (H1 : Heap) (locs1 : List Loc), t.heap = H1 → s.vm.Alike t.vm → post r u → B u t → H.size ≤ H1.size → (∀ q : Nat, q < H.size → ¬ A1 q → H1[q]? = H[q]?) → va_S A0 H0 H1 locs1 → W p l e R s m args below meth c H1 locs1 (cells + mc) (slots + ms) Q (F0 m (pc + 3) ls (.double r :: rest))) : W p l e R s m args below meth c H locs cells slots Q (F0 m pc ls st0) := by
  intro T hT X
  rcases hr T hT X with ⟨v, st₀, t, T', L, h0, X', hL, e1, e2, ⟨⟨r, u, hv, hp, hb⟩, hF⟩, st⟩ | ⟨q, st₀, t, T', L, E, ce, h0, X', hL, e1, e2, ⟨u, hp, hb, hF⟩, hce, hcv, hcl, st⟩
  · cases hv
    obtain ⟨k1, k2, k3⟩ := vx_keep h0 e1 hS hA hf hL hF
    obtain ⟨t2, a1, b1⟩ := kk r u t T'.heap (locs ++ L) e1.symm (by rw [← e2]; exact X'.warmed.alike) hp hb k1 k2 k3 T' rfl X'
    exact ⟨t2, st t2 a1, b1⟩
  · obtain ⟨k1, k2, k3⟩ := vx_keep h0 e1 hS hAX hf hL hF
    obtain ⟨t2, a1, b1⟩ := kx E ce q u t T'.heap (locs ++ L) e1.symm (by rw [← e2]; exact X'.warmed.alike) hp hb k1 k2 k3 (by rw [e1]; exact hce) hcv hcl T' rfl X'
    exact ⟨t2, st.trans a1, b1⟩
theorem vx_callv {S SX : Type} {post : S → Prop} {px : SX → Prop} {B : S → State → Prop} {BX : String → SX → State → Prop} {AX : Nat → Prop} (hr : vx_Run p l e R s m args below meth c H locs cells slots mc ms (F0 m pc ls st0) rest (va_Qv post B A1 a) (vx_X px BX AX) free) (hS : va_S A0 H0 H locs) (hA : ∀ q, q < H.size → A1 q → A0 q) (hf : ∀ q, free q → A0 q) (hAX : ∀ q, q < H.size → AX q → A0 q)
    (kx : ∀ (E : String) (ce : Cell) (q9 : Addr) (u : SX) (t : State) (H1 : Heap) (locs1 : List Loc), t.heap = H1 → s.vm.Alike t.vm → px u → BX E u t → H.size ≤ H1.size → (∀ q : Nat, q < H.size → ¬ AX q → H1[q]? = H[q]?) → va_S A0 H0 H1 locs1 → H1[q9]? = some ce → ce.vm = .none → s.vm.findClass E = some ce.cls → vx_W p l e R s m args below meth c H1 locs1 (cells + mc) (slots + ms) Q (F0 m pc ls rest) q9)
    (kk : ∀ (u : S) (t : State) (H1 : Heap) (locs1 : List Loc), t.heap = H1 → s.vm.Alike t.vm → post u → B u t → H.size ≤ H1.size → (∀ q : Nat, q < H.size → ¬ A1 q → H1[q]? = H[q]?) → va_S A0 H0 H1 locs1 → W p l e R s m args below meth c H1 locs1 (cells + mc) (slots + ms) Q (F0 m (pc + 3) ls (rest))) : W p l e R s m args below meth c H locs cells slots Q (F0 m pc ls st0) := by
  intro T hT X
  rcases hr T hT X with ⟨v, st₀, t, T', L, h0, X', hL, e1, e2, ⟨⟨u, hv, hp, hb⟩, hF⟩, st⟩ | ⟨q, st₀, t, T', L, E, ce, h0, X', hL, e1, e2, ⟨u, hp, hb, hF⟩, hce, hcv, hcl, st⟩
  · cases hv
    obtain ⟨k1, k2, k3⟩ := vx_keep h0 e1 hS hA hf hL hF
    obtain ⟨t2, a1, b1⟩ := kk u t T'.heap (locs ++ L) e1.symm (by rw [← e2]; exact X'.warmed.alike) hp hb k1 k2 k3 T' rfl X'
    exact ⟨t2, st t2 a1, b1⟩
  · obtain ⟨k1, k2, k3⟩ := vx_keep h0 e1 hS hAX hf hL hF
    obtain ⟨t2, a1, b1⟩ := kx E ce q u t T'.heap (locs ++ L) e1.symm (by rw [← e2]; exact X'.warmed.alike) hp hb k1 k2 k3 (by rw [e1]; exact hce) hcv hcl T' rfl X'
    exact ⟨t2, st.trans a1, b1⟩
/-- caught by the row x of this method's table; the rows ahead don't take it -/
theorem vx_catch {own name : String} {E : String} {ce : Cell} {q : Addr} (hown : s.vm.findClass own = some m.cls) (pre : List ExceptionTableEntry) (x : ExceptionTableEntry) (suf : List ExceptionTableEntry) (hsplit : c.exceptionTable.toList = pre ++ x :: suf)
    (hpass : ∀ z ∈ pre, covers z pc = false ∨ (z.catchType ≠ 0 ∧ ∃ nm : String, (Cond.classLink own z.catchType nm).before args s = true ∧ va_Nc E nm s)) (hx : covers x pc = true) (h0 : x.catchType ≠ 0)
    (hlink : (Cond.classLink own x.catchType name).before args s = true) (hcast : (Cond.castable E name).before args s = true) (hcell : H[q]? = some ce) (hv : ce.vm = .none) (hcl : s.vm.findClass E = some ce.cls)
    (kk : W p l e R s m args below meth c H locs cells slots Q (F0 m x.handlerPc ls [.ref q])) : vx_W p l e R s m args below meth c H locs cells slots Q (F0 m pc ls rest) q := by
  intro T hT X
  have hpl : e.platform.magicAccessors = ({} : Platform).magicAccessors := by rw [X.admits.platform]
  obtain ⟨c3, c4, hc3, hc4, hasg⟩ := Cond.castable_spec hcast
  cases Option.some.inj (hc3.symm.trans hcl)
  obtain ⟨c5, hc5, hcl5⟩ := Cond.classLink_spec hown hlink e.platform hpl
  cases Option.some.inj (hc4.symm.trans hc5)
  obtain ⟨vm', X', st⟩ := X.thenCaughtThrough q (g := F0 m pc ls rest) rfl (Steps.refl _) (by rw [hT]; exact hcell) (by rw [hv]; rfl) (by obtain ⟨k9, h9, -⟩ := Vm.findClass_spec hcl; exact ⟨k9, h9⟩) pre x suf hsplit
    (fun z hz => by
      rcases hpass z hz with h | ⟨hz0, nm, hl1, hn1⟩
      · exact Or.inl h
      · obtain ⟨c6, hc6, hcl6⟩ := Cond.classLink_spec hown hl1 e.platform hpl
        obtain ⟨a8, b8, h1, h2, h3⟩ := hn1
        cases Option.some.inj (h1.symm.trans hcl)
        cases Option.some.inj (h2.symm.trans hc6)
        exact Or.inr ⟨hz0, _, hcl6, h3⟩) hx (Or.inr ⟨h0, c4, hcl5, hasg⟩)
  obtain ⟨t, a1, b1⟩ := kk (T.setVm vm') hT X'
  exact ⟨t, st.trans a1, b1⟩
end Rows
section Ends
variable {p : Program} {l : Launch} {e : Env} {R : Room} {s : State} {m : MethodId} {args : Array Value} {below : List Frame} {meth : Method} {c : Code} {H : Heap} {locs : List Loc} {cells slots : Nat} {Q : State → Prop}
variable {mc ms : Nat} {free : Addr → Prop} {A0 A1 : Nat → Prop} {H0 : Heap} {a : Array Value} {ls : Array Slot} {st0 rest : List Value}
variable {Qc : Array Value → State → Outcome → State → Prop} {XC : String → State → State → Prop}
/-- what a body that may throw owes at its end -/
def vx_MQ (below : List Frame) (Qc : Array Value → State → Outcome → State → Prop) (XC : String → State → State → Prop) (a : Array Value) (s : State) (mc ms : Nat) (free : Addr → Prop) : State → Prop := fun t =>
  ∃ o, t.status = .running ∧ Ended t below o ∧ vx_Q Qc XC mc ms free a s o t
theorem vx_ret {g : JFrame} {mc ms : Nat} (k : W p l e R s m args below meth c H locs cells slots (MQ below Qc args s mc ms free) g) : W p l e R s m args below meth c H locs cells slots (vx_MQ below Qc XC args s mc ms free) g := by
  intro T hT X
  obtain ⟨t, a1, o, b1, b2, b3, b4⟩ := k T hT X
  exact ⟨t, a1, o, b1, b2, Or.inl ⟨b3, b4⟩⟩
/-- not caught here: it goes on to the caller -/
theorem vx_widen {g : JFrame} {q : Addr} {k n : Nat} (h1 : cells ≤ k) (h2 : slots ≤ n) (kk : vx_W p l e R s m args below meth c H locs k n Q g q) : vx_W p l e R s m args below meth c H locs cells slots Q g q := fun T hT X => kk T hT (stand_widen X h1 h2)
theorem vx_out {pc : Nat} {E : String} {ce : Cell} {q : Addr} {mc ms : Nat} (hout : ∀ x ∈ c.exceptionTable.toList, covers x pc = false) (hlocks : meth.locks = false) (hcell : H[q]? = some ce) (hv : ce.vm = .none) (hcl : s.vm.findClass E = some ce.cls)
    (hx : ∀ t : State, t.heap = H → s.vm.Alike t.vm → XC E s t) (hf : ∀ z ∈ locs, free z.base) (hc : cells ≤ mc) (hs : slots ≤ ms) :
    vx_W p l e R s m args below meth c H locs cells slots (vx_MQ below Qc XC args s mc ms free) (F0 m pc ls rest) q := by
  intro T hT X
  obtain ⟨st1, hrun, hend, hW, hsm⟩ := X.leaveThrown q (g := F0 m pc ls rest) rfl rfl rfl hout hlocks
  have hcell9 : (T.setFrames (.throwing q :: below)).heap[q]? = some ce := by
    show T.heap[q]? = some ce
    rw [hT]; exact hcell
  exact ⟨_, st1, .threw q, hrun, hend, Or.inr ⟨q, rfl, E, ce, locs, hx _ hT hW.alike, hcell9, hv, hcl, hW, hsm.mono hc hs, hf⟩⟩
theorem vx_frame {U : State} {k n : Nat} (h : s.sameButNew ({ U with vm := s.vm } : State) locs k n) : s.heap.size ≤ U.heap.size ∧ ∀ q : Nat, q < s.heap.size → (∀ z ∈ locs, z.base ≠ q) → U.heap[q]? = s.heap[q]? := by
  obtain ⟨-, h2, -, -, -, h6⟩ := h
  refine ⟨h2, fun q hq hz => ?_⟩
  obtain ⟨c9, e1, e2, e3, e4⟩ := h6 q _ (Array.getElem?_eq_getElem hq)
  have hs : c9.slots = (s.heap[q]).slots := Array.ext_getElem? fun i => e4 i fun hm => hz _ hm rfl
  have h9 : c9 = s.heap[q] := by
    rw [hs] at e2
    exact e2
  have e5 : U.heap[q]? = some c9 := e1
  rw [e5, h9, Array.getElem?_eq_getElem hq]
/-- the words of a throw but the four that speak of the heap -/
def vx_no (w : Cond) : Bool := decide (w ≠ .isRef (.static Bundle.tN "UNASSIGNED_STACK" Bundle.steD)) && decide (w ≠ .isRef (.static Bundle.tN "SUPPRESSED_SENTINEL" Bundle.listD)) && decide (w ≠ .laysStatic Bundle.tN "UNASSIGNED_STACK" Bundle.steD) && decide (w ≠ .laysStatic Bundle.tN "SUPPRESSED_SENTINEL" Bundle.listD)
def vx_at0 (own : String) (ic : Nat) (X : String) (names : List String) : List Cond := (Bundle.ownAtoms0 own ic X names).filter vx_no
def vx_atS (own : String) (ic : Nat) (X : String) (names : List String) : List Cond := (Bundle.ownAtoms own ic X names).filter vx_no
/-- a word that the tables alone decide, or a good one -/
def vx_ot (w : Cond) : Bool := w.onTables || goodWord w
theorem vx_ot_at {args a' : Array Value} {s U : State} {w : Cond} (hW : s.WarmedH U.vm) (hvm : s.vm = U.vm) (hg : vx_ot w = true) (h : w.before args s = true) : w.before a' U = true := by
  simp only [vx_ot, Bool.or_eq_true] at hg
  rcases hg with hg | hg
  · exact va_tabs hg hvm h
  · exact word_at hW (good_of_word hg) h
/-- a list's words: the good ones out of the method's own list, the others by premises of their own -/
theorem vx_hat {args : Array Value} {s : State} {L B : List Cond} (h1 : ∀ w ∈ L.filter goodWord, w.before args s = true) (h2 : ∀ w ∈ L.filter (fun w => !goodWord w), w ∈ B) (h3 : ∀ w ∈ B, w.before args s = true) : ∀ w ∈ L, w.before args s = true := by
  intro w hw
  by_cases g : goodWord w = true
  · exact h1 w (List.mem_filter.mpr ⟨hw, g⟩)
  · refine h3 w (h2 w (List.mem_filter.mpr ⟨hw, ?_⟩))
    show (!goodWord w) = true
    cases hgw : goodWord w
    · rfl
    · exact absurd hgw g
theorem vx_c {args : Array Value} {s : State} {w : Cond} {B : List Cond} (h : w.before args s = true) (t : ∀ w ∈ B, w.before args s = true) : ∀ w' ∈ w :: B, w'.before args s = true := fun w' h' => (List.mem_cons.mp h').elim (fun e => by rw [e]; exact h) (t w')
theorem vx_n {args : Array Value} {s : State} : ∀ w ∈ ([] : List Cond), w.before args s = true := fun _ h => nomatch h
theorem vx_own {args : Array Value} {s : State} {L : List Cond} (h1 : ∀ w ∈ L.filter vx_no, w.before args s = true)
    (hU : (Cond.isRef (.static Bundle.tN "UNASSIGNED_STACK" Bundle.steD)).before args s = true) (hN : (Cond.isRef (.static Bundle.tN "SUPPRESSED_SENTINEL" Bundle.listD)).before args s = true)
    (lU : (Cond.laysStatic Bundle.tN "UNASSIGNED_STACK" Bundle.steD).before args s = true) (lN : (Cond.laysStatic Bundle.tN "SUPPRESSED_SENTINEL" Bundle.listD).before args s = true) : ∀ w ∈ L, w.before args s = true := by
  intro w hw
  by_cases e1 : w = .isRef (.static Bundle.tN "UNASSIGNED_STACK" Bundle.steD)
  · rw [e1]; exact hU
  · by_cases e2 : w = .isRef (.static Bundle.tN "SUPPRESSED_SENTINEL" Bundle.listD)
    · rw [e2]; exact hN
    · by_cases e3 : w = .laysStatic Bundle.tN "UNASSIGNED_STACK" Bundle.steD
      · rw [e3]; exact lU
      · by_cases e4 : w = .laysStatic Bundle.tN "SUPPRESSED_SENTINEL" Bundle.listD
        · rw [e4]; exact lN
        · exact h1 w (List.mem_filter.mpr ⟨hw, by unfold vx_no; rw [decide_eq_true e1, decide_eq_true e2, decide_eq_true e3, decide_eq_true e4]; rfl⟩)
/-- where a static field lies, its class's statics cell in H -/
def vx_L (C n d : String) (A : Nat → Prop) (U : State) (H : Heap) : Prop := ∃ (c : ClassId) (k : Class) (i : Nat) (f : Field) (a : Nat) (cell : Cell), U.vm.findClass C = some c ∧ U.fieldFound? C n d = some (c, k, i, f) ∧ f.isStatic = true ∧ k.statics = some a ∧ H[a]? = some cell ∧ cell.vm.isStatics = true ∧ cell.cls = c ∧ f.slot < cell.slots.size ∧ k.staticTypes[f.slot]? = some f.type ∧ ¬ A a
theorem vx_L.moved {C n d : String} {A : Nat → Prop} {u U : State} {H : Heap} (hvm : u.vm.Alike U.vm) (h : vx_L C n d A u H) : vx_L C n d A U H := by
  obtain ⟨c, k, i, f, a, cell, h1, h2, h3, h4, h5, h6, h7, h8, h9, h10⟩ := h
  obtain ⟨k', hi', he⟩ := State.fieldFound?_setVm hvm h2
  exact ⟨c, k', i, f, a, cell, by rw [hvm.findClass]; exact h1, hi', h3, by rw [he]; exact h4, h5, h6, h7, h8, by rw [he]; exact h9, h10⟩
theorem vx_L.kept {C n d : String} {A : Nat → Prop} {U : State} {H H1 : Heap} (h : vx_L C n d A U H) (hq : ∀ a : Nat, a < H.size → ¬ A a → H1[a]? = H[a]?) : vx_L C n d A U H1 := by
  obtain ⟨c, k, i, f, a, cell, h1, h2, h3, h4, h5, h6, h7, h8, h9, h10⟩ := h
  exact ⟨c, k, i, f, a, cell, h1, h2, h3, h4, by rw [hq a (Array.getElem?_eq_some_iff.mp h5).1 h10]; exact h5, h6, h7, h8, h9, h10⟩
theorem vx_L.narrow {C n d : String} {A B : Nat → Prop} {U : State} {H : Heap} (h : vx_L C n d A U H) (hAB : ∀ q, B q → A q) : vx_L C n d B U H := by
  obtain ⟨c, k, i, f, a, cell, h1, h2, h3, h4, h5, h6, h7, h8, h9, h10⟩ := h
  exact ⟨c, k, i, f, a, cell, h1, h2, h3, h4, h5, h6, h7, h8, h9, fun z => h10 (hAB _ z)⟩
theorem vx_L.word {C n d : String} {A : Nat → Prop} {s : State} {args : Array Value} (h : vx_L C n d A s s.heap) : (Cond.laysStatic C n d).before args s = true := by
  obtain ⟨c, k, i, f, a, cell, h1, h2, h3, h4, h5, h6, h7, h8, h9, -⟩ := h
  show (Cond.laysStatic C n d).holds args s none s [] = true
  exact Cond.laysStatic_of h1 h2 h3 h4 h5 h6 h7 h8 h9
/-- .. and what it holds: null or some reference -/
def vx_Zq (C n d : String) (A : Nat → Prop) (U : State) (H : Heap) : Prop := va_Zq C n d A U H ∧ vx_L C n d A U H
theorem vx_Zq.moved {C n d : String} {A : Nat → Prop} {u U : State} {H : Heap} (hvm : u.vm.Alike U.vm) (h : vx_Zq C n d A u H) : vx_Zq C n d A U H := ⟨va_Zq.moved hvm h.1, vx_L.moved hvm h.2⟩
theorem vx_Zq.kept {C n d : String} {A : Nat → Prop} {U : State} {H H1 : Heap} (h : vx_Zq C n d A U H) (hq : ∀ a : Nat, a < H.size → ¬ A a → H1[a]? = H[a]?) : vx_Zq C n d A U H1 := ⟨va_Zq.kept h.1 hq, vx_L.kept h.2 hq⟩
theorem vx_Zq.narrow {C n d : String} {A B : Nat → Prop} {U : State} {H : Heap} (h : vx_Zq C n d A U H) (hAB : ∀ q, B q → A q) : vx_Zq C n d B U H := ⟨va_Zq.narrow h.1 hAB, vx_L.narrow h.2 hAB⟩
theorem vx_Zqof {args : Array Value} {s : State} {C n d : String} {A : Nat → Prop} (hl : (Cond.laysStatic C n d).before args s = true) (hini : (Cond.initialized C).before args s = true) (h : (Cond.isRef (.static C n d)).before args s = true) (hA : ∀ a : Nat, a < s.heap.size → ¬ A a) : vx_Zq C n d A s s.heap := by
  refine ⟨va_Zqof hl hini h hA, ?_⟩
  obtain ⟨c, k, i, f, a, cell, h1, h2, h3, h4, h5, h6, h7, h8, h9⟩ := Cond.laysStatic_spec hl
  exact ⟨c, k, i, f, a, cell, h1, h2, h3, h4, h5, h6, h7, h8, h9, hA a (Array.getElem?_eq_some_iff.mp h5).1⟩
theorem vx_isRef {C n d : String} {v : Value} {A : Nat → Prop} {s : State} {args : Array Value} (h : va_Z C n d v A s s.heap) (hv : v.isRef = true) : (Cond.isRef (.static C n d)).before args s = true := by
  obtain ⟨cf, kf, fi, f, a, cell, h1, h2, h3, h4, h5, h6, h7, -⟩ := h
  have he : (Term.static C n d).eval args s none [] s = some v := by
    simp [Term.eval, State.fieldNamed?, h1, h2, h4, h5, h6, h7]
  simp only [Cond.before, Cond.holds, Cond.value, he]
  cases v <;> simp_all [Value.isRef]
theorem vx_isRefq {C n d : String} {A : Nat → Prop} {s : State} {args : Array Value} (h : va_Zq C n d A s s.heap) : (Cond.isRef (.static C n d)).before args s = true := by
  rcases h with h | ⟨t, h⟩
  · exact vx_isRef h rfl
  · exact vx_isRef h rfl
/-- the same frame, seen from here: as if the method were called anew in this heap -/
theorem vx_rebase {T : State} (X : Stand p l e R s m args below meth c T locs cells slots) {R' : Room} (hf : R'.frames ≤ R.frames) (hl : R'.locals ≤ R.locals) (hc : cells + R'.cells ≤ R.cells) (hs : slots + R'.slots ≤ R.slots) :
    Stand p l e R' ((T.setVm s.vm).setFrames (.invoking m args :: below)) m args below meth c T [] 0 0 := by
  have htop : (T.setVm s.vm).topJava?.isSome := X.here.top
  have hF : ((T.setVm s.vm).setFrames (.invoking m args :: below)).frames = .invoking m args :: below := State.frames_setFrames _ (State.cur_lt_of_top htop)
  obtain ⟨g₀, hg0⟩ := Option.isSome_iff_exists.mp htop
  obtain ⟨r, hr⟩ := State.topJava?_eq_some.mp hg0
  have hl9 : e.platform.stackLimits (T.setVm s.vm).me = e.platform.stackLimits s.me := X.limits
  have hb9 : (T.setVm s.vm).me.stackBytes = s.me.stackBytes := X.bytes
  refine ⟨X.admits, X.cas, X.clock, hF, ?_, X.hears, X.method, X.code, X.here, X.tail, X.warmed, ?_, ?_, ?_⟩
  · have h := X.room
    have hU : ((T.setVm s.vm).setFrames (.invoking m args :: below)).localsInUse = s.localsInUse := by
      rw [State.localsInUse_invoking hF (meth := meth) (c := c) X.method X.code, State.localsInUse_invoking X.frames X.method X.code]
    simp only [State.hasRoom, Bool.and_eq_true, decide_eq_true_eq] at h ⊢
    obtain ⟨⟨⟨⟨h1, h2, h3, h4, h5, h6⟩, h7⟩, h8⟩, h9⟩ := h
    rw [X.frames, List.length_cons] at h2 h3
    have q1 := X.heapSize
    have q2 := X.used
    simp only [hF, hU, List.length_cons, State.stackLimits_setFrames, State.stackBytes_setFrames, hl9, hb9]
    refine ⟨⟨⟨⟨by omega, by omega, by omega, by omega, by omega, h6⟩, ?_⟩, ?_⟩, X.book⟩
    · show T.heap.size + R'.cells ≤ e.platform.maxCells
      omega
    · show T.slotsUsed + R'.slots ≤ e.platform.maxSlots
      omega
  · rw [State.stackLimits_setFrames]; rfl
  · rw [State.stackBytes_setFrames]; rfl
  · refine ⟨?_, Nat.le_refl _, Nat.le_refl _, ?_, ?_, fun a c9 h9 => ⟨c9, h9, rfl, rfl, fun _ _ => rfl⟩⟩
    · obtain ⟨t, ht, -⟩ := State.frames_cons hr
      show T.setVm s.vm = { ((T.setVm s.vm).setFrames (.invoking m args :: below)).setFrames (T.setVm s.vm).frames with heap := T.heap, slotsUsed := T.slotsUsed }
      rw [State.setFrames_setFrames, State.setFrames_self ht]
      rfl
    · show T.slotsUsed = T.slotsUsed + ((T.heap.toList.drop T.heap.size).map (·.slots.size)).sum
      rw [List.drop_eq_nil_of_le (Nat.le_of_eq Array.length_toList)]
      rfl
    · show ((T.heap.toList.drop T.heap.size).map (·.slots.size)).sum ≤ 0
      rw [List.drop_eq_nil_of_le (Nat.le_of_eq Array.length_toList)]
      exact Nat.le_refl _
/-- 'throw new E()': new; dup; invokespecial; athrow -/
theorem vx_throw0 {cc : ByteArray} {pc : Nat} (hexec : p.tables.exec = Jvm.exec) (hb : c.code = cc) (hl : l.stackTraces = false) {own cls : String} {names : List String} {ik ic mc ms : Nat} {A : Nat → Prop}
    (hown : s.vm.findClass own = some m.cls) (hcls : Bundle.fit cls = true) (hnames : ∀ n ∈ names, Bundle.fit n = true)
    (hk : (Cond.classLink own ik cls).before args s = true) (hini : (Cond.initialized cls).before args s = true) (hat : ∀ w ∈ vx_at0 own ic cls names, w.before args s = true)
    (hgood : ∀ w ∈ Cond.classLink own ik cls :: Cond.initialized cls :: vx_at0 own ic cls names, vx_ot w = true)
    (hU : vx_Zq Bundle.tN "UNASSIGNED_STACK" Bundle.steD A s s.heap) (hN : vx_Zq Bundle.tN "SUPPRESSED_SENTINEL" Bundle.listD A s s.heap) (hS : va_S A s.heap H locs) (hsize : ls.size = c.maxLocals)
    (d0 : decode cc pc = .ok (.new ik, 3)) (d3 : decode cc (pc + 3) = .ok (.dup, 1)) (d4 : decode cc (pc + 4) = .ok (.invokespecial ic, 3)) (d7 : decode cc (pc + 7) = .ok (.athrow, 1))
    (hout : ∀ x ∈ c.exceptionTable.toList, covers x (pc + 7) = false)
    (hRframes : names.length + 3 < R.frames) (hRlocals : (rest.map fun v => v.category).sum + (13 * (names.length + 1) + 42) ≤ R.locals) (hRcells : cells + 1 ≤ R.cells) (hRslots : slots + 6 ≤ R.slots) (hlocks : meth.locks = false)
    (hx : ∀ t : State, s.vm.Alike t.vm → H.size ≤ t.heap.size → (∀ q : Nat, q < H.size → t.heap[q]? = H[q]?) → XC cls s t)
    (hf : ∀ z ∈ locs, free z.base) (hc : cells + 1 ≤ mc) (hs : slots + 6 ≤ ms) :
    W p l e R s m args below meth c H locs cells slots (vx_MQ below Qc XC args s mc ms free) (F0 m pc ls rest) := by
  intro T hT X
  have htr : e.platform.stackTraces = false := (show e.platform.stackTraces = l.stackTraces by rw [X.admits.platform]).trans hl
  have Y := vx_rebase X (R' := { frames := R.frames, locals := R.locals, cells := 1, slots := 6 }) (Nat.le_refl _) (Nat.le_refl _) hRcells hRslots
  obtain ⟨s', hA⟩ : ∃ z, z = (T.setVm s.vm).setFrames (.invoking m args :: below) := ⟨_, rfl⟩
  rw [← hA] at Y
  have hvm : s'.vm = s.vm := by rw [hA]; rfl
  have hhp : s'.heap = H := by rw [hA]; exact hT
  have hW0 : s.WarmedH s'.vm := by rw [hvm]; exact State.WarmedH.refl s
  have hat' : ∀ w ∈ vx_at0 own ic cls names, w.before args s' = true := fun w hw => vx_ot_at hW0 hvm.symm (hgood w (List.mem_cons_of_mem _ (List.mem_cons_of_mem _ hw))) (hat w hw)
  have hk' : (Cond.classLink own ik cls).before args s' = true := vx_ot_at hW0 hvm.symm (hgood _ List.mem_cons_self) hk
  have hini' : (Cond.initialized cls).before args s' = true := vx_ot_at hW0 hvm.symm (hgood _ (List.mem_cons_of_mem _ List.mem_cons_self)) hini
  have hU' : vx_Zq Bundle.tN "UNASSIGNED_STACK" Bundle.steD A s' s'.heap := by rw [hhp]; exact vx_Zq.moved hW0.alike (hU.kept hS.2.1)
  have hN' : vx_Zq Bundle.tN "SUPPRESSED_SENTINEL" Bundle.listD A s' s'.heap := by rw [hhp]; exact vx_Zq.moved hW0.alike (hN.kept hS.2.1)
  have h : ∀ w ∈ Bundle.ownAtoms0 own ic cls names, w.before args s' = true := vx_own hat' (vx_isRefq hU'.1) (vx_isRefq hN'.1) hU'.2.word hN'.2.word
  have hown' : s'.vm.findClass own = some m.cls := by rw [hvm]; exact hown
  have hins : (Cond.instantiable cls 6).before args s' = true := h _ (by simp [Bundle.ownAtoms0])
  obtain ⟨vm₁, cX, kX, hfX, hkX, -, -, X₁, st1⟩ := Y.newCold hexec (own := own) (C := cls) (index := ik) (n := 6) hown' hk' hins hini'
    (g := F0 m pc ls rest) rfl (by rw [hb]; exact d0) (Nat.le_refl _) (Nat.le_refl _)
  generalize hT1 : (T.setVm vm₁).pushCell { cls := cX, slots := kX.instanceTypes.map defaultValue, vm := .none } = T1 at X₁ st1
  have hcat : (Value.ref T.heap.size).category = 1 := rfl
  have hcellA : T1.heap[T.heap.size]? = some (freshCell cX kX) := by rw [← hT1]; exact State.heap_pushCell_size _ _
  have d3' : decode c.code (pc + 3) = .ok (.dup, 1) := by rw [hb]; exact d3
  obtain ⟨U, hsteps, hrun, hend, hW, hsame, ce, hce, hO⟩ := X₁.ctorThrow0 hexec htr (own := own) (cls := cls) (names := names) (ic := ic) hown' hcls hnames h (fun x hx => nomatch hx) hfX hkX hcellA (by rw [hhp, hT]; exact Nat.le_refl _)
    (g := { method := m, pc := pc + 4, locals := ls, stack := .ref T.heap.size :: .ref T.heap.size :: rest, locked := none }) rfl hsize rfl rfl (rest := rest) rfl
    (by rw [hb]; exact d4) (by rw [hb]; exact d7) hout hRframes (by simp only [List.map_cons, List.sum_cons, hcat]; omega) hlocks
  obtain ⟨f1, f2⟩ := vx_frame hsame
  rw [hhp] at f1 f2
  have hWs : s.WarmedH U.vm := State.WarmedH.trans hW0 hW
  have hcl : s.vm.findClass cls = some ce.cls := by
    have h9 := hO.cls
    rw [hvm] at h9
    exact h9
  have hall : s.sameButNew ({ U with vm := s.vm } : State) locs mc ms := by
    subst hA
    obtain ⟨e1, e2⟩ := hsame
    rw [State.setFrames_setFrames] at e1
    have h2 : (T.setVm s.vm).sameButNew ({ U with vm := s.vm } : State) [] (0 + 1) (0 + 6) := ⟨e1, e2⟩
    have h3 := X.same.trans h2
    rw [List.append_nil] at h3
    exact h3.mono hc hs
  refine ⟨U, ?_, .threw T.heap.size, hrun, hend, Or.inr ⟨T.heap.size, rfl, cls, ce, locs, hx U hWs.alike f1 (fun q hq => f2 q hq (fun z hz => nomatch hz)), hce, hO.vm, hcl, hWs, hall, hf⟩⟩
  refine st1 _ ?_
  show Steps p.tables e below (T1.setTop { method := m, pc := pc + 3, locals := ls, stack := .ref T.heap.size :: rest, locked := none }) _
  jvm_step X₁.here [X₁.here.top, hexec, d3', Value.category]
  exact hsteps
/-- 'throw new E("text")': new; dup; ldc; invokespecial; athrow -/
theorem vx_throwS {cc : ByteArray} {pc : Nat} (hexec : p.tables.exec = Jvm.exec) (hb : c.code = cc) (hl : l.stackTraces = false) {own cls text : String} {names : List String} {ik is ic mc ms sa : Nat} {A : Nat → Prop}
    (hown : s.vm.findClass own = some m.cls) (hcls : Bundle.fit cls = true) (hnames : ∀ n ∈ names, Bundle.fit n = true)
    (hk : (Cond.classLink own ik cls).before args s = true) (hini : (Cond.initialized cls).before args s = true) (hstr : vk_R own is text sa s) (hat : ∀ w ∈ vx_atS own ic cls names, w.before args s = true)
    (hgood : ∀ w ∈ Cond.classLink own ik cls :: Cond.initialized cls :: vx_atS own ic cls names, vx_ot w = true)
    (hU : vx_Zq Bundle.tN "UNASSIGNED_STACK" Bundle.steD A s s.heap) (hN : vx_Zq Bundle.tN "SUPPRESSED_SENTINEL" Bundle.listD A s s.heap) (hS : va_S A s.heap H locs) (hsize : ls.size = c.maxLocals)
    (d0 : decode cc pc = .ok (.new ik, 3)) (d3 : decode cc (pc + 3) = .ok (.dup, 1)) (d4 : decode cc (pc + 4) = .ok (.ldc is, 2)) (d6 : decode cc (pc + 6) = .ok (.invokespecial ic, 3)) (d9 : decode cc (pc + 9) = .ok (.athrow, 1))
    (hout : ∀ x ∈ c.exceptionTable.toList, covers x (pc + 9) = false)
    (hRframes : names.length + 3 < R.frames) (hRlocals : (rest.map fun v => v.category).sum + (13 * (names.length + 1) + 43) ≤ R.locals) (hRcells : cells + 1 ≤ R.cells) (hRslots : slots + 6 ≤ R.slots) (hlocks : meth.locks = false)
    (hx : ∀ t : State, s.vm.Alike t.vm → H.size ≤ t.heap.size → (∀ q : Nat, q < H.size → t.heap[q]? = H[q]?) → XC cls s t)
    (hf : ∀ z ∈ locs, free z.base) (hc : cells + 1 ≤ mc) (hs : slots + 6 ≤ ms) :
    W p l e R s m args below meth c H locs cells slots (vx_MQ below Qc XC args s mc ms free) (F0 m pc ls rest) := by
  intro T hT X
  have htr : e.platform.stackTraces = false := (show e.platform.stackTraces = l.stackTraces by rw [X.admits.platform]).trans hl
  have Y := vx_rebase X (R' := { frames := R.frames, locals := R.locals, cells := 1, slots := 6 }) (Nat.le_refl _) (Nat.le_refl _) hRcells hRslots
  obtain ⟨s', hA⟩ : ∃ z, z = (T.setVm s.vm).setFrames (.invoking m args :: below) := ⟨_, rfl⟩
  rw [← hA] at Y
  have hvm : s'.vm = s.vm := by rw [hA]; rfl
  have hhp : s'.heap = H := by rw [hA]; exact hT
  have hW0 : s.WarmedH s'.vm := by rw [hvm]; exact State.WarmedH.refl s
  have hat' : ∀ w ∈ vx_atS own ic cls names, w.before args s' = true := fun w hw => vx_ot_at hW0 hvm.symm (hgood w (List.mem_cons_of_mem _ (List.mem_cons_of_mem _ hw))) (hat w hw)
  have hk' : (Cond.classLink own ik cls).before args s' = true := vx_ot_at hW0 hvm.symm (hgood _ List.mem_cons_self) hk
  have hini' : (Cond.initialized cls).before args s' = true := vx_ot_at hW0 hvm.symm (hgood _ (List.mem_cons_of_mem _ List.mem_cons_self)) hini
  have hU' : vx_Zq Bundle.tN "UNASSIGNED_STACK" Bundle.steD A s' s'.heap := by rw [hhp]; exact vx_Zq.moved hW0.alike (hU.kept hS.2.1)
  have hN' : vx_Zq Bundle.tN "SUPPRESSED_SENTINEL" Bundle.listD A s' s'.heap := by rw [hhp]; exact vx_Zq.moved hW0.alike (hN.kept hS.2.1)
  have h : ∀ w ∈ Bundle.ownAtoms own ic cls names, w.before args s' = true := vx_own hat' (vx_isRefq hU'.1) (vx_isRefq hN'.1) hU'.2.word hN'.2.word
  have hown' : s'.vm.findClass own = some m.cls := by rw [hvm]; exact hown
  have hins : (Cond.instantiable cls 6).before args s' = true := h _ (by simp [Bundle.ownAtoms])
  obtain ⟨vm₁, cX, kX, hfX, hkX, -, -, X₁, st1⟩ := Y.newCold hexec (own := own) (C := cls) (index := ik) (n := 6) hown' hk' hins hini'
    (g := F0 m pc ls rest) rfl (by rw [hb]; exact d0) (Nat.le_refl _) (Nat.le_refl _)
  generalize hT1 : (T.setVm vm₁).pushCell { cls := cX, slots := kX.instanceTypes.map defaultValue, vm := .none } = T1 at X₁ st1
  have hcat : (Value.ref T.heap.size).category = 1 := rfl
  have hcellA : T1.heap[T.heap.size]? = some (freshCell cX kX) := by rw [← hT1]; exact State.heap_pushCell_size _ _
  have d3' : decode c.code (pc + 3) = .ok (.dup, 1) := by rw [hb]; exact d3
  have d4' : decode c.code (pc + 4) = .ok (.ldc is, 2) := by rw [hb]; exact d4
  have hstr' : vk_R own is text sa s' := vk_R.warm hW0 hstr
  obtain ⟨U, hsteps, hrun, hend, hW, hsame, ce, hce, hO⟩ := X₁.ctorThrowS hexec htr (own := own) (cls := cls) (names := names) (ic := ic) hown' hcls hnames h (fun x hx => nomatch hx) hfX hkX hcellA (by rw [hhp, hT]; exact Nat.le_refl _) (msg := .ref sa) rfl
    (g := { method := m, pc := pc + 6, locals := ls, stack := .ref sa :: .ref T.heap.size :: .ref T.heap.size :: rest, locked := none }) rfl hsize rfl rfl (rest := rest) rfl
    (by rw [hb]; exact d6) (by rw [hb]; exact d9) hout hRframes (by simp only [List.map_cons, List.sum_cons, hcat]; omega) hlocks
  obtain ⟨f1, f2⟩ := vx_frame hsame
  rw [hhp] at f1 f2
  have hWs : s.WarmedH U.vm := State.WarmedH.trans hW0 hW
  have hcl : s.vm.findClass cls = some ce.cls := by
    have h9 := hO.cls
    rw [hvm] at h9
    exact h9
  have hall : s.sameButNew ({ U with vm := s.vm } : State) locs mc ms := by
    subst hA
    obtain ⟨e1, e2⟩ := hsame
    rw [State.setFrames_setFrames] at e1
    have h2 : (T.setVm s.vm).sameButNew ({ U with vm := s.vm } : State) [] (0 + 1) (0 + 6) := ⟨e1, e2⟩
    have h3 := X.same.trans h2
    rw [List.append_nil] at h3
    exact h3.mono hc hs
  refine ⟨U, ?_, .threw T.heap.size, hrun, hend, Or.inr ⟨T.heap.size, rfl, cls, ce, locs, hx U hWs.alike f1 (fun q hq => f2 q hq (fun z hz => nomatch hz)), hce, hO.vm, hcl, hWs, hall, hf⟩⟩
  refine st1 _ ?_
  show Steps p.tables e below (T1.setTop { method := m, pc := pc + 3, locals := ls, stack := .ref T.heap.size :: rest, locked := none }) _
  jvm_step X₁.here [X₁.here.top, hexec, d3', Value.category]
  exact X₁.ldcString hexec (own := own) (text := text) (index := is) (a := sa) hown' hstr'.1 hstr'.2
    (g := { method := m, pc := pc + 4, locals := ls, stack := .ref T.heap.size :: .ref T.heap.size :: rest, locked := none }) rfl d4' _ hsteps
/-- 'throw new E("text")', the text by a wide index -/
theorem vx_throwSW {cc : ByteArray} {pc : Nat} (hexec : p.tables.exec = Jvm.exec) (hb : c.code = cc) (hl : l.stackTraces = false) {own cls text : String} {names : List String} {ik is ic mc ms sa : Nat} {A : Nat → Prop}
    (hown : s.vm.findClass own = some m.cls) (hcls : Bundle.fit cls = true) (hnames : ∀ n ∈ names, Bundle.fit n = true)
    (hk : (Cond.classLink own ik cls).before args s = true) (hini : (Cond.initialized cls).before args s = true) (hstr : vk_R own is text sa s) (hat : ∀ w ∈ vx_atS own ic cls names, w.before args s = true)
    (hgood : ∀ w ∈ Cond.classLink own ik cls :: Cond.initialized cls :: vx_atS own ic cls names, vx_ot w = true)
    (hU : vx_Zq Bundle.tN "UNASSIGNED_STACK" Bundle.steD A s s.heap) (hN : vx_Zq Bundle.tN "SUPPRESSED_SENTINEL" Bundle.listD A s s.heap) (hS : va_S A s.heap H locs) (hsize : ls.size = c.maxLocals)
    (d0 : decode cc pc = .ok (.new ik, 3)) (d3 : decode cc (pc + 3) = .ok (.dup, 1)) (d4 : decode cc (pc + 4) = .ok (.ldc_w is, 3)) (d7 : decode cc (pc + 7) = .ok (.invokespecial ic, 3)) (d10 : decode cc (pc + 10) = .ok (.athrow, 1))
    (hout : ∀ x ∈ c.exceptionTable.toList, covers x (pc + 10) = false)
    (hRframes : names.length + 3 < R.frames) (hRlocals : (rest.map fun v => v.category).sum + (13 * (names.length + 1) + 43) ≤ R.locals) (hRcells : cells + 1 ≤ R.cells) (hRslots : slots + 6 ≤ R.slots) (hlocks : meth.locks = false)
    (hx : ∀ t : State, s.vm.Alike t.vm → H.size ≤ t.heap.size → (∀ q : Nat, q < H.size → t.heap[q]? = H[q]?) → XC cls s t)
    (hf : ∀ z ∈ locs, free z.base) (hc : cells + 1 ≤ mc) (hs : slots + 6 ≤ ms) :
    W p l e R s m args below meth c H locs cells slots (vx_MQ below Qc XC args s mc ms free) (F0 m pc ls rest) := by
  intro T hT X
  have htr : e.platform.stackTraces = false := (show e.platform.stackTraces = l.stackTraces by rw [X.admits.platform]).trans hl
  have Y := vx_rebase X (R' := { frames := R.frames, locals := R.locals, cells := 1, slots := 6 }) (Nat.le_refl _) (Nat.le_refl _) hRcells hRslots
  obtain ⟨s', hA⟩ : ∃ z, z = (T.setVm s.vm).setFrames (.invoking m args :: below) := ⟨_, rfl⟩
  rw [← hA] at Y
  have hvm : s'.vm = s.vm := by rw [hA]; rfl
  have hhp : s'.heap = H := by rw [hA]; exact hT
  have hW0 : s.WarmedH s'.vm := by rw [hvm]; exact State.WarmedH.refl s
  have hat' : ∀ w ∈ vx_atS own ic cls names, w.before args s' = true := fun w hw => vx_ot_at hW0 hvm.symm (hgood w (List.mem_cons_of_mem _ (List.mem_cons_of_mem _ hw))) (hat w hw)
  have hk' : (Cond.classLink own ik cls).before args s' = true := vx_ot_at hW0 hvm.symm (hgood _ List.mem_cons_self) hk
  have hini' : (Cond.initialized cls).before args s' = true := vx_ot_at hW0 hvm.symm (hgood _ (List.mem_cons_of_mem _ List.mem_cons_self)) hini
  have hU' : vx_Zq Bundle.tN "UNASSIGNED_STACK" Bundle.steD A s' s'.heap := by rw [hhp]; exact vx_Zq.moved hW0.alike (hU.kept hS.2.1)
  have hN' : vx_Zq Bundle.tN "SUPPRESSED_SENTINEL" Bundle.listD A s' s'.heap := by rw [hhp]; exact vx_Zq.moved hW0.alike (hN.kept hS.2.1)
  have h : ∀ w ∈ Bundle.ownAtoms own ic cls names, w.before args s' = true := vx_own hat' (vx_isRefq hU'.1) (vx_isRefq hN'.1) hU'.2.word hN'.2.word
  have hown' : s'.vm.findClass own = some m.cls := by rw [hvm]; exact hown
  have hins : (Cond.instantiable cls 6).before args s' = true := h _ (by simp [Bundle.ownAtoms])
  obtain ⟨vm₁, cX, kX, hfX, hkX, -, -, X₁, st1⟩ := Y.newCold hexec (own := own) (C := cls) (index := ik) (n := 6) hown' hk' hins hini'
    (g := F0 m pc ls rest) rfl (by rw [hb]; exact d0) (Nat.le_refl _) (Nat.le_refl _)
  generalize hT1 : (T.setVm vm₁).pushCell { cls := cX, slots := kX.instanceTypes.map defaultValue, vm := .none } = T1 at X₁ st1
  have hcat : (Value.ref T.heap.size).category = 1 := rfl
  have hcellA : T1.heap[T.heap.size]? = some (freshCell cX kX) := by rw [← hT1]; exact State.heap_pushCell_size _ _
  have d3' : decode c.code (pc + 3) = .ok (.dup, 1) := by rw [hb]; exact d3
  have d4' : decode c.code (pc + 4) = .ok (.ldc_w is, 3) := by rw [hb]; exact d4
  have hstr' : vk_R own is text sa s' := vk_R.warm hW0 hstr
  obtain ⟨U, hsteps, hrun, hend, hW, hsame, ce, hce, hO⟩ := X₁.ctorThrowS hexec htr (own := own) (cls := cls) (names := names) (ic := ic) hown' hcls hnames h (fun x hx => nomatch hx) hfX hkX hcellA (by rw [hhp, hT]; exact Nat.le_refl _) (msg := .ref sa) rfl
    (g := { method := m, pc := pc + 7, locals := ls, stack := .ref sa :: .ref T.heap.size :: .ref T.heap.size :: rest, locked := none }) rfl hsize rfl rfl (rest := rest) rfl
    (by rw [hb]; exact d7) (by rw [hb]; exact d10) hout hRframes (by simp only [List.map_cons, List.sum_cons, hcat]; omega) hlocks
  obtain ⟨f1, f2⟩ := vx_frame hsame
  rw [hhp] at f1 f2
  have hWs : s.WarmedH U.vm := State.WarmedH.trans hW0 hW
  have hcl : s.vm.findClass cls = some ce.cls := by
    have h9 := hO.cls
    rw [hvm] at h9
    exact h9
  have hall : s.sameButNew ({ U with vm := s.vm } : State) locs mc ms := by
    subst hA
    obtain ⟨e1, e2⟩ := hsame
    rw [State.setFrames_setFrames] at e1
    have h2 : (T.setVm s.vm).sameButNew ({ U with vm := s.vm } : State) [] (0 + 1) (0 + 6) := ⟨e1, e2⟩
    have h3 := X.same.trans h2
    rw [List.append_nil] at h3
    exact h3.mono hc hs
  refine ⟨U, ?_, .threw T.heap.size, hrun, hend, Or.inr ⟨T.heap.size, rfl, cls, ce, locs, hx U hWs.alike f1 (fun q hq => f2 q hq (fun z hz => nomatch hz)), hce, hO.vm, hcl, hWs, hall, hf⟩⟩
  refine st1 _ ?_
  show Steps p.tables e below (T1.setTop { method := m, pc := pc + 3, locals := ls, stack := .ref T.heap.size :: rest, locked := none }) _
  jvm_step X₁.here [X₁.here.top, hexec, d3', Value.category]
  exact X₁.ldcStringW hexec (own := own) (text := text) (index := is) (a := sa) hown' hstr'.1 hstr'.2
    (g := { method := m, pc := pc + 4, locals := ls, stack := .ref T.heap.size :: .ref T.heap.size :: rest, locked := none }) rfl d4' _ hsteps
end Ends
section Bodies
variable {l : Launch}
theorem vx_ofW {y : MethodName} {ws ws' : List Cond} {rm : Room} {Pc : Array Value → State → Prop} {Qc : Array Value → State → Outcome → State → Prop} {XC : String → State → State → Prop} {mc ms : Nat} {free : Addr → Prop} {cc : ByteArray} {maxL : Nat} {ret : Option FieldType}
    (hy : plainName y.cls = true) (hw : ws = Cond.code y cc maxL ret :: ws')
    (body : ∀ p e s m args below meth c s₁, BodyLoose p l y (headSpec ws rm) cc maxL ret e s m args below meth c s₁ → c.maxLocals = maxL → (∀ x ∈ c.exceptionTable.toList, False) → Pc args s →
      W p l e (headSpec ws rm).room s m args below meth c s.heap [] 0 0 (vx_MQ below Qc XC args s mc ms free) (entryFrame m args maxL)) : vx_Met l y ws rm Pc Qc XC mc ms free := by
  refine MetFree.of_bodyS (code := cc) (maxLocals := maxL) (ret := ret) hy ?_ ?_
  · intro args s m h hn
    obtain ⟨meth, c, h1, h2, h3, h4, h5, h6, -, -⟩ := Cond.code_spec hn (atoms_spec (ws := ws) h _ (by rw [hw]; exact List.mem_cons_self))
    exact ⟨meth, c, h1, h2, h3, h4, h5, h6⟩
  · intro p e s m args below meth c s₁ B hml hP _
    have hh0 : s₁.heap = s.heap := by rw [B.state]; rfl
    have ht : ∀ x ∈ c.exceptionTable.toList, False := by
      obtain ⟨meth9, c9, h1, h2, -, -, -, -, h7, -⟩ := Cond.code_spec B.named (atoms_spec (ws := ws) B.pre _ (by rw [hw]; exact List.mem_cons_self))
      cases Option.some.inj (h1.symm.trans B.method)
      cases Option.some.inj (h2.symm.trans (Stand.of_body B).code)
      intro x hx
      rw [Array.isEmpty_iff.mp h7] at hx
      cases hx
    obtain ⟨t, a1, o, b1, b2, b3⟩ := body p e s m args below meth c s₁ B hml ht hP s₁ hh0 (Stand.of_body B)
    exact ⟨t, o, a1, b1, b2, b3⟩
/-- the table of a body with handlers -/
theorem vx_table {p : Program} {x y : MethodName} {S : Spec} {cc bytes : ByteArray} {maxL maxL' : Nat} {ret ret' : Option FieldType} {e : Env} {s s₁ : State} {m : MethodId} {args : Array Value} {below : List Frame} {meth : Method} {c : Code} {hh : List (Nat × Nat × Nat × Nat)}
    (B : BodyLoose p l y S cc maxL ret e s m args below meth c s₁) (h : (Cond.codeWith y bytes maxL' ret' hh).before args s = true) : c.exceptionTable.toList = tableOf hh := by
  obtain ⟨m9, meth9, c9, hn9, h1, h2, -, -, h6, -⟩ := Cond.codeWith_spec h
  cases Option.some.inj (hn9.symm.trans B.named)
  cases Option.some.inj (h1.symm.trans B.method)
  cases Option.some.inj (h2.symm.trans (Stand.of_body B).code)
  rw [← h6, table_eq]
end Bodies
end VXA
/-! ===== END ===== -/
/-! ===== BEGIN a static call of a method with an exception table ===== -/
section VXS
variable {p : Program} {l : Launch} {e : Env} {R : Room} {s : State} {m : MethodId} {args : Array Value} {below : List Frame} {meth : Method} {c : Code} {T : State} {H : Heap} {locs : List Loc} {cells slots : Nat}
abbrev vx_CSW (R : Room) (s : State) (args : Array Value) (own : String) (index : Nat) (y : MethodName) (bytes : ByteArray) (maxL : Nat) (ret : Option FieldType) (hh : List (Nat × Nat × Nat × Nat)) (ws : List Cond) (rm : Room) (mc ms n : Nat) : Prop :=
  (rm.cells = mc ∧ rm.slots = ms ∧ rm.frames + 1 ≤ R.frames ∧ 8 + (maxL + 11) + rm.locals ≤ R.locals ∧ (∀ w ∈ ws, ∀ (a' : Array Value) (U : State), s.WarmedH U.vm → w.before a' U = true) ∧ Cond.codeWith y bytes maxL ret hh ∈ ws) ∧
  (Cond.codeWith y bytes maxL ret hh).before args s = true ∧ (Cond.initialized y.cls).before args s = true ∧ (y.cls ≠ "java/lang/invoke/MethodHandle" ∧ y.cls ≠ "java/lang/invoke/VarHandle") ∧
  (∀ sig, parseMethodDescriptor y.desc = some sig → n = sig.parameters.length) ∧ (Cond.methodLink own index y).before args s = true ∧ (Cond.static y).before args s = true
theorem vx_cwSW {own : String} {index maxL mc ms : Nat} {y : MethodName} {bytes : ByteArray} {ret : Option FieldType} {hh : List (Nat × Nat × Nat × Nat)} {Ts ws ws' : List Cond} {rm : Room} (n : Nat) (ht : ∀ w ∈ Ts, w.before args s = true) (hT : GoodIn Ts (va_wsS own index y ws)) (hw : ws = Cond.codeWith y bytes maxL ret hh :: ws') (hrc : rm.cells = mc) (hrs : rm.slots = ms)
    (hd : y.cls ≠ "java/lang/invoke/MethodHandle" ∧ y.cls ≠ "java/lang/invoke/VarHandle" ∧ (parseMethodDescriptor y.desc).map (fun d => d.parameters.length) = some n) (hR : rm.frames + 1 ≤ R.frames ∧ 8 + (maxL + 11) + rm.locals ≤ R.locals) :
    vx_CSW R s args own index y bytes maxL ret hh ws rm mc ms n := by
  have ok : ∀ w ∈ va_wsS own index y ws, w.before args s = true := fun w h => ht w (hT w h).1
  have hG : GoodIn Ts ws := fun w h => hT w (by unfold va_wsS; exact List.mem_append_right _ h)
  have hc : Cond.codeWith y bytes maxL ret hh ∈ ws := by rw [hw]; exact List.mem_cons_self
  refine ⟨⟨hrc, hrs, hR.1, hR.2, pay_in ht hG, hc⟩, ht _ (hG _ hc).1, ok _ (by simp [va_wsS]), ⟨hd.1, hd.2.1⟩, fun sig h => ?_, ok _ (by simp [va_wsS]), ok _ (by simp [va_wsS])⟩
  have h2 := hd.2.2
  rw [h] at h2
  exact (Option.some.inj h2).symm
theorem vx_callSW (X : Stand p l e R s m args below meth c T locs cells slots) (hexec : p.tables.exec = Jvm.exec) {own : String} {index : Nat} {y : MethodName} {bytes : ByteArray} {maxL : Nat} {ret : Option FieldType} {hh : List (Nat × Nat × Nat × Nat)}
    (hown : s.vm.findClass own = some m.cls) (hlink : (Cond.methodLink own index y).before args s = true) (hstat : (Cond.static y).before args s = true) (hinit : (Cond.initialized y.cls).before args s = true)
    (hcode : (Cond.codeWith y bytes maxL ret hh).before args s = true) (hy : y.cls ≠ "java/lang/invoke/MethodHandle" ∧ y.cls ≠ "java/lang/invoke/VarHandle")
    {W9 : Nat} {Pre : Pt → Array Value → Prop} {Post : Pt → Array Value → Option Value → Pt → Prop} (hK : Back l R p e below s args y 3 W9 Pre Post)
    {g : JFrame} (hg : g.method = m) (hsize : g.locals.size = c.maxLocals) {argsL rest : List Value} (hlen : ∀ sig, parseMethodDescriptor y.desc = some sig → argsL.length = sig.parameters.length)
    (hstack : g.stack = argsL.reverse ++ rest) (hW : 2 * g.monitorRoom + (rest.map fun v => v.category).sum ≤ W9) (hdg : decode c.code g.pc = .ok (.invokestatic index, 3))
    (hpre : ∀ vm₁, s.WarmedH vm₁ → Pre ⟨T.setVm vm₁, locs, cells, slots⟩ argsL.toArray) :
    ∃ (v : Option Value) (vm₁ : Vm) (B : Pt), s.WarmedH vm₁ ∧ Stand p l e R s m args below meth c B.U B.locs B.cells B.slots ∧ Post ⟨T.setVm vm₁, locs, cells, slots⟩ argsL.toArray v B ∧
      ∀ target, Steps p.tables e below (B.U.setTop { g with pc := g.pc + 3, stack := v.toList ++ rest }) target → Steps p.tables e below (T.setTop g) target := by
  obtain ⟨mk, methM, cM, hnamed, hmethM, -, -, -, -, -, -, hsigM⟩ := Cond.codeWith_spec hcode
  have hstatic : methM.isStatic = true := Cond.static_spec hnamed hmethM hstat
  obtain ⟨kP, hkP, -⟩ := className_of_methodNamed hnamed
  have hinitP : kP.init = .initialized := Cond.initialized_spec (findClass_of_methodNamed hnamed) hkP hinit
  obtain ⟨vm₁, X₁, hstep₁⟩ := X.invokestatic hexec hown hlink hnamed hmethM hstatic hkP hinitP hy (g := g) hg (argsL := argsL) (rest := rest) (hlen _ hsigM) hstack hdg
  obtain ⟨v, B, X', hpost, hsteps⟩ := hK m meth c ⟨T.setVm vm₁, locs, cells, slots⟩ { g with stack := rest } (.invokestatic index) mk argsL.toArray X₁ hg hsize hdg hW (X₁.named hnamed) (hpre vm₁ X₁.warmed)
  exact ⟨v, vm₁, B, X₁.warmed, X', hpost, fun target h => hstep₁ _ fun acts => by rw [doInvoke_state]; exact hsteps.trans h⟩
theorem vx_runSW {y : MethodName} {bytes cc : ByteArray} {maxL nL mc ms n index : Nat} {ret : Option FieldType} {hh : List (Nat × Nat × Nat × Nat)} {ws : List Cond} {rm : Room} {Pc : Array Value → State → Prop} {Qc : Array Value → State → Outcome → State → Prop} {free : Addr → Prop} {Ts : List Cond} {own : String} {As rest : List Value} {g : JFrame}
    (S : CallFix p m c cc nL s args Ts own) (hM : Met l y ws rm Pc Qc mc ms free) (cw : vx_CSW R s args own index y bytes maxL ret hh ws rm mc ms n) (hp : PreS s H Pc As)
    (hg : g.method = m) (hn : As.length = n) (hsize : g.locals.size = nL) (hstack : g.stack = As.reverse ++ rest) (hW : 2 * g.monitorRoom + (rest.map fun v => v.category).sum ≤ 8) (hdg : decode cc g.pc = .ok (.invokestatic index, 3)) (hf : cells + mc ≤ R.cells ∧ slots + ms ≤ R.slots) :
    va_Run p l e R s m args below meth c H locs cells slots mc ms g rest (Qc As.toArray) (free) := by
  obtain ⟨⟨hrc, hrs, hfr, hlo, hws, hcw⟩, hcode, hini, hy, hlen, hl, hstt⟩ := cw
  have hK : Back l R p e below s args y 3 8 (PreOf R mc ms Pc) (PostOf Qc mc ms free) := va_backW (hh := hh) (bytes := bytes) (maxL := maxL) (ret := ret) hM hp.1 hrc hrs hfr hlo hws hcw (fun a' U hW => word_at hW (Or.inl (by first | rfl | simp [Cond.onTables, Cond.keeps, Cond.steady])) hini)
  obtain ⟨hx, hb, hml, ho, -⟩ := S
  intro T hT X
  obtain ⟨v, vm₁, ⟨U', l2, c2, s2⟩, hW₁, X', ⟨g', mk, t, L, e1, e2, hq, h1, hL, h2, h3⟩, st⟩ := vx_callSW X hx (hh := hh) (bytes := bytes) (maxL := maxL) (ret := ret) ho hl hstt hini hcode hy hK hg (hsize.trans hml.symm) (argsL := As) (rest := rest) (fun sig h => hn.trans (hlen sig h)) hstack hW (by rw [hb]; exact hdg)
    (fun vm₁ hW₁ => ⟨hf.1, hf.2, hp.2 (T.setVm vm₁) hT hW₁⟩)
  dsimp only [Pt.U, Pt.locs, Pt.cells, Pt.slots] at X' e1 e2 h1 h2 h3 st
  subst h1; subst h2; subst h3
  exact ⟨v, (T.setVm vm₁).calling g' mk As.toArray, t, U', L, hT, X', hL, e1, e2, hq, st⟩
/-- not caught here, past rows that name other classes: it goes on to the caller -/
theorem vx_outP {p : Program} {l : Launch} {e : Env} {R : Room} {s : State} {m : MethodId} {args : Array Value} {below : List Frame} {meth : Method} {c : Code} {H : Heap} {locs : List Loc} {cells slots : Nat} {free : Addr → Prop} {ls : Array Slot} {rest : List Value} {Qc : Array Value → State → Outcome → State → Prop} {XC : String → State → State → Prop}
    {pc : Nat} {own E : String} {ce : Cell} {q : Addr} {mc ms : Nat} (hown : s.vm.findClass own = some m.cls) (hlocks : meth.locks = false)
    (hpass : ∀ z ∈ c.exceptionTable.toList, covers z pc = false ∨ (z.catchType ≠ 0 ∧ ∃ nm : String, (Cond.classLink own z.catchType nm).before args s = true ∧ va_Nc E nm s)) (hcell : H[q]? = some ce) (hv : ce.vm = .none) (hcl : s.vm.findClass E = some ce.cls)
    (hx : ∀ t : State, t.heap = H → s.vm.Alike t.vm → XC E s t) (hf : ∀ z ∈ locs, free z.base) (hc : cells ≤ mc) (hs : slots ≤ ms) :
    vx_W p l e R s m args below meth c H locs cells slots (vx_MQ below Qc XC args s mc ms free) (F0 m pc ls rest) q := by
  intro T hT X
  have hpl : e.platform.magicAccessors = ({} : Platform).magicAccessors := by rw [X.admits.platform]
  obtain ⟨vm', hW', X', st⟩ := X.outThrough hlocks q (g := F0 m pc ls rest) rfl rfl rfl (cell := ce) (by rw [hT]; exact hcell) (by rw [hv]; rfl)
    (by obtain ⟨k9, h9, -⟩ := Vm.findClass_spec hcl; exact ⟨k9, h9⟩) (fun z hz => by
      rcases hpass z hz with h | ⟨hz0, nm, hl1, hn1⟩
      · exact Or.inl h
      · obtain ⟨c6, hc6, hcl6⟩ := Cond.classLink_spec hown hl1 e.platform hpl
        obtain ⟨a8, b8, h1, h2, h3⟩ := hn1
        cases Option.some.inj (h1.symm.trans hcl)
        cases Option.some.inj (h2.symm.trans hc6)
        exact Or.inr ⟨hz0, _, hcl6, h3⟩)
  obtain ⟨g₀, hfr⟩ := X'.frames_eq
  have hcell9 : ((T.setVm vm').setFrames (.throwing q :: below)).heap[q]? = some ce := by
    show T.heap[q]? = some ce
    rw [hT]; exact hcell
  have hend : Ended ((T.setVm vm').setFrames (.throwing q :: below)) below (.threw q) := State.frames_setFrames _ (State.cur_lt_of_frames hfr)
  refine ⟨(T.setVm vm').setFrames (.throwing q :: below), ?_, .threw q, X'.here.running, hend, Or.inr ⟨q, rfl, E, ce, locs, hx _ hT (X'.ends _).1.alike, hcell9, hv, hcl, (X'.ends _).1, (X'.ends _).2.mono hc hs, hf⟩⟩
  rw [X.pushThrowing_eq]
  exact st
/-- a thing of a world lies in the heap -/
theorem vx_lt {D : va_G} {cl : List vw_C} {ws : va_W} {H1 : Heap} (h : va_P D cl ws H1) {k : Nat} {q : Nat × va_E} (hk : ws[k]? = some q) : q.1 < H1.size := (h k q hk).lt
end VXS
/-! ===== END ===== -/
/-! ===== BEGIN methods with a table of their own: called by a name, returning or throwing ===== -/
section VXH
/-! vx_backW, vx_callVX, vx_callSX, vx_callVW, vx_runVW, vx_runVX, vx_runSX, vx_ofWH follow the same proofs as their sisters above (Free/Laws.lean, Shelf42/LK1.lean); vx_outP calls Shelf42/NT130.lean (outThrough). -/
section
variable {l : Launch} {R : Room} {p : Program} {e : Env} {below : List Frame} {s : State} {sargs : Array Value} {y : MethodName} {len W9 : Nat}
theorem vx_backW {ws : List Cond} {rm : Room} {Pc : Array Value → State → Prop} {Qc : Array Value → State → Outcome → State → Prop} {XC : String → State → State → Prop} {mc ms : Nat} {free : Addr → Prop} {bytes : ByteArray} {maxL : Nat} {ret : Option FieldType} {hh : List (Nat × Nat × Nat × Nat)}
    (hM : vx_Met l y ws rm Pc Qc XC mc ms free) (hblind : FrameBlind Pc) (hrc : rm.cells = mc) (hrs : rm.slots = ms)
    (hframes : rm.frames + 1 ≤ R.frames) (hlocals : W9 + (maxL + 11) + rm.locals ≤ R.locals)
    (hws : ∀ w ∈ ws, ∀ a' U, s.WarmedH U.vm → w.before a' U = true) (hcode : Cond.codeWith y bytes maxL ret hh ∈ ws) (hinit : ∀ a' U, s.WarmedH U.vm → (Cond.initialized y.cls).before a' U = true) :
    vx_Back l R p e below s sargs y len W9 (PreOf R mc ms Pc) (PostOf Qc mc ms free) (vx_Post XC mc ms free) := by
  intro m meth c A g ig mk a X hg hsize hdg hW hn hp
  have h1 : (headSpec ws rm).pre.before a A.U = true := atoms_intro fun w hw => hws w hw _ _ X.warmed
  have h2 : (Cond.codeWith y bytes maxL ret hh).before a A.U = true := hws _ hcode _ _ X.warmed
  have h3 : (Cond.initialized y.cls).before a A.U = true := hinit _ _ X.warmed
  have h4 : A.cells + (headSpec ws rm).room.cells ≤ R.cells := by rw [show (headSpec ws rm).room.cells = mc from hrc]; exact hp.1
  have h5 : A.slots + (headSpec ws rm).room.slots ≤ R.slots := by rw [show (headSpec ws rm).room.slots = ms from hrs]; exact hp.2.1
  have hPc : Pc a (A.U.calling g mk a) := hblind _ _ _ _ hp.2.2
  obtain ⟨U, Ls, c0, s0⟩ := A
  dsimp only [Pt.U, Pt.locs, Pt.cells, Pt.slots] at h1 h2 h3 h4 h5 X hn hPc ⊢
  obtain ⟨m9, methY, cY, hn9, hmY, hcY, -, hlY, -⟩ := Cond.codeWith_spec h2
  cases Option.some.inj (hn9.symm.trans hn)
  obtain ⟨kY, hkY, -⟩ := className_of_methodNamed hn
  have hinitY : kY.init = .initialized := Cond.initialized_spec (findClass_of_methodNamed hn) hkY h3
  have h : At U g.method c below := by rw [hg]; exact X.here
  have hlocals9 : W9 + (maxL + 11) + (headSpec ws rm).room.locals ≤ R.locals := hlocals
  have happ : (headSpec ws rm).appliesLoose y e.platform (U.calling g mk a) = true :=
    Spec.appliesLoose_calling (g := g) h hdg hn hkY hinitY
      (X.room_calling (g := g) (R' := (headSpec ws rm).room) hsize hmY hcY hframes (by rw [hlY]; omega) h4 h5) h1
  obtain ⟨mid, hmid⟩ := h.above
  have hfr : (U.setTop g).frames = (.java g :: mid) ++ below := by rw [State.frames_setTop' g h.top, hmid]; rfl
  obtain ⟨o, s₂, hsteps, -, hend, hq⟩ := Steps.callFree hM p X.admits X.cas X.clock (acts := []) hfr happ hPc trivial
  have hq' : vx_Q Qc XC mc ms free a (U.calling g mk a) o s₂ := hq
  rw [State.frames_setTop' g h.top] at hend
  obtain ⟨g₀, hg0⟩ := Option.isSome_iff_exists.mp h.top
  obtain ⟨r, hr⟩ := State.topJava?_eq_some.mp hg0
  have hr' : (({ U with heap := s₂.heap, slotsUsed := s₂.slotsUsed } : State).setVm s₂.vm).frames = .java g₀ :: r := hr
  rcases hq' with ⟨hqc, L, hfe, hL⟩ | ⟨q, rfl, E, ce, L, hx, hce, hcv, hcl, hW₂, hsm, hL⟩
  · obtain ⟨⟨v, rfl⟩, hW₂, e2, q2, q3, q4, q5, q6⟩ := id hfe
    have e3 : s₂ = ({ (U.calling g mk a).setFrames s₂.frames with heap := s₂.heap, slotsUsed := s₂.slotsUsed } : State).setVm s₂.vm := by
      have : s₂ = ({ s₂ with vm := (U.calling g mk a).vm } : State).setVm s₂.vm := rfl
      rw [e2] at this
      exact this
    obtain ⟨c₂, i₂, len₂, hc₂, hd₂, hf₂⟩ := hend
    have hW' : U.WarmedH s₂.vm := hW₂
    have hcc : c₂ = c := by
      have h1 : s₂.code? g.method = U.code? g.method := by
        rw [State.code?_eq, State.code?_eq, hW'.alike.method?]
      exact Option.some.inj (hc₂.symm.trans (h1.trans h.code))
    subst hcc
    have hlen : len₂ = len := by rw [hdg] at hd₂; cases hd₂; rfl
    subst hlen
    have hs₂ : s₂ = (({ U with heap := s₂.heap, slotsUsed := s₂.slotsUsed } : State).setVm s₂.vm).setTop { g with pc := g.pc + len₂, stack := v.toList ++ g.stack } := by
      refine e3.trans ?_
      rw [hf₂, State.calling_eq h.top, State.setFrames_setFrames, State.setTop_of_frames _ hr', hr]
      rfl
    have hsame : U.sameButNew ({ U with heap := s₂.heap, slotsUsed := s₂.slotsUsed } : State) L mc ms := by
      refine ⟨?_, q2, q3, q4, q5, q6⟩
      obtain ⟨t, ht, -⟩ := State.frames_cons hr
      show ({ U with heap := s₂.heap, slotsUsed := s₂.slotsUsed } : State) = { U.setFrames U.frames with heap := s₂.heap, slotsUsed := s₂.slotsUsed }
      rw [State.setFrames_self ht]
    subst hg
    refine Or.inl ⟨v, ⟨(({ U with heap := s₂.heap, slotsUsed := s₂.slotsUsed } : State).setVm s₂.vm), Ls ++ L, c0 + mc, s0 + ms⟩,
      ⟨X.admits, X.cas, X.clock, X.frames, X.room, X.hears, X.method, X.code, (X.here.setHeapUsed s₂.heap s₂.slotsUsed).setVm hW'.alike, X.tail, State.WarmedH.trans X.warmed hW', X.limits, X.bytes, X.same.trans (hsame.setVm s.vm)⟩,
      ⟨g, mk, s₂, L, rfl, rfl, hqc, rfl, hL, rfl, rfl⟩, ?_⟩
    show Steps p.tables e below _ ((({ U with heap := s₂.heap, slotsUsed := s₂.slotsUsed } : State).setVm s₂.vm).setTop { g with pc := g.pc + len₂, stack := v.toList ++ g.stack })
    rw [← hs₂]
    exact hsteps
  · obtain ⟨e2, q2, q3, q4, q5, q6⟩ := id hsm
    have e3 : s₂ = ({ (U.calling g mk a).setFrames s₂.frames with heap := s₂.heap, slotsUsed := s₂.slotsUsed } : State).setVm s₂.vm := by
      have : s₂ = ({ s₂ with vm := (U.calling g mk a).vm } : State).setVm s₂.vm := rfl
      rw [e2] at this
      exact this
    have hf₂ : s₂.frames = .throwing q :: .java g :: U.frames.tail := hend
    have hW' : U.WarmedH s₂.vm := hW₂
    have hs₂ : s₂ = ((({ U with heap := s₂.heap, slotsUsed := s₂.slotsUsed } : State).setVm s₂.vm).setTop g).pushFrame (.throwing q) := by
      refine e3.trans ?_
      rw [hf₂, State.calling_eq h.top, State.setFrames_setFrames, State.pushFrame, State.frames_setTop _ hr', State.setTop_of_frames _ hr', State.setFrames_setFrames, hr]
      rfl
    have hsame : U.sameButNew ({ U with heap := s₂.heap, slotsUsed := s₂.slotsUsed } : State) L mc ms := by
      refine ⟨?_, q2, q3, q4, q5, q6⟩
      obtain ⟨t, ht, -⟩ := State.frames_cons hr
      show ({ U with heap := s₂.heap, slotsUsed := s₂.slotsUsed } : State) = { U.setFrames U.frames with heap := s₂.heap, slotsUsed := s₂.slotsUsed }
      rw [State.setFrames_self ht]
    subst hg
    refine Or.inr ⟨q, ⟨(({ U with heap := s₂.heap, slotsUsed := s₂.slotsUsed } : State).setVm s₂.vm), Ls ++ L, c0 + mc, s0 + ms⟩,
      ⟨X.admits, X.cas, X.clock, X.frames, X.room, X.hears, X.method, X.code, (X.here.setHeapUsed s₂.heap s₂.slotsUsed).setVm hW'.alike, X.tail, State.WarmedH.trans X.warmed hW', X.limits, X.bytes, X.same.trans (hsame.setVm s.vm)⟩,
      ⟨g, mk, s₂, L, E, ce, rfl, rfl, hx, hce, hcv, hcl, rfl, hL, rfl, rfl⟩, ?_⟩
    show Steps p.tables e below _ (((({ U with heap := s₂.heap, slotsUsed := s₂.slotsUsed } : State).setVm s₂.vm).setTop g).pushFrame (.throwing q))
    rw [← hs₂]
    exact hsteps
end
variable {p : Program} {l : Launch} {e : Env} {R : Room} {s : State} {m : MethodId} {args : Array Value} {below : List Frame} {meth : Method} {c : Code} {T : State} {H : Heap} {locs : List Loc} {cells slots : Nat}
theorem vx_callVX (X : Stand p l e R s m args below meth c T locs cells slots) (hexec : p.tables.exec = Jvm.exec) {own C : String} {index : Nat} {y : MethodName} {bytes : ByteArray} {maxL : Nat} {ret : Option FieldType} {hh : List (Nat × Nat × Nat × Nat)}
    (hown : s.vm.findClass own = some m.cls) (hlink : (Cond.methodLink own index y).before args s = true) (hinst : (Cond.instanceMethod y).before args s = true) (hsel : (Cond.selects C y y).before args s = true)
    (hcode : (Cond.codeWith y bytes maxL ret hh).before args s = true) (hy : y.cls ≠ "java/lang/invoke/MethodHandle" ∧ y.cls ≠ "java/lang/invoke/VarHandle")
    {W9 : Nat} {Pre : Pt → Array Value → Prop} {Post : Pt → Array Value → Option Value → Pt → Prop} {PostX : Pt → Array Value → Addr → Pt → Prop} (hK : vx_Back l R p e below s args y 3 W9 Pre Post PostX)
    {b : Addr} {cellB : Cell} (hcell : T.heap[b]? = some cellB) (hobj : cellB.vm.isStatics = false) (hcls : s.vm.findClass C = some cellB.cls)
    {g : JFrame} (hg : g.method = m) (hsize : g.locals.size = c.maxLocals) {argsL rest : List Value} (hlen : ∀ sig, parseMethodDescriptor y.desc = some sig → argsL.length = sig.parameters.length)
    (hstack : g.stack = argsL.reverse ++ .ref b :: rest) (hW : 2 * g.monitorRoom + (rest.map fun v => v.category).sum ≤ W9) (hdg : decode c.code g.pc = .ok (.invokevirtual index, 3))
    (hpre : ∀ vm₁, s.WarmedH vm₁ → Pre ⟨T.setVm vm₁, locs, cells, slots⟩ (Value.ref b :: argsL).toArray) :
    (∃ (v : Option Value) (vm₁ : Vm) (B : Pt), s.WarmedH vm₁ ∧ Stand p l e R s m args below meth c B.U B.locs B.cells B.slots ∧ Post ⟨T.setVm vm₁, locs, cells, slots⟩ (Value.ref b :: argsL).toArray v B ∧
      ∀ target, Steps p.tables e below (B.U.setTop { g with pc := g.pc + 3, stack := v.toList ++ rest }) target → Steps p.tables e below (T.setTop g) target) ∨
    (∃ (q : Addr) (vm₁ : Vm) (B : Pt), s.WarmedH vm₁ ∧ Stand p l e R s m args below meth c B.U B.locs B.cells B.slots ∧ PostX ⟨T.setVm vm₁, locs, cells, slots⟩ (Value.ref b :: argsL).toArray q B ∧
      Steps p.tables e below (T.setTop g) ((B.U.setTop { g with stack := rest }).pushFrame (.throwing q))) := by
  obtain ⟨mk, methM, hnamed, hmethM, hstM, habM⟩ := Cond.instanceMethod_spec hinst
  obtain ⟨m8, methM', cM, hn8, hmethM', -, -, -, -, -, -, hsigM⟩ := Cond.codeWith_spec hcode
  cases Option.some.inj (hn8.symm.trans hnamed)
  cases hmethM.symm.trans hmethM'
  obtain ⟨c2, r2, m2, q1, q2, q3, q4, kP, hkP, hkPi⟩ := Cond.selects_spec hsel
  cases hcls.symm.trans q1
  cases (State.methodFound?_of_named hnamed hy).symm.trans q2
  cases hnamed.symm.trans q3
  have hselP : selectMethod e.platform s.vm cellB.cls mk = .method mk := by rw [Launch.admits_selectMethod X.admits]; exact q4
  obtain ⟨vm₁, X₁, hstep₁⟩ := X.invokevirtual hexec hown hlink hnamed hmethM hstM hkP hkPi hy (a := b) (cell := cellB) hcell
    (fun z h => by rw [h] at hobj; cases hobj) hselP hmethM habM hkP hkPi (g := g) hg (argsL := argsL) (rest := rest) (hlen _ hsigM) hstack hdg
  rcases hK m meth c ⟨T.setVm vm₁, locs, cells, slots⟩ { g with stack := rest } (.invokevirtual index) mk (Value.ref b :: argsL).toArray X₁ hg hsize hdg hW (X₁.named hnamed) (hpre vm₁ X₁.warmed) with ⟨v, B, X', hpost, hsteps⟩ | ⟨q, B, X', hpost, hsteps⟩
  · exact Or.inl ⟨v, vm₁, B, X₁.warmed, X', hpost, fun target h => hstep₁ _ fun acts => by rw [doInvoke_state]; exact hsteps.trans h⟩
  · exact Or.inr ⟨q, vm₁, B, X₁.warmed, X', hpost, hstep₁ _ fun acts => by rw [doInvoke_state]; exact hsteps⟩
theorem vx_callSX (X : Stand p l e R s m args below meth c T locs cells slots) (hexec : p.tables.exec = Jvm.exec) {own : String} {index : Nat} {y : MethodName} {bytes : ByteArray} {maxL : Nat} {ret : Option FieldType} {hh : List (Nat × Nat × Nat × Nat)}
    (hown : s.vm.findClass own = some m.cls) (hlink : (Cond.methodLink own index y).before args s = true) (hstat : (Cond.static y).before args s = true) (hinit : (Cond.initialized y.cls).before args s = true)
    (hcode : (Cond.codeWith y bytes maxL ret hh).before args s = true) (hy : y.cls ≠ "java/lang/invoke/MethodHandle" ∧ y.cls ≠ "java/lang/invoke/VarHandle")
    {W9 : Nat} {Pre : Pt → Array Value → Prop} {Post : Pt → Array Value → Option Value → Pt → Prop} {PostX : Pt → Array Value → Addr → Pt → Prop} (hK : vx_Back l R p e below s args y 3 W9 Pre Post PostX)
    {g : JFrame} (hg : g.method = m) (hsize : g.locals.size = c.maxLocals) {argsL rest : List Value} (hlen : ∀ sig, parseMethodDescriptor y.desc = some sig → argsL.length = sig.parameters.length)
    (hstack : g.stack = argsL.reverse ++ rest) (hW : 2 * g.monitorRoom + (rest.map fun v => v.category).sum ≤ W9) (hdg : decode c.code g.pc = .ok (.invokestatic index, 3))
    (hpre : ∀ vm₁, s.WarmedH vm₁ → Pre ⟨T.setVm vm₁, locs, cells, slots⟩ argsL.toArray) :
    (∃ (v : Option Value) (vm₁ : Vm) (B : Pt), s.WarmedH vm₁ ∧ Stand p l e R s m args below meth c B.U B.locs B.cells B.slots ∧ Post ⟨T.setVm vm₁, locs, cells, slots⟩ argsL.toArray v B ∧
      ∀ target, Steps p.tables e below (B.U.setTop { g with pc := g.pc + 3, stack := v.toList ++ rest }) target → Steps p.tables e below (T.setTop g) target) ∨
    (∃ (q : Addr) (vm₁ : Vm) (B : Pt), s.WarmedH vm₁ ∧ Stand p l e R s m args below meth c B.U B.locs B.cells B.slots ∧ PostX ⟨T.setVm vm₁, locs, cells, slots⟩ argsL.toArray q B ∧
      Steps p.tables e below (T.setTop g) ((B.U.setTop { g with stack := rest }).pushFrame (.throwing q))) := by
  obtain ⟨mk, methM, cM, hnamed, hmethM, -, -, -, -, -, -, hsigM⟩ := Cond.codeWith_spec hcode
  have hstatic : methM.isStatic = true := Cond.static_spec hnamed hmethM hstat
  obtain ⟨kP, hkP, -⟩ := className_of_methodNamed hnamed
  have hinitP : kP.init = .initialized := Cond.initialized_spec (findClass_of_methodNamed hnamed) hkP hinit
  obtain ⟨vm₁, X₁, hstep₁⟩ := X.invokestatic hexec hown hlink hnamed hmethM hstatic hkP hinitP hy (g := g) hg (argsL := argsL) (rest := rest) (hlen _ hsigM) hstack hdg
  rcases hK m meth c ⟨T.setVm vm₁, locs, cells, slots⟩ { g with stack := rest } (.invokestatic index) mk argsL.toArray X₁ hg hsize hdg hW (X₁.named hnamed) (hpre vm₁ X₁.warmed) with ⟨v, B, X', hpost, hsteps⟩ | ⟨q, B, X', hpost, hsteps⟩
  · exact Or.inl ⟨v, vm₁, B, X₁.warmed, X', hpost, fun target h => hstep₁ _ fun acts => by rw [doInvoke_state]; exact hsteps.trans h⟩
  · exact Or.inr ⟨q, vm₁, B, X₁.warmed, X', hpost, hstep₁ _ fun acts => by rw [doInvoke_state]; exact hsteps⟩
theorem vx_callVW (X : Stand p l e R s m args below meth c T locs cells slots) (hexec : p.tables.exec = Jvm.exec) {own C : String} {index : Nat} {y : MethodName} {bytes : ByteArray} {maxL : Nat} {ret : Option FieldType} {hh : List (Nat × Nat × Nat × Nat)}
    (hown : s.vm.findClass own = some m.cls) (hlink : (Cond.methodLink own index y).before args s = true) (hinst : (Cond.instanceMethod y).before args s = true) (hsel : (Cond.selects C y y).before args s = true)
    (hcode : (Cond.codeWith y bytes maxL ret hh).before args s = true) (hy : y.cls ≠ "java/lang/invoke/MethodHandle" ∧ y.cls ≠ "java/lang/invoke/VarHandle")
    {W9 : Nat} {Pre : Pt → Array Value → Prop} {Post : Pt → Array Value → Option Value → Pt → Prop} (hK : Back l R p e below s args y 3 W9 Pre Post)
    {b : Addr} {cellB : Cell} (hcell : T.heap[b]? = some cellB) (hobj : cellB.vm.isStatics = false) (hcls : s.vm.findClass C = some cellB.cls)
    {g : JFrame} (hg : g.method = m) (hsize : g.locals.size = c.maxLocals) {argsL rest : List Value} (hlen : ∀ sig, parseMethodDescriptor y.desc = some sig → argsL.length = sig.parameters.length)
    (hstack : g.stack = argsL.reverse ++ .ref b :: rest) (hW : 2 * g.monitorRoom + (rest.map fun v => v.category).sum ≤ W9) (hdg : decode c.code g.pc = .ok (.invokevirtual index, 3))
    (hpre : ∀ vm₁, s.WarmedH vm₁ → Pre ⟨T.setVm vm₁, locs, cells, slots⟩ (Value.ref b :: argsL).toArray) :
    ∃ (v : Option Value) (vm₁ : Vm) (B : Pt), s.WarmedH vm₁ ∧ Stand p l e R s m args below meth c B.U B.locs B.cells B.slots ∧ Post ⟨T.setVm vm₁, locs, cells, slots⟩ (Value.ref b :: argsL).toArray v B ∧
      ∀ target, Steps p.tables e below (B.U.setTop { g with pc := g.pc + 3, stack := v.toList ++ rest }) target → Steps p.tables e below (T.setTop g) target := by
  obtain ⟨mk, methM, hnamed, hmethM, hstM, habM⟩ := Cond.instanceMethod_spec hinst
  obtain ⟨m8, methM', cM, hn8, hmethM', -, -, -, -, -, -, hsigM⟩ := Cond.codeWith_spec hcode
  cases Option.some.inj (hn8.symm.trans hnamed)
  cases hmethM.symm.trans hmethM'
  obtain ⟨c2, r2, m2, q1, q2, q3, q4, kP, hkP, hkPi⟩ := Cond.selects_spec hsel
  cases hcls.symm.trans q1
  cases (State.methodFound?_of_named hnamed hy).symm.trans q2
  cases hnamed.symm.trans q3
  have hselP : selectMethod e.platform s.vm cellB.cls mk = .method mk := by rw [Launch.admits_selectMethod X.admits]; exact q4
  obtain ⟨vm₁, X₁, hstep₁⟩ := X.invokevirtual hexec hown hlink hnamed hmethM hstM hkP hkPi hy (a := b) (cell := cellB) hcell
    (fun z h => by rw [h] at hobj; cases hobj) hselP hmethM habM hkP hkPi (g := g) hg (argsL := argsL) (rest := rest) (hlen _ hsigM) hstack hdg
  obtain ⟨v, B, X', hpost, hsteps⟩ := hK m meth c ⟨T.setVm vm₁, locs, cells, slots⟩ { g with stack := rest } (.invokevirtual index) mk (Value.ref b :: argsL).toArray X₁ hg hsize hdg hW (X₁.named hnamed) (hpre vm₁ X₁.warmed)
  exact ⟨v, vm₁, B, X₁.warmed, X', hpost, fun target h => hstep₁ _ fun acts => by rw [doInvoke_state]; exact hsteps.trans h⟩
abbrev vx_CVW (R : Room) (s : State) (args : Array Value) (own C : String) (index : Nat) (y : MethodName) (bytes : ByteArray) (maxL : Nat) (ret : Option FieldType) (hh : List (Nat × Nat × Nat × Nat)) (ws : List Cond) (rm : Room) (mc ms n : Nat) : Prop :=
  (rm.cells = mc ∧ rm.slots = ms ∧ rm.frames + 1 ≤ R.frames ∧ 8 + (maxL + 11) + rm.locals ≤ R.locals ∧ (∀ w ∈ ws, ∀ (a' : Array Value) (U : State), s.WarmedH U.vm → w.before a' U = true) ∧ Cond.codeWith y bytes maxL ret hh ∈ ws) ∧
  (Cond.codeWith y bytes maxL ret hh).before args s = true ∧ (Cond.initialized y.cls).before args s = true ∧ (y.cls ≠ "java/lang/invoke/MethodHandle" ∧ y.cls ≠ "java/lang/invoke/VarHandle") ∧
  (∀ sig, parseMethodDescriptor y.desc = some sig → n = sig.parameters.length) ∧ (Cond.methodLink own index y).before args s = true ∧ (Cond.instanceMethod y).before args s = true ∧ (Cond.selects C y y).before args s = true
theorem vx_cwVW {own C : String} {index maxL mc ms : Nat} {y : MethodName} {bytes : ByteArray} {ret : Option FieldType} {hh : List (Nat × Nat × Nat × Nat)} {Ts ws ws' : List Cond} {rm : Room} (n : Nat) (ht : ∀ w ∈ Ts, w.before args s = true) (hT : GoodIn Ts (wsV own index C y ws)) (hw : ws = Cond.codeWith y bytes maxL ret hh :: ws') (hrc : rm.cells = mc) (hrs : rm.slots = ms)
    (hd : y.cls = C ∧ y.cls ≠ "java/lang/invoke/MethodHandle" ∧ y.cls ≠ "java/lang/invoke/VarHandle" ∧ (parseMethodDescriptor y.desc).map (fun d => d.parameters.length) = some n) (hR : rm.frames + 1 ≤ R.frames ∧ 8 + (maxL + 11) + rm.locals ≤ R.locals) :
    vx_CVW R s args own C index y bytes maxL ret hh ws rm mc ms n := by
  obtain ⟨hC, hd⟩ := hd
  subst hC
  have ok : ∀ w ∈ wsV own index y.cls y ws, w.before args s = true := fun w h => ht w (hT w h).1
  have hG : GoodIn Ts ws := fun w h => hT w (by unfold wsV; exact List.mem_append_right _ h)
  have hc : Cond.codeWith y bytes maxL ret hh ∈ ws := by rw [hw]; exact List.mem_cons_self
  refine ⟨⟨hrc, hrs, hR.1, hR.2, pay_in ht hG, hc⟩, ht _ (hG _ hc).1, ok _ (by simp [wsV]), ⟨hd.1, hd.2.1⟩, fun sig h => ?_, ok _ (by simp [wsV]), ok _ (by simp [wsV]), ok _ (by simp [wsV])⟩
  have h2 := hd.2.2
  rw [h] at h2
  exact (Option.some.inj h2).symm
theorem vx_runVW {y : MethodName} {bytes cc : ByteArray} {maxL nL mc ms n index : Nat} {ret : Option FieldType} {hh : List (Nat × Nat × Nat × Nat)} {ws : List Cond} {rm : Room} {Pc : Array Value → State → Prop} {Qc : Array Value → State → Outcome → State → Prop} {free : Addr → Prop} {Ts : List Cond} {own C : String} {b : Addr} {As rest : List Value} {g : JFrame}
    (S : CallFix p m c cc nL s args Ts own) (hM : Met l y ws rm Pc Qc mc ms free) (cw : vx_CVW R s args own C index y bytes maxL ret hh ws rm mc ms n) (hp : PreV s H C b Pc As)
    (hg : g.method = m) (hn : As.length = n) (hsize : g.locals.size = nL) (hstack : g.stack = As.reverse ++ .ref b :: rest) (hW : 2 * g.monitorRoom + (rest.map fun v => v.category).sum ≤ 8) (hdg : decode cc g.pc = .ok (.invokevirtual index, 3)) (hf : cells + mc ≤ R.cells ∧ slots + ms ≤ R.slots) :
    va_Run p l e R s m args below meth c H locs cells slots mc ms g rest (Qc (Value.ref b :: As).toArray) free := by
  obtain ⟨⟨hrc, hrs, hfr, hlo, hws, hcw⟩, hcode, hini, hy, hlen, hl, hin, hse⟩ := cw
  have hK : Back l R p e below s args y 3 8 (PreOf R mc ms Pc) (PostOf Qc mc ms free) := va_backW (hh := hh) (bytes := bytes) (maxL := maxL) (ret := ret) hM hp.1 hrc hrs hfr hlo hws hcw (fun a' U hW => word_at hW (Or.inl (by first | rfl | simp [Cond.onTables, Cond.keeps, Cond.steady])) hini)
  obtain ⟨hx, hb, hml, ho, -⟩ := S
  obtain ⟨-, ⟨cellB, hcB, hoB, hclB⟩, hPc⟩ := hp
  intro T hT X
  obtain ⟨v, vm₁, ⟨U', l2, c2, s2⟩, hW₁, X', ⟨g', mk, t, L, e1, e2, hq, h1, hL, h2, h3⟩, st⟩ := vx_callVW X hx (C := C) (hh := hh) (bytes := bytes) (maxL := maxL) (ret := ret) ho hl hin hse hcode hy hK (by rw [hT]; exact hcB) hoB hclB hg (hsize.trans hml.symm) (argsL := As) (rest := rest) (fun sig h => hn.trans (hlen sig h)) hstack hW (by rw [hb]; exact hdg)
    (fun vm₁ hW₁ => ⟨hf.1, hf.2, hPc (T.setVm vm₁) hT hW₁⟩)
  dsimp only [Pt.U, Pt.locs, Pt.cells, Pt.slots] at X' e1 e2 h1 h2 h3 st
  subst h1; subst h2; subst h3
  exact ⟨v, (T.setVm vm₁).calling g' mk (Value.ref b :: As).toArray, t, U', L, hT, X', hL, e1, e2, hq, st⟩
section
variable {y : MethodName} {bytes cc : ByteArray} {maxL nL mc ms n index : Nat} {ret : Option FieldType} {ws : List Cond} {rm : Room} {Pc : Array Value → State → Prop} {Qc : Array Value → State → Outcome → State → Prop} {XC : String → State → State → Prop} {free : Addr → Prop} {Ts : List Cond} {own C : String} {b : Addr} {As rest : List Value} {g : JFrame}
theorem vx_runVX {hh : List (Nat × Nat × Nat × Nat)} (S : CallFix p m c cc nL s args Ts own) (hM : vx_Met l y ws rm Pc Qc XC mc ms free) (cw : vx_CVW R s args own C index y bytes maxL ret hh ws rm mc ms n) (hp : PreV s H C b Pc As)
    (hg : g.method = m) (hn : As.length = n) (hsize : g.locals.size = nL) (hstack : g.stack = As.reverse ++ .ref b :: rest) (hW : 2 * g.monitorRoom + (rest.map fun v => v.category).sum ≤ 8) (hdg : decode cc g.pc = .ok (.invokevirtual index, 3)) (hf : cells + mc ≤ R.cells ∧ slots + ms ≤ R.slots) :
    vx_Run p l e R s m args below meth c H locs cells slots mc ms g rest (Qc (Value.ref b :: As).toArray) XC free := by
  obtain ⟨⟨hrc, hrs, hfr, hlo, hws, hcw⟩, hcode, hini, hy, hlen, hl, hin, hse⟩ := cw
  have hK : vx_Back l R p e below s args y 3 8 (PreOf R mc ms Pc) (PostOf Qc mc ms free) (vx_Post XC mc ms free) := vx_backW (hh := hh) (bytes := bytes) (maxL := maxL) (ret := ret) hM hp.1 hrc hrs hfr hlo hws hcw (fun a' U hW => word_at hW (Or.inl (by first | rfl | simp [Cond.onTables, Cond.keeps, Cond.steady])) hini)
  obtain ⟨hx, hb, hml, ho, -⟩ := S
  obtain ⟨-, ⟨cellB, hcB, hoB, hclB⟩, hPc⟩ := hp
  intro T hT X
  rcases vx_callVX X hx (C := C) (hh := hh) (bytes := bytes) (maxL := maxL) (ret := ret) ho hl hin hse hcode hy hK (by rw [hT]; exact hcB) hoB hclB hg (hsize.trans hml.symm) (argsL := As) (rest := rest) (fun sig h => hn.trans (hlen sig h)) hstack hW (by rw [hb]; exact hdg)
    (fun vm₁ hW₁ => ⟨hf.1, hf.2, hPc (T.setVm vm₁) hT hW₁⟩) with ⟨v, vm₁, ⟨U', l2, c2, s2⟩, hW₁, X', ⟨g', mk, t, L, e1, e2, hq, h1, hL, h2, h3⟩, st⟩ | ⟨q, vm₁, ⟨U', l2, c2, s2⟩, hW₁, X', ⟨g', mk, t, L, E, ce, e1, e2, hq, hce, hcv, hcl, h1, hL, h2, h3⟩, st⟩
  · dsimp only [Pt.U, Pt.locs, Pt.cells, Pt.slots] at X' e1 e2 h1 h2 h3 st
    subst h1; subst h2; subst h3
    exact Or.inl ⟨v, (T.setVm vm₁).calling g' mk (Value.ref b :: As).toArray, t, U', L, hT, X', hL, e1, e2, hq, st⟩
  · dsimp only [Pt.U, Pt.locs, Pt.cells, Pt.slots] at X' e1 e2 h1 h2 h3 st hcl
    subst h1; subst h2; subst h3
    exact Or.inr ⟨q, (T.setVm vm₁).calling g' mk (Value.ref b :: As).toArray, t, U', L, E, ce, hT, X', hL, e1, e2, hq, hce, hcv, vx_cls hW₁ hcl, st⟩
theorem vx_runSX {hh : List (Nat × Nat × Nat × Nat)} (S : CallFix p m c cc nL s args Ts own) (hM : vx_Met l y ws rm Pc Qc XC mc ms free) (cw : vx_CSW R s args own index y bytes maxL ret hh ws rm mc ms n) (hp : PreS s H Pc As)
    (hg : g.method = m) (hn : As.length = n) (hsize : g.locals.size = nL) (hstack : g.stack = As.reverse ++ rest) (hW : 2 * g.monitorRoom + (rest.map fun v => v.category).sum ≤ 8) (hdg : decode cc g.pc = .ok (.invokestatic index, 3)) (hf : cells + mc ≤ R.cells ∧ slots + ms ≤ R.slots) :
    vx_Run p l e R s m args below meth c H locs cells slots mc ms g rest (Qc As.toArray) XC free := by
  obtain ⟨⟨hrc, hrs, hfr, hlo, hws, hcw⟩, hcode, hini, hy, hlen, hl, hstt⟩ := cw
  have hK : vx_Back l R p e below s args y 3 8 (PreOf R mc ms Pc) (PostOf Qc mc ms free) (vx_Post XC mc ms free) := vx_backW (hh := hh) (bytes := bytes) (maxL := maxL) (ret := ret) hM hp.1 hrc hrs hfr hlo hws hcw (fun a' U hW => word_at hW (Or.inl (by first | rfl | simp [Cond.onTables, Cond.keeps, Cond.steady])) hini)
  obtain ⟨hx, hb, hml, ho, -⟩ := S
  intro T hT X
  rcases vx_callSX X hx (hh := hh) (bytes := bytes) (maxL := maxL) (ret := ret) ho hl hstt hini hcode hy hK hg (hsize.trans hml.symm) (argsL := As) (rest := rest) (fun sig h => hn.trans (hlen sig h)) hstack hW (by rw [hb]; exact hdg)
    (fun vm₁ hW₁ => ⟨hf.1, hf.2, hp.2 (T.setVm vm₁) hT hW₁⟩) with ⟨v, vm₁, ⟨U', l2, c2, s2⟩, hW₁, X', ⟨g', mk, t, L, e1, e2, hq, h1, hL, h2, h3⟩, st⟩ | ⟨q, vm₁, ⟨U', l2, c2, s2⟩, hW₁, X', ⟨g', mk, t, L, E, ce, e1, e2, hq, hce, hcv, hcl, h1, hL, h2, h3⟩, st⟩
  · dsimp only [Pt.U, Pt.locs, Pt.cells, Pt.slots] at X' e1 e2 h1 h2 h3 st
    subst h1; subst h2; subst h3
    exact Or.inl ⟨v, (T.setVm vm₁).calling g' mk As.toArray, t, U', L, hT, X', hL, e1, e2, hq, st⟩
  · dsimp only [Pt.U, Pt.locs, Pt.cells, Pt.slots] at X' e1 e2 h1 h2 h3 st hcl
    subst h1; subst h2; subst h3
    exact Or.inr ⟨q, (T.setVm vm₁).calling g' mk As.toArray, t, U', L, E, ce, hT, X', hL, e1, e2, hq, hce, hcv, vx_cls hW₁ hcl, st⟩
end
end VXH
theorem vx_ofWH {l : Launch} {y : MethodName} {ws ws' : List Cond} {rm : Room} {Pc : Array Value → State → Prop} {Qc : Array Value → State → Outcome → State → Prop} {XC : String → State → State → Prop} {mc ms : Nat} {free : Addr → Prop} {cc : ByteArray} {maxL : Nat} {ret : Option FieldType} {hh : List (Nat × Nat × Nat × Nat)}
    (hy : plainName y.cls = true) (hw : ws = Cond.codeWith y cc maxL ret hh :: ws')
    (body : ∀ p e s m args below meth c s₁, BodyLoose p l y (headSpec ws rm) cc maxL ret e s m args below meth c s₁ → c.maxLocals = maxL → Pc args s →
      W p l e (headSpec ws rm).room s m args below meth c s.heap [] 0 0 (vx_MQ below Qc XC args s mc ms free) (entryFrame m args maxL)) : vx_Met l y ws rm Pc Qc XC mc ms free := by
  refine MetFree.of_bodyS (code := cc) (maxLocals := maxL) (ret := ret) hy ?_ ?_
  · intro args s m h hn
    obtain ⟨m9, meth, c, hn9, h1, h2, h3, h4, -, h5, h6, -⟩ := Cond.codeWith_spec (atoms_spec (ws := ws) h _ (by rw [hw]; exact List.mem_cons_self))
    cases hn.symm.trans hn9
    exact ⟨meth, c, h1, h2, h3, h4, h5, h6⟩
  · intro p e s m args below meth c s₁ B hml hP _
    have hh0 : s₁.heap = s.heap := by rw [B.state]; rfl
    obtain ⟨t, a1, o, b1, b2, b3⟩ := body p e s m args below meth c s₁ B hml hP s₁ hh0 (Stand.of_body B)
    exact ⟨t, o, a1, b1, b2, b3⟩
/-! ===== END ===== -/
end
section
-- ===== PART A: goes FIRST, ahead of the names: the tables' words, and 'selects' of the private methods out of them =====
/-- a private method of a class that the tables say can be made, by its rows of tables_1 -/
def lw_okq (q : MethodName × Nat) : Prop := (q.1.cls ≠ "java/lang/invoke/MethodHandle" ∧ q.1.cls ≠ "java/lang/invoke/VarHandle") ∧ Cond.instantiable q.1.cls q.2 ∈ tables_1 ∧ Cond.privateMethod q.1 ∈ tables_1 ∧ Cond.instanceMethod q.1 ∈ tables_1
theorem lw_p0 : lw_okq (⟨"EventSpans", "putOnList", "(I)V"⟩, 7) := ⟨⟨by decide +kernel, by decide +kernel⟩, List.mem_of_getElem? (i := 16) (by decide +kernel), List.mem_of_getElem? (i := 55) (by decide +kernel), List.mem_of_getElem? (i := 56) (by decide +kernel)⟩
theorem lw_p1 : lw_okq (⟨"EventSpans", "find", "(II)I"⟩, 7) := ⟨⟨by decide +kernel, by decide +kernel⟩, List.mem_of_getElem? (i := 16) (by decide +kernel), List.mem_of_getElem? (i := 90) (by decide +kernel), List.mem_of_getElem? (i := 91) (by decide +kernel)⟩
theorem lw_p2 : lw_okq (⟨"java/lang/Throwable", "fillInStackTrace", "(I)Ljava/lang/Throwable;"⟩, 6) := ⟨⟨by decide +kernel, by decide +kernel⟩, List.mem_of_getElem? (i := 136) (by decide +kernel), List.mem_of_getElem? (i := 134) (by decide +kernel), List.mem_of_getElem? (i := 135) (by decide +kernel)⟩
theorem lw_p3 : lw_okq (⟨"EventSpans", "isListed", "(I)Z"⟩, 7) := ⟨⟨by decide +kernel, by decide +kernel⟩, List.mem_of_getElem? (i := 16) (by decide +kernel), List.mem_of_getElem? (i := 173) (by decide +kernel), List.mem_of_getElem? (i := 174) (by decide +kernel)⟩
theorem lw_p4 : lw_okq (⟨"EventSpans", "takeList", "()[I"⟩, 7) := ⟨⟨by decide +kernel, by decide +kernel⟩, List.mem_of_getElem? (i := 16) (by decide +kernel), List.mem_of_getElem? (i := 230) (by decide +kernel), List.mem_of_getElem? (i := 231) (by decide +kernel)⟩
theorem lw_p5 : lw_okq (⟨"EventSpans", "seenFrom", "([I)[I"⟩, 7) := ⟨⟨by decide +kernel, by decide +kernel⟩, List.mem_of_getElem? (i := 16) (by decide +kernel), List.mem_of_getElem? (i := 248) (by decide +kernel), List.mem_of_getElem? (i := 249) (by decide +kernel)⟩
theorem lw_p6 : lw_okq (⟨"EventSpans", "spanOf", "(I)LEventSpans$Span;"⟩, 7) := ⟨⟨by decide +kernel, by decide +kernel⟩, List.mem_of_getElem? (i := 16) (by decide +kernel), List.mem_of_getElem? (i := 252) (by decide +kernel), List.mem_of_getElem? (i := 253) (by decide +kernel)⟩
theorem lw_p7 : lw_okq (⟨"EventSpans", "holdsAncestor", "([I)Z"⟩, 7) := ⟨⟨by decide +kernel, by decide +kernel⟩, List.mem_of_getElem? (i := 16) (by decide +kernel), List.mem_of_getElem? (i := 260) (by decide +kernel), List.mem_of_getElem? (i := 261) (by decide +kernel)⟩
theorem lw_p8 : lw_okq (⟨"EventSpans", "isAncestor", "(II)Z"⟩, 7) := ⟨⟨by decide +kernel, by decide +kernel⟩, List.mem_of_getElem? (i := 16) (by decide +kernel), List.mem_of_getElem? (i := 264) (by decide +kernel), List.mem_of_getElem? (i := 265) (by decide +kernel)⟩
theorem lw_p9 : lw_okq (⟨"EventSpans", "endHeads", "([I)V"⟩, 7) := ⟨⟨by decide +kernel, by decide +kernel⟩, List.mem_of_getElem? (i := 16) (by decide +kernel), List.mem_of_getElem? (i := 269) (by decide +kernel), List.mem_of_getElem? (i := 270) (by decide +kernel)⟩
theorem lw_p10 : lw_okq (⟨"EventSpans", "newAgent", "(I)LEventSpans$Agent;"⟩, 7) := ⟨⟨by decide +kernel, by decide +kernel⟩, List.mem_of_getElem? (i := 16) (by decide +kernel), List.mem_of_getElem? (i := 273) (by decide +kernel), List.mem_of_getElem? (i := 274) (by decide +kernel)⟩
theorem lw_p11 : lw_okq (⟨"EventSpans", "append", "(LEventSpans$Agent;I[I[I)V"⟩, 7) := ⟨⟨by decide +kernel, by decide +kernel⟩, List.mem_of_getElem? (i := 16) (by decide +kernel), List.mem_of_getElem? (i := 310) (by decide +kernel), List.mem_of_getElem? (i := 311) (by decide +kernel)⟩
theorem lw_p12 : lw_okq (⟨"EventSpansModel", "parent0", "(II)I"⟩, 14) := ⟨⟨by decide +kernel, by decide +kernel⟩, List.mem_of_getElem? (i := 413) (by decide +kernel), List.mem_of_getElem? (i := 477) (by decide +kernel), List.mem_of_getElem? (i := 478) (by decide +kernel)⟩
theorem lw_p13 : lw_okq (⟨"EventSpansModel", "find", "(II)I"⟩, 14) := ⟨⟨by decide +kernel, by decide +kernel⟩, List.mem_of_getElem? (i := 413) (by decide +kernel), List.mem_of_getElem? (i := 481) (by decide +kernel), List.mem_of_getElem? (i := 482) (by decide +kernel)⟩
theorem lw_p14 : lw_okq (⟨"EventSpansModel", "slotOf", "(I)I"⟩, 14) := ⟨⟨by decide +kernel, by decide +kernel⟩, List.mem_of_getElem? (i := 413) (by decide +kernel), List.mem_of_getElem? (i := 485) (by decide +kernel), List.mem_of_getElem? (i := 486) (by decide +kernel)⟩
theorem lw_p15 : lw_okq (⟨"EventSpansModel", "heads0", "()I"⟩, 14) := ⟨⟨by decide +kernel, by decide +kernel⟩, List.mem_of_getElem? (i := 413) (by decide +kernel), List.mem_of_getElem? (i := 499) (by decide +kernel), List.mem_of_getElem? (i := 500) (by decide +kernel)⟩
def lw_privs_1 : List (MethodName × Nat) := [(⟨"EventSpans", "putOnList", "(I)V"⟩, 7), (⟨"EventSpans", "find", "(II)I"⟩, 7), (⟨"java/lang/Throwable", "fillInStackTrace", "(I)Ljava/lang/Throwable;"⟩, 6), (⟨"EventSpans", "isListed", "(I)Z"⟩, 7), (⟨"EventSpans", "takeList", "()[I"⟩, 7), (⟨"EventSpans", "seenFrom", "([I)[I"⟩, 7), (⟨"EventSpans", "spanOf", "(I)LEventSpans$Span;"⟩, 7), (⟨"EventSpans", "holdsAncestor", "([I)Z"⟩, 7), (⟨"EventSpans", "isAncestor", "(II)Z"⟩, 7), (⟨"EventSpans", "endHeads", "([I)V"⟩, 7), (⟨"EventSpans", "newAgent", "(I)LEventSpans$Agent;"⟩, 7), (⟨"EventSpans", "append", "(LEventSpans$Agent;I[I[I)V"⟩, 7), (⟨"EventSpansModel", "parent0", "(II)I"⟩, 14), (⟨"EventSpansModel", "find", "(II)I"⟩, 14), (⟨"EventSpansModel", "slotOf", "(I)I"⟩, 14), (⟨"EventSpansModel", "heads0", "()I"⟩, 14)]
theorem lw_r1 : ∀ q ∈ lw_privs_1, lw_okq q := List.forall_mem_cons.mpr ⟨lw_p0, List.forall_mem_cons.mpr ⟨lw_p1, List.forall_mem_cons.mpr ⟨lw_p2, List.forall_mem_cons.mpr ⟨lw_p3, List.forall_mem_cons.mpr ⟨lw_p4, List.forall_mem_cons.mpr ⟨lw_p5, List.forall_mem_cons.mpr ⟨lw_p6, List.forall_mem_cons.mpr ⟨lw_p7, List.forall_mem_cons.mpr ⟨lw_p8, List.forall_mem_cons.mpr ⟨lw_p9, List.forall_mem_cons.mpr ⟨lw_p10, List.forall_mem_cons.mpr ⟨lw_p11, List.forall_mem_cons.mpr ⟨lw_p12, List.forall_mem_cons.mpr ⟨lw_p13, List.forall_mem_cons.mpr ⟨lw_p14, List.forall_mem_cons.mpr ⟨lw_p15, fun _ h => absurd h List.not_mem_nil⟩⟩⟩⟩⟩⟩⟩⟩⟩⟩⟩⟩⟩⟩⟩⟩
theorem lw_p16 : lw_okq (⟨"EventSpansModel", "headsTo", "([I)I"⟩, 14) := ⟨⟨by decide +kernel, by decide +kernel⟩, List.mem_of_getElem? (i := 413) (by decide +kernel), List.mem_of_getElem? (i := 503) (by decide +kernel), List.mem_of_getElem? (i := 504) (by decide +kernel)⟩
theorem lw_p17 : lw_okq (⟨"EventSpansModel", "isHead", "(I)Z"⟩, 14) := ⟨⟨by decide +kernel, by decide +kernel⟩, List.mem_of_getElem? (i := 413) (by decide +kernel), List.mem_of_getElem? (i := 507) (by decide +kernel), List.mem_of_getElem? (i := 508) (by decide +kernel)⟩
theorem lw_p18 : lw_okq (⟨"EventSpansModel", "isIn", "(II)Z"⟩, 14) := ⟨⟨by decide +kernel, by decide +kernel⟩, List.mem_of_getElem? (i := 413) (by decide +kernel), List.mem_of_getElem? (i := 511) (by decide +kernel), List.mem_of_getElem? (i := 512) (by decide +kernel)⟩
theorem lw_p19 : lw_okq (⟨"EventSpansModel", "add0", "(II)I"⟩, 14) := ⟨⟨by decide +kernel, by decide +kernel⟩, List.mem_of_getElem? (i := 413) (by decide +kernel), List.mem_of_getElem? (i := 520) (by decide +kernel), List.mem_of_getElem? (i := 521) (by decide +kernel)⟩
theorem lw_p20 : lw_okq (⟨"EventSpansModel", "come", "(IIZ)V"⟩, 14) := ⟨⟨by decide +kernel, by decide +kernel⟩, List.mem_of_getElem? (i := 413) (by decide +kernel), List.mem_of_getElem? (i := 525) (by decide +kernel), List.mem_of_getElem? (i := 526) (by decide +kernel)⟩
theorem lw_p21 : lw_okq (⟨"EventSpansModel", "events0", "(I)I"⟩, 14) := ⟨⟨by decide +kernel, by decide +kernel⟩, List.mem_of_getElem? (i := 413) (by decide +kernel), List.mem_of_getElem? (i := 534) (by decide +kernel), List.mem_of_getElem? (i := 535) (by decide +kernel)⟩
theorem lw_p22 : lw_okq (⟨"EventSpansModel", "place0", "(II)I"⟩, 14) := ⟨⟨by decide +kernel, by decide +kernel⟩, List.mem_of_getElem? (i := 413) (by decide +kernel), List.mem_of_getElem? (i := 542) (by decide +kernel), List.mem_of_getElem? (i := 543) (by decide +kernel)⟩
theorem lw_p23 : lw_okq (⟨"EventSpansModel", "id0", "(I)J"⟩, 14) := ⟨⟨by decide +kernel, by decide +kernel⟩, List.mem_of_getElem? (i := 413) (by decide +kernel), List.mem_of_getElem? (i := 550) (by decide +kernel), List.mem_of_getElem? (i := 551) (by decide +kernel)⟩
theorem lw_p24 : lw_okq (⟨"EventSpansModel", "isPlace", "(I)Z"⟩, 14) := ⟨⟨by decide +kernel, by decide +kernel⟩, List.mem_of_getElem? (i := 413) (by decide +kernel), List.mem_of_getElem? (i := 554) (by decide +kernel), List.mem_of_getElem? (i := 555) (by decide +kernel)⟩
theorem lw_p25 : lw_okq (⟨"EventSpansModel", "parentOf0", "(II)I"⟩, 14) := ⟨⟨by decide +kernel, by decide +kernel⟩, List.mem_of_getElem? (i := 413) (by decide +kernel), List.mem_of_getElem? (i := 563) (by decide +kernel), List.mem_of_getElem? (i := 564) (by decide +kernel)⟩
theorem lw_p26 : lw_okq (⟨"EventSpansModel", "related0", "(II)I"⟩, 14) := ⟨⟨by decide +kernel, by decide +kernel⟩, List.mem_of_getElem? (i := 413) (by decide +kernel), List.mem_of_getElem? (i := 571) (by decide +kernel), List.mem_of_getElem? (i := 572) (by decide +kernel)⟩
theorem lw_p27 : lw_okq (⟨"EventSpansModel", "apart0", "(II)I"⟩, 14) := ⟨⟨by decide +kernel, by decide +kernel⟩, List.mem_of_getElem? (i := 413) (by decide +kernel), List.mem_of_getElem? (i := 579) (by decide +kernel), List.mem_of_getElem? (i := 580) (by decide +kernel)⟩
theorem lw_p28 : lw_okq (⟨"EventSpansModel", "latest0", "(III)I"⟩, 14) := ⟨⟨by decide +kernel, by decide +kernel⟩, List.mem_of_getElem? (i := 413) (by decide +kernel), List.mem_of_getElem? (i := 587) (by decide +kernel), List.mem_of_getElem? (i := 588) (by decide +kernel)⟩
theorem lw_p29 : lw_okq (⟨"EventSpansModel", "head0", "(I)I"⟩, 14) := ⟨⟨by decide +kernel, by decide +kernel⟩, List.mem_of_getElem? (i := 413) (by decide +kernel), List.mem_of_getElem? (i := 596) (by decide +kernel), List.mem_of_getElem? (i := 597) (by decide +kernel)⟩
theorem lw_p30 : lw_okq (⟨"EventSpansModel", "critical0", "()I"⟩, 14) := ⟨⟨by decide +kernel, by decide +kernel⟩, List.mem_of_getElem? (i := 413) (by decide +kernel), List.mem_of_getElem? (i := 604) (by decide +kernel), List.mem_of_getElem? (i := 605) (by decide +kernel)⟩
theorem lw_p31 : lw_okq (⟨"EventSpansModel", "isCritical", "(I)Z"⟩, 14) := ⟨⟨by decide +kernel, by decide +kernel⟩, List.mem_of_getElem? (i := 413) (by decide +kernel), List.mem_of_getElem? (i := 608) (by decide +kernel), List.mem_of_getElem? (i := 609) (by decide +kernel)⟩
def lw_privs_2 : List (MethodName × Nat) := [(⟨"EventSpansModel", "headsTo", "([I)I"⟩, 14), (⟨"EventSpansModel", "isHead", "(I)Z"⟩, 14), (⟨"EventSpansModel", "isIn", "(II)Z"⟩, 14), (⟨"EventSpansModel", "add0", "(II)I"⟩, 14), (⟨"EventSpansModel", "come", "(IIZ)V"⟩, 14), (⟨"EventSpansModel", "events0", "(I)I"⟩, 14), (⟨"EventSpansModel", "place0", "(II)I"⟩, 14), (⟨"EventSpansModel", "id0", "(I)J"⟩, 14), (⟨"EventSpansModel", "isPlace", "(I)Z"⟩, 14), (⟨"EventSpansModel", "parentOf0", "(II)I"⟩, 14), (⟨"EventSpansModel", "related0", "(II)I"⟩, 14), (⟨"EventSpansModel", "apart0", "(II)I"⟩, 14), (⟨"EventSpansModel", "latest0", "(III)I"⟩, 14), (⟨"EventSpansModel", "head0", "(I)I"⟩, 14), (⟨"EventSpansModel", "critical0", "()I"⟩, 14), (⟨"EventSpansModel", "isCritical", "(I)Z"⟩, 14)]
theorem lw_r2 : ∀ q ∈ lw_privs_2, lw_okq q := List.forall_mem_cons.mpr ⟨lw_p16, List.forall_mem_cons.mpr ⟨lw_p17, List.forall_mem_cons.mpr ⟨lw_p18, List.forall_mem_cons.mpr ⟨lw_p19, List.forall_mem_cons.mpr ⟨lw_p20, List.forall_mem_cons.mpr ⟨lw_p21, List.forall_mem_cons.mpr ⟨lw_p22, List.forall_mem_cons.mpr ⟨lw_p23, List.forall_mem_cons.mpr ⟨lw_p24, List.forall_mem_cons.mpr ⟨lw_p25, List.forall_mem_cons.mpr ⟨lw_p26, List.forall_mem_cons.mpr ⟨lw_p27, List.forall_mem_cons.mpr ⟨lw_p28, List.forall_mem_cons.mpr ⟨lw_p29, List.forall_mem_cons.mpr ⟨lw_p30, List.forall_mem_cons.mpr ⟨lw_p31, fun _ h => absurd h List.not_mem_nil⟩⟩⟩⟩⟩⟩⟩⟩⟩⟩⟩⟩⟩⟩⟩⟩
theorem lw_p32 : lw_okq (⟨"EventSpansModel", "base0", "(I)I"⟩, 14) := ⟨⟨by decide +kernel, by decide +kernel⟩, List.mem_of_getElem? (i := 413) (by decide +kernel), List.mem_of_getElem? (i := 616) (by decide +kernel), List.mem_of_getElem? (i := 617) (by decide +kernel)⟩
def lw_privs_3 : List (MethodName × Nat) := [(⟨"EventSpansModel", "base0", "(I)I"⟩, 14)]
theorem lw_r3 : ∀ q ∈ lw_privs_3, lw_okq q := List.forall_mem_cons.mpr ⟨lw_p32, fun _ h => absurd h List.not_mem_nil⟩
def lw_privs : List (MethodName × Nat) := lw_privs_1 ++ (lw_privs_2 ++ (lw_privs_3))
def lw_tbl : List Cond := k2_sels lw_privs ++ tables_1
theorem lw_privs_ok : ∀ q ∈ lw_privs, lw_okq q := by
  show ∀ q ∈ lw_privs_1 ++ (lw_privs_2 ++ (lw_privs_3)), lw_okq q
  exact List.forall_mem_append.mpr ⟨lw_r1, List.forall_mem_append.mpr ⟨lw_r2, lw_r3⟩⟩
end
section
/-! names: classes, fields, methods (my own; laid by wip/whole/names.py) -/
def RA : String := "EventSpans$Agent"
def RS : String := "EventSpans$Span"
def RE : String := "EventSpans"
def RM : String := "EventSpansModel"
def RL : String := "EventSpansLaw"
def RJ : String := "java/util/Arrays"
def TA : u_T := fun k => match k with
  | 0 => ("EventSpans$Agent", "name", "I", true)
  | 1 => ("EventSpans$Agent", "slot", "I", true)
  | 2 => ("EventSpans$Agent", "count", "I", false)
  | 3 => ("EventSpans$Agent", "latestPlace", "I", false)
  | 4 => ("EventSpans$Agent", "isHead", "Z", false)
  | _ => ("EventSpans$Agent", "newestSpan", "LEventSpans$Span;", false)
def tyA : Nat → FieldType := fun k => match k with
  | 0 => .int
  | 1 => .int
  | 2 => .int
  | 3 => .int
  | 4 => .boolean
  | _ => .object "EventSpans$Span"
theorem nmA : ∀ a, a < 6 → ∀ b, b < 6 → a ≠ b → (TA a).2.1 ≠ (TA b).2.1 := by decide +kernel
theorem tyA_ok : ∀ k, k < 6 → parseFieldDescriptor (TA k).2.2.1 = some (tyA k) := by decide +kernel
def TS : u_T := fun k => match k with
  | 0 => ("EventSpans$Span", "agent", "LEventSpans$Agent;", true)
  | 1 => ("EventSpans$Span", "first", "I", true)
  | 2 => ("EventSpans$Span", "last", "I", true)
  | 3 => ("EventSpans$Span", "firstNumber", "I", true)
  | 4 => ("EventSpans$Span", "parents", "[I", true)
  | 5 => ("EventSpans$Span", "seen", "[I", true)
  | 6 => ("EventSpans$Span", "seesAllBefore", "Z", true)
  | 7 => ("EventSpans$Span", "before", "LEventSpans$Span;", true)
  | _ => ("EventSpans$Span", "beforeOfAgent", "LEventSpans$Span;", true)
def tyS : Nat → FieldType := fun k => match k with
  | 0 => .object "EventSpans$Agent"
  | 1 => .int
  | 2 => .int
  | 3 => .int
  | 4 => .array .int
  | 5 => .array .int
  | 6 => .boolean
  | 7 => .object "EventSpans$Span"
  | _ => .object "EventSpans$Span"
theorem nmS : ∀ a, a < 9 → ∀ b, b < 9 → a ≠ b → (TS a).2.1 ≠ (TS b).2.1 := by decide +kernel
theorem tyS_ok : ∀ k, k < 9 → parseFieldDescriptor (TS k).2.2.1 = some (tyS k) := by decide +kernel
def TE : u_T := fun k => match k with
  | 0 => ("EventSpans", "agents", "[LEventSpans$Agent;", true)
  | 1 => ("EventSpans", "agentCount", "I", false)
  | 2 => ("EventSpans", "spans", "[LEventSpans$Span;", true)
  | 3 => ("EventSpans", "eventCount", "I", false)
  | 4 => ("EventSpans", "newestSpan", "LEventSpans$Span;", false)
  | 5 => ("EventSpans", "listed", "[I", true)
  | _ => ("EventSpans", "listSize", "I", false)
def tyE : Nat → FieldType := fun k => match k with
  | 0 => .array (.object "EventSpans$Agent")
  | 1 => .int
  | 2 => .array (.object "EventSpans$Span")
  | 3 => .int
  | 4 => .object "EventSpans$Span"
  | 5 => .array .int
  | _ => .int
theorem nmE : ∀ a, a < 7 → ∀ b, b < 7 → a ≠ b → (TE a).2.1 ≠ (TE b).2.1 := by decide +kernel
theorem tyE_ok : ∀ k, k < 7 → parseFieldDescriptor (TE k).2.2.1 = some (tyE k) := by decide +kernel
def TM : u_T := fun k => match k with
  | 0 => ("EventSpansModel", "agents", "[I", true)
  | 1 => ("EventSpansModel", "counts", "[I", true)
  | 2 => ("EventSpansModel", "agentMany", "I", false)
  | 3 => ("EventSpansModel", "at", "[[I", true)
  | 4 => ("EventSpansModel", "slot", "[S", true)
  | 5 => ("EventSpansModel", "number", "[S", true)
  | 6 => ("EventSpansModel", "parentMany", "[S", true)
  | 7 => ("EventSpansModel", "parents", "[S", true)
  | 8 => ("EventSpansModel", "past", "[S", true)
  | 9 => ("EventSpansModel", "events", "I", false)
  | 10 => ("EventSpansModel", "list", "[I", true)
  | 11 => ("EventSpansModel", "listed", "I", false)
  | 12 => ("EventSpansModel", "all", "[I", true)
  | _ => ("EventSpansModel", "thrown", "I", false)
def tyM : Nat → FieldType := fun k => match k with
  | 0 => .array .int
  | 1 => .array .int
  | 2 => .int
  | 3 => .array (.array .int)
  | 4 => .array .short
  | 5 => .array .short
  | 6 => .array .short
  | 7 => .array .short
  | 8 => .array .short
  | 9 => .int
  | 10 => .array .int
  | 11 => .int
  | 12 => .array .int
  | _ => .int
theorem nmM : ∀ a, a < 14 → ∀ b, b < 14 → a ≠ b → (TM a).2.1 ≠ (TM b).2.1 := by decide +kernel
theorem tyM_ok : ∀ k, k < 14 → parseFieldDescriptor (TM k).2.2.1 = some (tyM k) := by decide +kernel
abbrev sp_cl : List vw_C := [(RA, TA, 6), (RS, TS, 9), (RE, TE, 7), (RM, TM, 14)]
abbrev cE_init : ByteArray := prog_1_method_1_code
def yE_init : MethodName := ⟨RE, "<init>", "()V"⟩
abbrev wE_init : Cond := .code yE_init cE_init 1 none
abbrev cE_heads : ByteArray := prog_1_method_3_code
def yE_heads : MethodName := ⟨RE, "heads", "()I"⟩
abbrev wE_heads : Cond := .code yE_heads cE_heads 5 (some .int)
abbrev cE_putOnList : ByteArray := prog_1_method_21_code
def yE_putOnList : MethodName := ⟨RE, "putOnList", "(I)V"⟩
abbrev wE_putOnList : Cond := .code yE_putOnList cE_putOnList 3 none
abbrev cE_critical : ByteArray := prog_1_method_13_code
def yE_critical : MethodName := ⟨RE, "critical", "()I"⟩
abbrev wE_critical : Cond := .code yE_critical cE_critical 5 (some .int)
abbrev cS_newestParent : ByteArray := prog_3_method_7_code
def yS_newestParent : MethodName := ⟨RS, "newestParent", "()I"⟩
abbrev wS_newestParent : Cond := .code yS_newestParent cS_newestParent 1 (some .int)
abbrev cE_base : ByteArray := prog_1_method_14_code
def yE_base : MethodName := ⟨RE, "base", "(I)I"⟩
abbrev wE_base : Cond := .code yE_base cE_base 5 (some .int)
abbrev cE_highestBelow : ByteArray := prog_1_method_16_code
def yE_highestBelow : MethodName := ⟨RE, "highestBelow", "(I)I"⟩
abbrev wE_highestBelow : Cond := .code yE_highestBelow cE_highestBelow 1 (some .int)
abbrev cL_parent : ByteArray := method_3_code
def yL_parent : MethodName := ⟨RL, "parent", "(LEventSpans;II[J)I"⟩
abbrev hhL_parent : List (Nat × Nat × Nat × Nat) := [((0 : Nat), (10 : Nat), (13 : Nat), (13 : Nat)), ((0 : Nat), (10 : Nat), (17 : Nat), (15 : Nat)), ((0 : Nat), (10 : Nat), (21 : Nat), (17 : Nat))]
abbrev wL_parent : Cond := .codeWith yL_parent cL_parent 5 (some .int) hhL_parent
abbrev cE_parent : ByteArray := prog_1_method_2_code
def yE_parent : MethodName := ⟨RE, "parent", "(II)I"⟩
abbrev wE_parent : Cond := .code yE_parent cE_parent 4 (some .int)
abbrev cE_find : ByteArray := prog_1_method_18_code
def yE_find : MethodName := ⟨RE, "find", "(II)I"⟩
abbrev wE_find : Cond := .code yE_find cE_find 4 (some .int)
abbrev cE_isAgentName : ByteArray := prog_1_method_15_code
def yE_isAgentName : MethodName := ⟨RE, "isAgentName", "(I)Z"⟩
abbrev wE_isAgentName : Cond := .code yE_isAgentName cE_isAgentName 1 (some .boolean)
abbrev cS_hasNumber : ByteArray := prog_3_method_5_code
def yS_hasNumber : MethodName := ⟨RS, "hasNumber", "(I)Z"⟩
abbrev wS_hasNumber : Cond := .code yS_hasNumber cS_hasNumber 2 (some .boolean)
abbrev cS_numberAt : ByteArray := prog_3_method_3_code
def yS_numberAt : MethodName := ⟨RS, "numberAt", "(I)I"⟩
abbrev wS_numberAt : Cond := .code yS_numberAt cS_numberAt 2 (some .int)
abbrev cS_placeOfNumber : ByteArray := prog_3_method_4_code
def yS_placeOfNumber : MethodName := ⟨RS, "placeOfNumber", "(I)I"⟩
abbrev wS_placeOfNumber : Cond := .code yS_placeOfNumber cS_placeOfNumber 2 (some .int)
abbrev cE_isListed : ByteArray := prog_1_method_20_code
def yE_isListed : MethodName := ⟨RE, "isListed", "(I)Z"⟩
abbrev wE_isListed : Cond := .code yE_isListed cE_isListed 3 (some .boolean)
abbrev cL_add : ByteArray := method_4_code
def yL_add : MethodName := ⟨RL, "add", "(LEventSpans;II[J)I"⟩
abbrev hhL_add : List (Nat × Nat × Nat × Nat) := [((0 : Nat), (10 : Nat), (13 : Nat), (22 : Nat)), ((0 : Nat), (10 : Nat), (17 : Nat), (15 : Nat)), ((0 : Nat), (10 : Nat), (21 : Nat), (17 : Nat))]
abbrev wL_add : Cond := .codeWith yL_add cL_add 5 (some .int) hhL_add
abbrev cE_add : ByteArray := prog_1_method_4_code
def yE_add : MethodName := ⟨RE, "add", "(II)I"⟩
abbrev wE_add : Cond := .code yE_add cE_add 6 (some .int)
abbrev cE_takeList : ByteArray := prog_1_method_22_code
def yE_takeList : MethodName := ⟨RE, "takeList", "()[I"⟩
abbrev wE_takeList : Cond := .code yE_takeList cE_takeList 2 (some (.array .int))
abbrev cJ_copyOf : ByteArray := prog_15_method_123_code
def yJ_copyOf : MethodName := ⟨RJ, "copyOf", "([II)[I"⟩
abbrev wJ_copyOf : Cond := .code yJ_copyOf cJ_copyOf 3 (some (.array .int))
abbrev cE_seenFrom : ByteArray := prog_1_method_23_code
def yE_seenFrom : MethodName := ⟨RE, "seenFrom", "([I)[I"⟩
abbrev wE_seenFrom : Cond := .code yE_seenFrom cE_seenFrom 9 (some (.array .int))
abbrev cE_spanOf : ByteArray := prog_1_method_17_code
def yE_spanOf : MethodName := ⟨RE, "spanOf", "(I)LEventSpans$Span;"⟩
abbrev wE_spanOf : Cond := .code yE_spanOf cE_spanOf 2 (some (.object "EventSpans$Span"))
abbrev cS_seenAt : ByteArray := prog_3_method_6_code
def yS_seenAt : MethodName := ⟨RS, "seenAt", "(II)I"⟩
abbrev wS_seenAt : Cond := .code yS_seenAt cS_seenAt 3 (some .int)
abbrev cE_holdsAncestor : ByteArray := prog_1_method_24_code
def yE_holdsAncestor : MethodName := ⟨RE, "holdsAncestor", "([I)Z"⟩
abbrev wE_holdsAncestor : Cond := .code yE_holdsAncestor cE_holdsAncestor 10 (some .boolean)
abbrev cE_isAncestor : ByteArray := prog_1_method_19_code
def yE_isAncestor : MethodName := ⟨RE, "isAncestor", "(II)Z"⟩
abbrev wE_isAncestor : Cond := .code yE_isAncestor cE_isAncestor 5 (some .boolean)
abbrev cE_endHeads : ByteArray := prog_1_method_25_code
def yE_endHeads : MethodName := ⟨RE, "endHeads", "([I)V"⟩
abbrev wE_endHeads : Cond := .code yE_endHeads cE_endHeads 7 none
abbrev cE_newAgent : ByteArray := prog_1_method_26_code
def yE_newAgent : MethodName := ⟨RE, "newAgent", "(I)LEventSpans$Agent;"⟩
abbrev wE_newAgent : Cond := .code yE_newAgent cE_newAgent 3 (some (.object "EventSpans$Agent"))
abbrev cA_init : ByteArray := prog_2_method_1_code
def yA_init : MethodName := ⟨RA, "<init>", "(II)V"⟩
abbrev wA_init : Cond := .code yA_init cA_init 3 none
abbrev cE_append : ByteArray := prog_1_method_27_code
def yE_append : MethodName := ⟨RE, "append", "(LEventSpans$Agent;I[I[I)V"⟩
abbrev wE_append : Cond := .code yE_append cE_append 7 none
abbrev cS_init : ByteArray := prog_3_method_1_code
def yS_init : MethodName := ⟨RS, "<init>", "(LEventSpans$Agent;II[I[ILEventSpans$Span;)V"⟩
abbrev wS_init : Cond := .code yS_init cS_init 7 none
abbrev cS_sum : ByteArray := prog_3_method_2_code
def yS_sum : MethodName := ⟨RS, "sum", "([I)I"⟩
abbrev wS_sum : Cond := .code yS_sum cS_sum 6 (some .int)
abbrev cL_events : ByteArray := method_5_code
def yL_events : MethodName := ⟨RL, "events", "(LEventSpans;I[J)I"⟩
abbrev hhL_events : List (Nat × Nat × Nat × Nat) := [((0 : Nat), (9 : Nat), (12 : Nat), (22 : Nat))]
abbrev wL_events : Cond := .codeWith yL_events cL_events 4 (some .int) hhL_events
abbrev cE_events : ByteArray := prog_1_method_5_code
def yE_events : MethodName := ⟨RE, "events", "(I)I"⟩
abbrev wE_events : Cond := .code yE_events cE_events 2 (some .int)
abbrev cL_place : ByteArray := method_6_code
def yL_place : MethodName := ⟨RL, "place", "(LEventSpans;II[J)I"⟩
abbrev hhL_place : List (Nat × Nat × Nat × Nat) := [((0 : Nat), (10 : Nat), (13 : Nat), (13 : Nat))]
abbrev wL_place : Cond := .codeWith yL_place cL_place 5 (some .int) hhL_place
abbrev cE_place : ByteArray := prog_1_method_6_code
def yE_place : MethodName := ⟨RE, "place", "(II)I"⟩
abbrev wE_place : Cond := .code yE_place cE_place 3 (some .int)
abbrev cL_id : ByteArray := method_7_code
def yL_id : MethodName := ⟨RL, "id", "(LEventSpans;I[J)I"⟩
abbrev hhL_id : List (Nat × Nat × Nat × Nat) := [((0 : Nat), (8 : Nat), (11 : Nat), (13 : Nat))]
abbrev wL_id : Cond := .codeWith yL_id cL_id 4 (some .int) hhL_id
abbrev cE_id : ByteArray := prog_1_method_7_code
def yE_id : MethodName := ⟨RE, "id", "(I)J"⟩
abbrev wE_id : Cond := .code yE_id cE_id 3 (some .long)
abbrev cL_parentOf : ByteArray := method_8_code
def yL_parentOf : MethodName := ⟨RL, "parentOf", "(LEventSpans;II[J)I"⟩
abbrev hhL_parentOf : List (Nat × Nat × Nat × Nat) := [((0 : Nat), (10 : Nat), (13 : Nat), (13 : Nat))]
abbrev wL_parentOf : Cond := .codeWith yL_parentOf cL_parentOf 5 (some .int) hhL_parentOf
abbrev cE_parentOf : ByteArray := prog_1_method_8_code
def yE_parentOf : MethodName := ⟨RE, "parentOf", "(II)I"⟩
abbrev wE_parentOf : Cond := .code yE_parentOf cE_parentOf 6 (some .int)
abbrev cL_related : ByteArray := method_9_code
def yL_related : MethodName := ⟨RL, "related", "(LEventSpans;II[J)I"⟩
abbrev hhL_related : List (Nat × Nat × Nat × Nat) := [((0 : Nat), (10 : Nat), (13 : Nat), (13 : Nat))]
abbrev wL_related : Cond := .codeWith yL_related cL_related 5 (some .int) hhL_related
abbrev cE_related : ByteArray := prog_1_method_9_code
def yE_related : MethodName := ⟨RE, "related", "(II)I"⟩
abbrev wE_related : Cond := .code yE_related cE_related 3 (some .int)
abbrev cL_apart : ByteArray := method_10_code
def yL_apart : MethodName := ⟨RL, "apart", "(LEventSpans;II[J)I"⟩
abbrev hhL_apart : List (Nat × Nat × Nat × Nat) := [((0 : Nat), (10 : Nat), (13 : Nat), (13 : Nat))]
abbrev wL_apart : Cond := .codeWith yL_apart cL_apart 5 (some .int) hhL_apart
abbrev cE_apart : ByteArray := prog_1_method_10_code
def yE_apart : MethodName := ⟨RE, "apart", "(II)I"⟩
abbrev wE_apart : Cond := .code yE_apart cE_apart 7 (some .int)
abbrev cL_latest : ByteArray := method_11_code
def yL_latest : MethodName := ⟨RL, "latest", "(LEventSpans;III[J)I"⟩
abbrev hhL_latest : List (Nat × Nat × Nat × Nat) := [((0 : Nat), (12 : Nat), (15 : Nat), (13 : Nat))]
abbrev wL_latest : Cond := .codeWith yL_latest cL_latest 6 (some .int) hhL_latest
abbrev cE_latest : ByteArray := prog_1_method_11_code
def yE_latest : MethodName := ⟨RE, "latest", "(III)I"⟩
abbrev wE_latest : Cond := .code yE_latest cE_latest 12 (some .int)
abbrev cL_head : ByteArray := method_12_code
def yL_head : MethodName := ⟨RL, "head", "(LEventSpans;I[J)I"⟩
abbrev hhL_head : List (Nat × Nat × Nat × Nat) := [((0 : Nat), (9 : Nat), (12 : Nat), (13 : Nat))]
abbrev wL_head : Cond := .codeWith yL_head cL_head 4 (some .int) hhL_head
abbrev cE_head : ByteArray := prog_1_method_12_code
def yE_head : MethodName := ⟨RE, "head", "(I)I"⟩
abbrev wE_head : Cond := .code yE_head cE_head 7 (some .int)
abbrev cM_init : ByteArray := prog_5_method_1_code
def yM_init : MethodName := ⟨RM, "<init>", "()V"⟩
abbrev wM_init : Cond := .code yM_init cM_init 1 none
abbrev cM_thrown : ByteArray := prog_5_method_24_code
def yM_thrown : MethodName := ⟨RM, "thrown", "()I"⟩
abbrev wM_thrown : Cond := .code yM_thrown cM_thrown 1 (some .int)
abbrev cM_parent : ByteArray := prog_5_method_25_code
def yM_parent : MethodName := ⟨RM, "parent", "(II)I"⟩
abbrev hhM_parent : List (Nat × Nat × Nat × Nat) := [((5 : Nat), (11 : Nat), (12 : Nat), (44 : Nat)), ((5 : Nat), (11 : Nat), (21 : Nat), (69 : Nat)), ((5 : Nat), (11 : Nat), (30 : Nat), (72 : Nat))]
abbrev wM_parent : Cond := .codeWith yM_parent cM_parent 4 (some .int) hhM_parent
abbrev cM_parent0 : ByteArray := prog_5_method_7_code
def yM_parent0 : MethodName := ⟨RM, "parent0", "(II)I"⟩
abbrev wM_parent0 : Cond := .code yM_parent0 cM_parent0 5 (some .int)
abbrev cM_find : ByteArray := prog_5_method_4_code
def yM_find : MethodName := ⟨RM, "find", "(II)I"⟩
abbrev wM_find : Cond := .code yM_find cM_find 4 (some .int)
abbrev cM_slotOf : ByteArray := prog_5_method_3_code
def yM_slotOf : MethodName := ⟨RM, "slotOf", "(I)I"⟩
abbrev wM_slotOf : Cond := .code yM_slotOf cM_slotOf 3 (some .int)
abbrev cM_there : ByteArray := prog_5_method_2_code
def yM_there : MethodName := ⟨RM, "there", "(Z)V"⟩
abbrev wM_there : Cond := .code yM_there cM_there 1 none
abbrev cM_heads : ByteArray := prog_5_method_26_code
def yM_heads : MethodName := ⟨RM, "heads", "()I"⟩
abbrev wM_heads : Cond := .code yM_heads cM_heads 1 (some .int)
abbrev cM_heads0 : ByteArray := prog_5_method_10_code
def yM_heads0 : MethodName := ⟨RM, "heads0", "()I"⟩
abbrev wM_heads0 : Cond := .code yM_heads0 cM_heads0 1 (some .int)
abbrev cM_headsTo : ByteArray := prog_5_method_9_code
def yM_headsTo : MethodName := ⟨RM, "headsTo", "([I)I"⟩
abbrev wM_headsTo : Cond := .code yM_headsTo cM_headsTo 6 (some .int)
abbrev cM_isHead : ByteArray := prog_5_method_8_code
def yM_isHead : MethodName := ⟨RM, "isHead", "(I)Z"⟩
abbrev wM_isHead : Cond := .code yM_isHead cM_isHead 4 (some .boolean)
abbrev cM_isIn : ByteArray := prog_5_method_5_code
def yM_isIn : MethodName := ⟨RM, "isIn", "(II)Z"⟩
abbrev wM_isIn : Cond := .code yM_isIn cM_isIn 3 (some .boolean)
abbrev cM_add : ByteArray := prog_5_method_27_code
def yM_add : MethodName := ⟨RM, "add", "(II)I"⟩
abbrev hhM_add : List (Nat × Nat × Nat × Nat) := [((5 : Nat), (11 : Nat), (12 : Nat), (87 : Nat)), ((5 : Nat), (11 : Nat), (21 : Nat), (69 : Nat)), ((5 : Nat), (11 : Nat), (30 : Nat), (72 : Nat))]
abbrev wM_add : Cond := .codeWith yM_add cM_add 4 (some .int) hhM_add
abbrev cM_add0 : ByteArray := prog_5_method_11_code
def yM_add0 : MethodName := ⟨RM, "add0", "(II)I"⟩
abbrev wM_add0 : Cond := .code yM_add0 cM_add0 7 (some .int)
abbrev cM_come : ByteArray := prog_5_method_12_code
def yM_come : MethodName := ⟨RM, "come", "(IIZ)V"⟩
abbrev wM_come : Cond := .code yM_come cM_come 9 none
abbrev cM_events : ByteArray := prog_5_method_28_code
def yM_events : MethodName := ⟨RM, "events", "(I)I"⟩
abbrev hhM_events : List (Nat × Nat × Nat × Nat) := [((5 : Nat), (10 : Nat), (11 : Nat), (87 : Nat))]
abbrev wM_events : Cond := .codeWith yM_events cM_events 3 (some .int) hhM_events
abbrev cM_events0 : ByteArray := prog_5_method_13_code
def yM_events0 : MethodName := ⟨RM, "events0", "(I)I"⟩
abbrev wM_events0 : Cond := .code yM_events0 cM_events0 3 (some .int)
abbrev cM_place : ByteArray := prog_5_method_29_code
def yM_place : MethodName := ⟨RM, "place", "(II)I"⟩
abbrev hhM_place : List (Nat × Nat × Nat × Nat) := [((5 : Nat), (11 : Nat), (12 : Nat), (44 : Nat))]
abbrev wM_place : Cond := .codeWith yM_place cM_place 4 (some .int) hhM_place
abbrev cM_place0 : ByteArray := prog_5_method_14_code
def yM_place0 : MethodName := ⟨RM, "place0", "(II)I"⟩
abbrev wM_place0 : Cond := .code yM_place0 cM_place0 4 (some .int)
abbrev cM_id : ByteArray := prog_5_method_30_code
def yM_id : MethodName := ⟨RM, "id", "(I)J"⟩
abbrev hhM_id : List (Nat × Nat × Nat × Nat) := [((5 : Nat), (10 : Nat), (11 : Nat), (44 : Nat))]
abbrev wM_id : Cond := .codeWith yM_id cM_id 3 (some .long) hhM_id
abbrev cM_id0 : ByteArray := prog_5_method_15_code
def yM_id0 : MethodName := ⟨RM, "id0", "(I)J"⟩
abbrev wM_id0 : Cond := .code yM_id0 cM_id0 2 (some .long)
abbrev cM_isPlace : ByteArray := prog_5_method_6_code
def yM_isPlace : MethodName := ⟨RM, "isPlace", "(I)Z"⟩
abbrev wM_isPlace : Cond := .code yM_isPlace cM_isPlace 2 (some .boolean)
abbrev cM_parentOf : ByteArray := prog_5_method_31_code
def yM_parentOf : MethodName := ⟨RM, "parentOf", "(II)I"⟩
abbrev hhM_parentOf : List (Nat × Nat × Nat × Nat) := [((5 : Nat), (11 : Nat), (12 : Nat), (44 : Nat))]
abbrev wM_parentOf : Cond := .codeWith yM_parentOf cM_parentOf 4 (some .int) hhM_parentOf
abbrev cM_parentOf0 : ByteArray := prog_5_method_16_code
def yM_parentOf0 : MethodName := ⟨RM, "parentOf0", "(II)I"⟩
abbrev wM_parentOf0 : Cond := .code yM_parentOf0 cM_parentOf0 3 (some .int)
abbrev cM_related : ByteArray := prog_5_method_32_code
def yM_related : MethodName := ⟨RM, "related", "(II)I"⟩
abbrev hhM_related : List (Nat × Nat × Nat × Nat) := [((5 : Nat), (11 : Nat), (12 : Nat), (44 : Nat))]
abbrev wM_related : Cond := .codeWith yM_related cM_related 4 (some .int) hhM_related
abbrev cM_related0 : ByteArray := prog_5_method_17_code
def yM_related0 : MethodName := ⟨RM, "related0", "(II)I"⟩
abbrev wM_related0 : Cond := .code yM_related0 cM_related0 3 (some .int)
abbrev cM_apart : ByteArray := prog_5_method_33_code
def yM_apart : MethodName := ⟨RM, "apart", "(II)I"⟩
abbrev hhM_apart : List (Nat × Nat × Nat × Nat) := [((5 : Nat), (11 : Nat), (12 : Nat), (44 : Nat))]
abbrev wM_apart : Cond := .codeWith yM_apart cM_apart 4 (some .int) hhM_apart
abbrev cM_apart0 : ByteArray := prog_5_method_18_code
def yM_apart0 : MethodName := ⟨RM, "apart0", "(II)I"⟩
abbrev wM_apart0 : Cond := .code yM_apart0 cM_apart0 5 (some .int)
abbrev cM_latest : ByteArray := prog_5_method_34_code
def yM_latest : MethodName := ⟨RM, "latest", "(III)I"⟩
abbrev hhM_latest : List (Nat × Nat × Nat × Nat) := [((5 : Nat), (12 : Nat), (13 : Nat), (44 : Nat))]
abbrev wM_latest : Cond := .codeWith yM_latest cM_latest 5 (some .int) hhM_latest
abbrev cM_latest0 : ByteArray := prog_5_method_19_code
def yM_latest0 : MethodName := ⟨RM, "latest0", "(III)I"⟩
abbrev wM_latest0 : Cond := .code yM_latest0 cM_latest0 5 (some .int)
abbrev cM_head : ByteArray := prog_5_method_35_code
def yM_head : MethodName := ⟨RM, "head", "(I)I"⟩
abbrev hhM_head : List (Nat × Nat × Nat × Nat) := [((5 : Nat), (10 : Nat), (11 : Nat), (44 : Nat))]
abbrev wM_head : Cond := .codeWith yM_head cM_head 3 (some .int) hhM_head
abbrev cM_head0 : ByteArray := prog_5_method_20_code
def yM_head0 : MethodName := ⟨RM, "head0", "(I)I"⟩
abbrev wM_head0 : Cond := .code yM_head0 cM_head0 3 (some .int)
abbrev cM_critical : ByteArray := prog_5_method_36_code
def yM_critical : MethodName := ⟨RM, "critical", "()I"⟩
abbrev wM_critical : Cond := .code yM_critical cM_critical 1 (some .int)
abbrev cM_critical0 : ByteArray := prog_5_method_22_code
def yM_critical0 : MethodName := ⟨RM, "critical0", "()I"⟩
abbrev wM_critical0 : Cond := .code yM_critical0 cM_critical0 3 (some .int)
abbrev cM_isCritical : ByteArray := prog_5_method_21_code
def yM_isCritical : MethodName := ⟨RM, "isCritical", "(I)Z"⟩
abbrev wM_isCritical : Cond := .code yM_isCritical cM_isCritical 4 (some .boolean)
abbrev cM_base : ByteArray := prog_5_method_37_code
def yM_base : MethodName := ⟨RM, "base", "(I)I"⟩
abbrev wM_base : Cond := .code yM_base cM_base 2 (some .int)
abbrev cM_base0 : ByteArray := prog_5_method_23_code
def yM_base0 : MethodName := ⟨RM, "base0", "(I)I"⟩
abbrev wM_base0 : Cond := .code yM_base0 cM_base0 3 (some .int)
/-- the tables' words that go with every call -/
def sp_wa : List Cond := lw_tbl.filter goodWord
def sp_fw : Cond → Bool
  | .castable .. | .declares _ => true
  | _ => false
/-- words that are carried as facts of a state -/
def sp_tw : List Cond := lw_tbl.filter sp_fw
def sp_nc : List (String × String) := [("EventSpans", "java/util/NoSuchElementException"), ("EventSpansModel", "java/util/NoSuchElementException"), ("java/lang/UnsupportedOperationException", "java/util/NoSuchElementException"), ("java/lang/IllegalStateException", "java/util/NoSuchElementException"), ("java/lang/IllegalArgumentException", "java/util/NoSuchElementException"), ("EventSpans$Agent", "java/util/NoSuchElementException"), ("EventSpans$Span", "java/util/NoSuchElementException"), ("EventSpans", "java/lang/UnsupportedOperationException"), ("EventSpansModel", "java/lang/UnsupportedOperationException"), ("java/util/NoSuchElementException", "java/lang/UnsupportedOperationException"), ("java/lang/IllegalStateException", "java/lang/UnsupportedOperationException"), ("java/lang/IllegalArgumentException", "java/lang/UnsupportedOperationException"), ("EventSpans$Agent", "java/lang/UnsupportedOperationException"), ("EventSpans$Span", "java/lang/UnsupportedOperationException"), ("EventSpans", "java/lang/IllegalStateException"), ("EventSpansModel", "java/lang/IllegalStateException"), ("java/util/NoSuchElementException", "java/lang/IllegalStateException"), ("java/lang/UnsupportedOperationException", "java/lang/IllegalStateException"), ("java/lang/IllegalArgumentException", "java/lang/IllegalStateException"), ("EventSpans$Agent", "java/lang/IllegalStateException"), ("EventSpans$Span", "java/lang/IllegalStateException"), ("EventSpans", "java/lang/IllegalArgumentException"), ("EventSpansModel", "java/lang/IllegalArgumentException"), ("java/util/NoSuchElementException", "java/lang/IllegalArgumentException"), ("java/lang/UnsupportedOperationException", "java/lang/IllegalArgumentException"), ("java/lang/IllegalStateException", "java/lang/IllegalArgumentException"), ("EventSpans$Agent", "java/lang/IllegalArgumentException"), ("EventSpans$Span", "java/lang/IllegalArgumentException")]
theorem sp_in {i : Nat} {w : Cond} (h : lw_tbl[i]? = some w) (hg : goodWord w = true) : w ∈ sp_wa := List.mem_filter.mpr ⟨List.mem_of_getElem? h, hg⟩
theorem sp_int {i : Nat} {w : Cond} (h : lw_tbl[i]? = some w) (hg : sp_fw w = true) : w ∈ sp_tw := List.mem_filter.mpr ⟨List.mem_of_getElem? h, hg⟩
theorem inA : ∀ w ∈ u_ws RA TA 6, w ∈ sp_wa := by decide +kernel
theorem inS : ∀ w ∈ u_ws RS TS 9, w ∈ sp_wa := by decide +kernel
theorem inE : ∀ w ∈ u_ws RE TE 7, w ∈ sp_wa := by decide +kernel
theorem inM : ∀ w ∈ u_ws RM TM 14, w ∈ sp_wa := by decide +kernel
end
section
theorem dE_init_0 : decode cE_init 0 = .ok (.aload_n 0, 1) := by decide +kernel
theorem dE_init_1 : decode cE_init 1 = .ok (.invokespecial 1, 3) := by decide +kernel
theorem dE_init_4 : decode cE_init 4 = .ok (.aload_n 0, 1) := by decide +kernel
theorem dE_init_5 : decode cE_init 5 = .ok (.sipush 256, 3) := by decide +kernel
theorem dE_init_8 : decode cE_init 8 = .ok (.anewarray 9, 3) := by decide +kernel
theorem dE_init_11 : decode cE_init 11 = .ok (.putfield 11, 3) := by decide +kernel
theorem dE_init_14 : decode cE_init 14 = .ok (.aload_n 0, 1) := by decide +kernel
theorem dE_init_15 : decode cE_init 15 = .ok (.iconst 0, 1) := by decide +kernel
theorem dE_init_16 : decode cE_init 16 = .ok (.putfield 15, 3) := by decide +kernel
theorem dE_init_19 : decode cE_init 19 = .ok (.aload_n 0, 1) := by decide +kernel
theorem dE_init_20 : decode cE_init 20 = .ok (.sipush 8192, 3) := by decide +kernel
theorem dE_init_23 : decode cE_init 23 = .ok (.anewarray 19, 3) := by decide +kernel
theorem dE_init_26 : decode cE_init 26 = .ok (.putfield 21, 3) := by decide +kernel
theorem dE_init_29 : decode cE_init 29 = .ok (.aload_n 0, 1) := by decide +kernel
theorem dE_init_30 : decode cE_init 30 = .ok (.iconst 0, 1) := by decide +kernel
theorem dE_init_31 : decode cE_init 31 = .ok (.putfield 25, 3) := by decide +kernel
theorem dE_init_34 : decode cE_init 34 = .ok (.aload_n 0, 1) := by decide +kernel
theorem dE_init_35 : decode cE_init 35 = .ok (.aconst_null, 1) := by decide +kernel
theorem dE_init_36 : decode cE_init 36 = .ok (.putfield 28, 3) := by decide +kernel
theorem dE_init_39 : decode cE_init 39 = .ok (.aload_n 0, 1) := by decide +kernel
theorem dE_init_40 : decode cE_init 40 = .ok (.bipush 16, 2) := by decide +kernel
theorem dE_init_42 : decode cE_init 42 = .ok (.newarray .int, 2) := by decide +kernel
theorem dE_init_44 : decode cE_init 44 = .ok (.putfield 32, 3) := by decide +kernel
theorem dE_init_47 : decode cE_init 47 = .ok (.aload_n 0, 1) := by decide +kernel
theorem dE_init_48 : decode cE_init 48 = .ok (.iconst 0, 1) := by decide +kernel
theorem dE_init_49 : decode cE_init 49 = .ok (.putfield 36, 3) := by decide +kernel
theorem dE_init_52 : decode cE_init 52 = .ok (.return_, 1) := by decide +kernel
theorem dE_heads_0 : decode cE_heads 0 = .ok (.aload_n 0, 1) := by decide +kernel
theorem dE_heads_1 : decode cE_heads 1 = .ok (.iconst 0, 1) := by decide +kernel
theorem dE_heads_2 : decode cE_heads 2 = .ok (.putfield 36, 3) := by decide +kernel
theorem dE_heads_5 : decode cE_heads 5 = .ok (.aload_n 0, 1) := by decide +kernel
theorem dE_heads_6 : decode cE_heads 6 = .ok (.getfield 11, 3) := by decide +kernel
theorem dE_heads_9 : decode cE_heads 9 = .ok (.astore_n 1, 1) := by decide +kernel
theorem dE_heads_10 : decode cE_heads 10 = .ok (.aload_n 1, 1) := by decide +kernel
theorem dE_heads_11 : decode cE_heads 11 = .ok (.arraylength, 1) := by decide +kernel
theorem dE_heads_12 : decode cE_heads 12 = .ok (.istore_n 2, 1) := by decide +kernel
theorem dE_heads_13 : decode cE_heads 13 = .ok (.iconst 0, 1) := by decide +kernel
theorem dE_heads_14 : decode cE_heads 14 = .ok (.istore_n 3, 1) := by decide +kernel
theorem dE_heads_15 : decode cE_heads 15 = .ok (.iload_n 3, 1) := by decide +kernel
theorem dE_heads_16 : decode cE_heads 16 = .ok (.iload_n 2, 1) := by decide +kernel
theorem dE_heads_17 : decode cE_heads 17 = .ok (.if_icmp .ge 36, 3) := by decide +kernel
theorem dE_heads_20 : decode cE_heads 20 = .ok (.aload_n 1, 1) := by decide +kernel
theorem dE_heads_21 : decode cE_heads 21 = .ok (.iload_n 3, 1) := by decide +kernel
theorem dE_heads_22 : decode cE_heads 22 = .ok (.aaload, 1) := by decide +kernel
theorem dE_heads_23 : decode cE_heads 23 = .ok (.astore 4, 2) := by decide +kernel
theorem dE_heads_25 : decode cE_heads 25 = .ok (.aload 4, 2) := by decide +kernel
theorem dE_heads_27 : decode cE_heads 27 = .ok (.ifnull 20, 3) := by decide +kernel
theorem dE_heads_30 : decode cE_heads 30 = .ok (.aload 4, 2) := by decide +kernel
theorem dE_heads_32 : decode cE_heads 32 = .ok (.getfield 57, 3) := by decide +kernel
theorem dE_heads_35 : decode cE_heads 35 = .ok (.ifCond .eq 12, 3) := by decide +kernel
theorem dE_heads_38 : decode cE_heads 38 = .ok (.aload_n 0, 1) := by decide +kernel
theorem dE_heads_39 : decode cE_heads 39 = .ok (.aload 4, 2) := by decide +kernel
theorem dE_heads_41 : decode cE_heads 41 = .ok (.getfield 61, 3) := by decide +kernel
theorem dE_heads_44 : decode cE_heads 44 = .ok (.invokevirtual 53, 3) := by decide +kernel
theorem dE_heads_47 : decode cE_heads 47 = .ok (.iinc 3 1, 3) := by decide +kernel
theorem dE_heads_50 : decode cE_heads 50 = .ok (.goto (-35), 3) := by decide +kernel
theorem dE_heads_53 : decode cE_heads 53 = .ok (.aload_n 0, 1) := by decide +kernel
theorem dE_heads_54 : decode cE_heads 54 = .ok (.getfield 36, 3) := by decide +kernel
theorem dE_heads_57 : decode cE_heads 57 = .ok (.ireturn, 1) := by decide +kernel
theorem dE_putOnList_0 : decode cE_putOnList 0 = .ok (.aload_n 0, 1) := by decide +kernel
theorem dE_putOnList_1 : decode cE_putOnList 1 = .ok (.getfield 36, 3) := by decide +kernel
theorem dE_putOnList_4 : decode cE_putOnList 4 = .ok (.bipush 16, 2) := by decide +kernel
theorem dE_putOnList_6 : decode cE_putOnList 6 = .ok (.if_icmp .lt 4, 3) := by decide +kernel
theorem dE_putOnList_9 : decode cE_putOnList 9 = .ok (.return_, 1) := by decide +kernel
theorem dE_putOnList_10 : decode cE_putOnList 10 = .ok (.aload_n 0, 1) := by decide +kernel
theorem dE_putOnList_11 : decode cE_putOnList 11 = .ok (.getfield 36, 3) := by decide +kernel
theorem dE_putOnList_14 : decode cE_putOnList 14 = .ok (.istore_n 2, 1) := by decide +kernel
theorem dE_putOnList_15 : decode cE_putOnList 15 = .ok (.iload_n 2, 1) := by decide +kernel
theorem dE_putOnList_16 : decode cE_putOnList 16 = .ok (.ifCond .le 35, 3) := by decide +kernel
theorem dE_putOnList_19 : decode cE_putOnList 19 = .ok (.aload_n 0, 1) := by decide +kernel
theorem dE_putOnList_20 : decode cE_putOnList 20 = .ok (.getfield 32, 3) := by decide +kernel
theorem dE_putOnList_23 : decode cE_putOnList 23 = .ok (.iload_n 2, 1) := by decide +kernel
theorem dE_putOnList_24 : decode cE_putOnList 24 = .ok (.iconst 1, 1) := by decide +kernel
theorem dE_putOnList_25 : decode cE_putOnList 25 = .ok (.isub, 1) := by decide +kernel
theorem dE_putOnList_26 : decode cE_putOnList 26 = .ok (.iaload, 1) := by decide +kernel
theorem dE_putOnList_27 : decode cE_putOnList 27 = .ok (.iload_n 1, 1) := by decide +kernel
theorem dE_putOnList_28 : decode cE_putOnList 28 = .ok (.if_icmp .le 23, 3) := by decide +kernel
theorem dE_putOnList_31 : decode cE_putOnList 31 = .ok (.aload_n 0, 1) := by decide +kernel
theorem dE_putOnList_32 : decode cE_putOnList 32 = .ok (.getfield 32, 3) := by decide +kernel
theorem dE_putOnList_35 : decode cE_putOnList 35 = .ok (.iload_n 2, 1) := by decide +kernel
theorem dE_putOnList_36 : decode cE_putOnList 36 = .ok (.aload_n 0, 1) := by decide +kernel
theorem dE_putOnList_37 : decode cE_putOnList 37 = .ok (.getfield 32, 3) := by decide +kernel
theorem dE_putOnList_40 : decode cE_putOnList 40 = .ok (.iload_n 2, 1) := by decide +kernel
theorem dE_putOnList_41 : decode cE_putOnList 41 = .ok (.iconst 1, 1) := by decide +kernel
theorem dE_putOnList_42 : decode cE_putOnList 42 = .ok (.isub, 1) := by decide +kernel
theorem dE_putOnList_43 : decode cE_putOnList 43 = .ok (.iaload, 1) := by decide +kernel
theorem dE_putOnList_44 : decode cE_putOnList 44 = .ok (.iastore, 1) := by decide +kernel
theorem dE_putOnList_45 : decode cE_putOnList 45 = .ok (.iinc 2 (-1), 3) := by decide +kernel
theorem dE_putOnList_48 : decode cE_putOnList 48 = .ok (.goto (-33), 3) := by decide +kernel
theorem dE_putOnList_51 : decode cE_putOnList 51 = .ok (.aload_n 0, 1) := by decide +kernel
theorem dE_putOnList_52 : decode cE_putOnList 52 = .ok (.getfield 32, 3) := by decide +kernel
theorem dE_putOnList_55 : decode cE_putOnList 55 = .ok (.iload_n 2, 1) := by decide +kernel
theorem dE_putOnList_56 : decode cE_putOnList 56 = .ok (.iload_n 1, 1) := by decide +kernel
theorem dE_putOnList_57 : decode cE_putOnList 57 = .ok (.iastore, 1) := by decide +kernel
theorem dE_putOnList_58 : decode cE_putOnList 58 = .ok (.aload_n 0, 1) := by decide +kernel
theorem dE_putOnList_59 : decode cE_putOnList 59 = .ok (.dup, 1) := by decide +kernel
theorem dE_putOnList_60 : decode cE_putOnList 60 = .ok (.getfield 36, 3) := by decide +kernel
theorem dE_putOnList_63 : decode cE_putOnList 63 = .ok (.iconst 1, 1) := by decide +kernel
theorem dE_putOnList_64 : decode cE_putOnList 64 = .ok (.iadd, 1) := by decide +kernel
theorem dE_putOnList_65 : decode cE_putOnList 65 = .ok (.putfield 36, 3) := by decide +kernel
theorem dE_putOnList_68 : decode cE_putOnList 68 = .ok (.return_, 1) := by decide +kernel
theorem dE_critical_0 : decode cE_critical 0 = .ok (.iconst 0, 1) := by decide +kernel
theorem dE_critical_1 : decode cE_critical 1 = .ok (.istore_n 1, 1) := by decide +kernel
theorem dE_critical_2 : decode cE_critical 2 = .ok (.aload_n 0, 1) := by decide +kernel
theorem dE_critical_3 : decode cE_critical 3 = .ok (.getfield 25, 3) := by decide +kernel
theorem dE_critical_6 : decode cE_critical 6 = .ok (.istore_n 2, 1) := by decide +kernel
theorem dE_critical_7 : decode cE_critical 7 = .ok (.aload_n 0, 1) := by decide +kernel
theorem dE_critical_8 : decode cE_critical 8 = .ok (.getfield 28, 3) := by decide +kernel
theorem dE_critical_11 : decode cE_critical 11 = .ok (.astore_n 3, 1) := by decide +kernel
theorem dE_critical_12 : decode cE_critical 12 = .ok (.aload_n 3, 1) := by decide +kernel
theorem dE_critical_13 : decode cE_critical 13 = .ok (.ifnull 58, 3) := by decide +kernel
theorem dE_critical_16 : decode cE_critical 16 = .ok (.iload_n 2, 1) := by decide +kernel
theorem dE_critical_17 : decode cE_critical 17 = .ok (.aload_n 3, 1) := by decide +kernel
theorem dE_critical_18 : decode cE_critical 18 = .ok (.getfield 142, 3) := by decide +kernel
theorem dE_critical_21 : decode cE_critical 21 = .ok (.invokestatic 145, 3) := by decide +kernel
theorem dE_critical_24 : decode cE_critical 24 = .ok (.istore 4, 2) := by decide +kernel
theorem dE_critical_26 : decode cE_critical 26 = .ok (.aload_n 3, 1) := by decide +kernel
theorem dE_critical_27 : decode cE_critical 27 = .ok (.getfield 151, 3) := by decide +kernel
theorem dE_critical_30 : decode cE_critical 30 = .ok (.ifCond .eq 24, 3) := by decide +kernel
theorem dE_critical_33 : decode cE_critical 33 = .ok (.iload 4, 2) := by decide +kernel
theorem dE_critical_35 : decode cE_critical 35 = .ok (.aload_n 3, 1) := by decide +kernel
theorem dE_critical_36 : decode cE_critical 36 = .ok (.getfield 115, 3) := by decide +kernel
theorem dE_critical_39 : decode cE_critical 39 = .ok (.if_icmp .lt 15, 3) := by decide +kernel
theorem dE_critical_42 : decode cE_critical 42 = .ok (.iload_n 1, 1) := by decide +kernel
theorem dE_critical_43 : decode cE_critical 43 = .ok (.iload 4, 2) := by decide +kernel
theorem dE_critical_45 : decode cE_critical 45 = .ok (.aload_n 3, 1) := by decide +kernel
theorem dE_critical_46 : decode cE_critical 46 = .ok (.getfield 115, 3) := by decide +kernel
theorem dE_critical_49 : decode cE_critical 49 = .ok (.isub, 1) := by decide +kernel
theorem dE_critical_50 : decode cE_critical 50 = .ok (.iconst 1, 1) := by decide +kernel
theorem dE_critical_51 : decode cE_critical 51 = .ok (.iadd, 1) := by decide +kernel
theorem dE_critical_52 : decode cE_critical 52 = .ok (.iadd, 1) := by decide +kernel
theorem dE_critical_53 : decode cE_critical 53 = .ok (.istore_n 1, 1) := by decide +kernel
theorem dE_critical_54 : decode cE_critical 54 = .ok (.iload_n 2, 1) := by decide +kernel
theorem dE_critical_55 : decode cE_critical 55 = .ok (.aload_n 3, 1) := by decide +kernel
theorem dE_critical_56 : decode cE_critical 56 = .ok (.invokevirtual 154, 3) := by decide +kernel
theorem dE_critical_59 : decode cE_critical 59 = .ok (.invokestatic 145, 3) := by decide +kernel
theorem dE_critical_62 : decode cE_critical 62 = .ok (.istore_n 2, 1) := by decide +kernel
theorem dE_critical_63 : decode cE_critical 63 = .ok (.aload_n 3, 1) := by decide +kernel
theorem dE_critical_64 : decode cE_critical 64 = .ok (.getfield 148, 3) := by decide +kernel
theorem dE_critical_67 : decode cE_critical 67 = .ok (.astore_n 3, 1) := by decide +kernel
theorem dE_critical_68 : decode cE_critical 68 = .ok (.goto (-56), 3) := by decide +kernel
theorem dE_critical_71 : decode cE_critical 71 = .ok (.iload_n 1, 1) := by decide +kernel
theorem dE_critical_72 : decode cE_critical 72 = .ok (.ireturn, 1) := by decide +kernel
theorem dS_newestParent_0 : decode cS_newestParent 0 = .ok (.aload_n 0, 1) := by decide +kernel
theorem dS_newestParent_1 : decode cS_newestParent 1 = .ok (.getfield 28, 3) := by decide +kernel
theorem dS_newestParent_4 : decode cS_newestParent 4 = .ok (.arraylength, 1) := by decide +kernel
theorem dS_newestParent_5 : decode cS_newestParent 5 = .ok (.ifCond .ne 7, 3) := by decide +kernel
theorem dS_newestParent_8 : decode cS_newestParent 8 = .ok (.iconst (-1), 1) := by decide +kernel
theorem dS_newestParent_9 : decode cS_newestParent 9 = .ok (.goto 15, 3) := by decide +kernel
theorem dS_newestParent_12 : decode cS_newestParent 12 = .ok (.aload_n 0, 1) := by decide +kernel
theorem dS_newestParent_13 : decode cS_newestParent 13 = .ok (.getfield 28, 3) := by decide +kernel
theorem dS_newestParent_16 : decode cS_newestParent 16 = .ok (.aload_n 0, 1) := by decide +kernel
theorem dS_newestParent_17 : decode cS_newestParent 17 = .ok (.getfield 28, 3) := by decide +kernel
theorem dS_newestParent_20 : decode cS_newestParent 20 = .ok (.arraylength, 1) := by decide +kernel
theorem dS_newestParent_21 : decode cS_newestParent 21 = .ok (.iconst 1, 1) := by decide +kernel
theorem dS_newestParent_22 : decode cS_newestParent 22 = .ok (.isub, 1) := by decide +kernel
theorem dS_newestParent_23 : decode cS_newestParent 23 = .ok (.iaload, 1) := by decide +kernel
theorem dS_newestParent_24 : decode cS_newestParent 24 = .ok (.ireturn, 1) := by decide +kernel
theorem dE_base_0 : decode cE_base 0 = .ok (.iload_n 1, 1) := by decide +kernel
theorem dE_base_1 : decode cE_base 1 = .ok (.invokestatic 136, 3) := by decide +kernel
theorem dE_base_4 : decode cE_base 4 = .ok (.istore_n 2, 1) := by decide +kernel
theorem dE_base_5 : decode cE_base 5 = .ok (.aload_n 0, 1) := by decide +kernel
theorem dE_base_6 : decode cE_base 6 = .ok (.getfield 28, 3) := by decide +kernel
theorem dE_base_9 : decode cE_base 9 = .ok (.astore_n 3, 1) := by decide +kernel
theorem dE_base_10 : decode cE_base 10 = .ok (.aload_n 3, 1) := by decide +kernel
theorem dE_base_11 : decode cE_base 11 = .ok (.ifnull 49, 3) := by decide +kernel
theorem dE_base_14 : decode cE_base 14 = .ok (.iload_n 2, 1) := by decide +kernel
theorem dE_base_15 : decode cE_base 15 = .ok (.aload_n 3, 1) := by decide +kernel
theorem dE_base_16 : decode cE_base 16 = .ok (.getfield 142, 3) := by decide +kernel
theorem dE_base_19 : decode cE_base 19 = .ok (.invokestatic 145, 3) := by decide +kernel
theorem dE_base_22 : decode cE_base 22 = .ok (.istore 4, 2) := by decide +kernel
theorem dE_base_24 : decode cE_base 24 = .ok (.aload_n 3, 1) := by decide +kernel
theorem dE_base_25 : decode cE_base 25 = .ok (.getfield 151, 3) := by decide +kernel
theorem dE_base_28 : decode cE_base 28 = .ok (.ifCond .eq 15, 3) := by decide +kernel
theorem dE_base_31 : decode cE_base 31 = .ok (.iload 4, 2) := by decide +kernel
theorem dE_base_33 : decode cE_base 33 = .ok (.aload_n 3, 1) := by decide +kernel
theorem dE_base_34 : decode cE_base 34 = .ok (.getfield 115, 3) := by decide +kernel
theorem dE_base_37 : decode cE_base 37 = .ok (.if_icmp .lt 6, 3) := by decide +kernel
theorem dE_base_40 : decode cE_base 40 = .ok (.iload 4, 2) := by decide +kernel
theorem dE_base_42 : decode cE_base 42 = .ok (.ireturn, 1) := by decide +kernel
theorem dE_base_43 : decode cE_base 43 = .ok (.iload_n 2, 1) := by decide +kernel
theorem dE_base_44 : decode cE_base 44 = .ok (.aload_n 3, 1) := by decide +kernel
theorem dE_base_45 : decode cE_base 45 = .ok (.invokevirtual 154, 3) := by decide +kernel
theorem dE_base_48 : decode cE_base 48 = .ok (.invokestatic 145, 3) := by decide +kernel
theorem dE_base_51 : decode cE_base 51 = .ok (.istore_n 2, 1) := by decide +kernel
theorem dE_base_52 : decode cE_base 52 = .ok (.aload_n 3, 1) := by decide +kernel
theorem dE_base_53 : decode cE_base 53 = .ok (.getfield 148, 3) := by decide +kernel
theorem dE_base_56 : decode cE_base 56 = .ok (.astore_n 3, 1) := by decide +kernel
theorem dE_base_57 : decode cE_base 57 = .ok (.goto (-47), 3) := by decide +kernel
theorem dE_base_60 : decode cE_base 60 = .ok (.iconst (-1), 1) := by decide +kernel
theorem dE_base_61 : decode cE_base 61 = .ok (.ireturn, 1) := by decide +kernel
theorem dE_highestBelow_0 : decode cE_highestBelow 0 = .ok (.iload_n 0, 1) := by decide +kernel
theorem dE_highestBelow_1 : decode cE_highestBelow 1 = .ok (.iconst 0, 1) := by decide +kernel
theorem dE_highestBelow_2 : decode cE_highestBelow 2 = .ok (.invokestatic 131, 3) := by decide +kernel
theorem dE_highestBelow_5 : decode cE_highestBelow 5 = .ok (.iconst 1, 1) := by decide +kernel
theorem dE_highestBelow_6 : decode cE_highestBelow 6 = .ok (.isub, 1) := by decide +kernel
theorem dE_highestBelow_7 : decode cE_highestBelow 7 = .ok (.ireturn, 1) := by decide +kernel
theorem dL_parent_0 : decode cL_parent 0 = .ok (.aload_n 3, 1) := by decide +kernel
theorem dL_parent_1 : decode cL_parent 1 = .ok (.iconst 0, 1) := by decide +kernel
theorem dL_parent_2 : decode cL_parent 2 = .ok (.aload_n 0, 1) := by decide +kernel
theorem dL_parent_3 : decode cL_parent 3 = .ok (.iload_n 1, 1) := by decide +kernel
theorem dL_parent_4 : decode cL_parent 4 = .ok (.iload_n 2, 1) := by decide +kernel
theorem dL_parent_5 : decode cL_parent 5 = .ok (.invokevirtual 7, 3) := by decide +kernel
theorem dL_parent_8 : decode cL_parent 8 = .ok (.i2l, 1) := by decide +kernel
theorem dL_parent_9 : decode cL_parent 9 = .ok (.lastore, 1) := by decide +kernel
theorem dL_parent_10 : decode cL_parent 10 = .ok (.goto 15, 3) := by decide +kernel
theorem dL_parent_13 : decode cL_parent 13 = .ok (.astore 4, 2) := by decide +kernel
theorem dL_parent_15 : decode cL_parent 15 = .ok (.iconst 1, 1) := by decide +kernel
theorem dL_parent_16 : decode cL_parent 16 = .ok (.ireturn, 1) := by decide +kernel
theorem dL_parent_17 : decode cL_parent 17 = .ok (.astore 4, 2) := by decide +kernel
theorem dL_parent_19 : decode cL_parent 19 = .ok (.iconst 2, 1) := by decide +kernel
theorem dL_parent_20 : decode cL_parent 20 = .ok (.ireturn, 1) := by decide +kernel
theorem dL_parent_21 : decode cL_parent 21 = .ok (.astore 4, 2) := by decide +kernel
theorem dL_parent_23 : decode cL_parent 23 = .ok (.iconst 3, 1) := by decide +kernel
theorem dL_parent_24 : decode cL_parent 24 = .ok (.ireturn, 1) := by decide +kernel
theorem dL_parent_25 : decode cL_parent 25 = .ok (.iconst 0, 1) := by decide +kernel
theorem dL_parent_26 : decode cL_parent 26 = .ok (.ireturn, 1) := by decide +kernel
theorem dE_parent_0 : decode cE_parent 0 = .ok (.aload_n 0, 1) := by decide +kernel
theorem dE_parent_1 : decode cE_parent 1 = .ok (.iload_n 1, 1) := by decide +kernel
theorem dE_parent_2 : decode cE_parent 2 = .ok (.iload_n 2, 1) := by decide +kernel
theorem dE_parent_3 : decode cE_parent 3 = .ok (.invokevirtual 39, 3) := by decide +kernel
theorem dE_parent_6 : decode cE_parent 6 = .ok (.istore_n 3, 1) := by decide +kernel
theorem dE_parent_7 : decode cE_parent 7 = .ok (.aload_n 0, 1) := by decide +kernel
theorem dE_parent_8 : decode cE_parent 8 = .ok (.iload_n 3, 1) := by decide +kernel
theorem dE_parent_9 : decode cE_parent 9 = .ok (.invokevirtual 43, 3) := by decide +kernel
theorem dE_parent_12 : decode cE_parent 12 = .ok (.ifCond .eq 11, 3) := by decide +kernel
theorem dE_parent_15 : decode cE_parent 15 = .ok (.new 47, 3) := by decide +kernel
theorem dE_parent_18 : decode cE_parent 18 = .ok (.dup, 1) := by decide +kernel
theorem dE_parent_19 : decode cE_parent 19 = .ok (.invokespecial 49, 3) := by decide +kernel
theorem dE_parent_22 : decode cE_parent 22 = .ok (.athrow, 1) := by decide +kernel
theorem dE_parent_23 : decode cE_parent 23 = .ok (.aload_n 0, 1) := by decide +kernel
theorem dE_parent_24 : decode cE_parent 24 = .ok (.getfield 36, 3) := by decide +kernel
theorem dE_parent_27 : decode cE_parent 27 = .ok (.bipush 16, 2) := by decide +kernel
theorem dE_parent_29 : decode cE_parent 29 = .ok (.if_icmp .lt 11, 3) := by decide +kernel
theorem dE_parent_32 : decode cE_parent 32 = .ok (.new 50, 3) := by decide +kernel
theorem dE_parent_35 : decode cE_parent 35 = .ok (.dup, 1) := by decide +kernel
theorem dE_parent_36 : decode cE_parent 36 = .ok (.invokespecial 52, 3) := by decide +kernel
theorem dE_parent_39 : decode cE_parent 39 = .ok (.athrow, 1) := by decide +kernel
theorem dE_parent_40 : decode cE_parent 40 = .ok (.aload_n 0, 1) := by decide +kernel
theorem dE_parent_41 : decode cE_parent 41 = .ok (.iload_n 3, 1) := by decide +kernel
theorem dE_parent_42 : decode cE_parent 42 = .ok (.invokevirtual 53, 3) := by decide +kernel
theorem dE_parent_45 : decode cE_parent 45 = .ok (.aload_n 0, 1) := by decide +kernel
theorem dE_parent_46 : decode cE_parent 46 = .ok (.getfield 36, 3) := by decide +kernel
theorem dE_parent_49 : decode cE_parent 49 = .ok (.ireturn, 1) := by decide +kernel
theorem dE_find_0 : decode cE_find 0 = .ok (.iload_n 1, 1) := by decide +kernel
theorem dE_find_1 : decode cE_find 1 = .ok (.invokestatic 64, 3) := by decide +kernel
theorem dE_find_4 : decode cE_find 4 = .ok (.ifCond .eq 12, 3) := by decide +kernel
theorem dE_find_7 : decode cE_find 7 = .ok (.aload_n 0, 1) := by decide +kernel
theorem dE_find_8 : decode cE_find 8 = .ok (.getfield 11, 3) := by decide +kernel
theorem dE_find_11 : decode cE_find 11 = .ok (.iload_n 1, 1) := by decide +kernel
theorem dE_find_12 : decode cE_find 12 = .ok (.aaload, 1) := by decide +kernel
theorem dE_find_13 : decode cE_find 13 = .ok (.ifnonnull 11, 3) := by decide +kernel
theorem dE_find_16 : decode cE_find 16 = .ok (.new 121, 3) := by decide +kernel
theorem dE_find_19 : decode cE_find 19 = .ok (.dup, 1) := by decide +kernel
theorem dE_find_20 : decode cE_find 20 = .ok (.invokespecial 123, 3) := by decide +kernel
theorem dE_find_23 : decode cE_find 23 = .ok (.athrow, 1) := by decide +kernel
theorem dE_find_24 : decode cE_find 24 = .ok (.aload_n 0, 1) := by decide +kernel
theorem dE_find_25 : decode cE_find 25 = .ok (.getfield 11, 3) := by decide +kernel
theorem dE_find_28 : decode cE_find 28 = .ok (.iload_n 1, 1) := by decide +kernel
theorem dE_find_29 : decode cE_find 29 = .ok (.aaload, 1) := by decide +kernel
theorem dE_find_30 : decode cE_find 30 = .ok (.getfield 158, 3) := by decide +kernel
theorem dE_find_33 : decode cE_find 33 = .ok (.astore_n 3, 1) := by decide +kernel
theorem dE_find_34 : decode cE_find 34 = .ok (.aload_n 3, 1) := by decide +kernel
theorem dE_find_35 : decode cE_find 35 = .ok (.ifnull 25, 3) := by decide +kernel
theorem dE_find_38 : decode cE_find 38 = .ok (.aload_n 3, 1) := by decide +kernel
theorem dE_find_39 : decode cE_find 39 = .ok (.iload_n 2, 1) := by decide +kernel
theorem dE_find_40 : decode cE_find 40 = .ok (.invokevirtual 159, 3) := by decide +kernel
theorem dE_find_43 : decode cE_find 43 = .ok (.ifCond .eq 9, 3) := by decide +kernel
theorem dE_find_46 : decode cE_find 46 = .ok (.aload_n 3, 1) := by decide +kernel
theorem dE_find_47 : decode cE_find 47 = .ok (.iload_n 2, 1) := by decide +kernel
theorem dE_find_48 : decode cE_find 48 = .ok (.invokevirtual 139, 3) := by decide +kernel
theorem dE_find_51 : decode cE_find 51 = .ok (.ireturn, 1) := by decide +kernel
theorem dE_find_52 : decode cE_find 52 = .ok (.aload_n 3, 1) := by decide +kernel
theorem dE_find_53 : decode cE_find 53 = .ok (.getfield 162, 3) := by decide +kernel
theorem dE_find_56 : decode cE_find 56 = .ok (.astore_n 3, 1) := by decide +kernel
theorem dE_find_57 : decode cE_find 57 = .ok (.goto (-23), 3) := by decide +kernel
theorem dE_find_60 : decode cE_find 60 = .ok (.new 121, 3) := by decide +kernel
theorem dE_find_63 : decode cE_find 63 = .ok (.dup, 1) := by decide +kernel
theorem dE_find_64 : decode cE_find 64 = .ok (.invokespecial 123, 3) := by decide +kernel
theorem dE_find_67 : decode cE_find 67 = .ok (.athrow, 1) := by decide +kernel
theorem dE_isAgentName_0 : decode cE_isAgentName 0 = .ok (.iload_n 0, 1) := by decide +kernel
theorem dE_isAgentName_1 : decode cE_isAgentName 1 = .ok (.ifCond .lt 14, 3) := by decide +kernel
theorem dE_isAgentName_4 : decode cE_isAgentName 4 = .ok (.iload_n 0, 1) := by decide +kernel
theorem dE_isAgentName_5 : decode cE_isAgentName 5 = .ok (.sipush 256, 3) := by decide +kernel
theorem dE_isAgentName_8 : decode cE_isAgentName 8 = .ok (.if_icmp .ge 7, 3) := by decide +kernel
theorem dE_isAgentName_11 : decode cE_isAgentName 11 = .ok (.iconst 1, 1) := by decide +kernel
theorem dE_isAgentName_12 : decode cE_isAgentName 12 = .ok (.goto 4, 3) := by decide +kernel
theorem dE_isAgentName_15 : decode cE_isAgentName 15 = .ok (.iconst 0, 1) := by decide +kernel
theorem dE_isAgentName_16 : decode cE_isAgentName 16 = .ok (.ireturn, 1) := by decide +kernel
theorem dS_hasNumber_0 : decode cS_hasNumber 0 = .ok (.iload_n 1, 1) := by decide +kernel
theorem dS_hasNumber_1 : decode cS_hasNumber 1 = .ok (.aload_n 0, 1) := by decide +kernel
theorem dS_hasNumber_2 : decode cS_hasNumber 2 = .ok (.getfield 25, 3) := by decide +kernel
theorem dS_hasNumber_5 : decode cS_hasNumber 5 = .ok (.if_icmp .lt 19, 3) := by decide +kernel
theorem dS_hasNumber_8 : decode cS_hasNumber 8 = .ok (.iload_n 1, 1) := by decide +kernel
theorem dS_hasNumber_9 : decode cS_hasNumber 9 = .ok (.aload_n 0, 1) := by decide +kernel
theorem dS_hasNumber_10 : decode cS_hasNumber 10 = .ok (.aload_n 0, 1) := by decide +kernel
theorem dS_hasNumber_11 : decode cS_hasNumber 11 = .ok (.getfield 17, 3) := by decide +kernel
theorem dS_hasNumber_14 : decode cS_hasNumber 14 = .ok (.invokevirtual 53, 3) := by decide +kernel
theorem dS_hasNumber_17 : decode cS_hasNumber 17 = .ok (.if_icmp .gt 7, 3) := by decide +kernel
theorem dS_hasNumber_20 : decode cS_hasNumber 20 = .ok (.iconst 1, 1) := by decide +kernel
theorem dS_hasNumber_21 : decode cS_hasNumber 21 = .ok (.goto 4, 3) := by decide +kernel
theorem dS_hasNumber_24 : decode cS_hasNumber 24 = .ok (.iconst 0, 1) := by decide +kernel
theorem dS_hasNumber_25 : decode cS_hasNumber 25 = .ok (.ireturn, 1) := by decide +kernel
theorem dS_numberAt_0 : decode cS_numberAt 0 = .ok (.aload_n 0, 1) := by decide +kernel
theorem dS_numberAt_1 : decode cS_numberAt 1 = .ok (.getfield 25, 3) := by decide +kernel
theorem dS_numberAt_4 : decode cS_numberAt 4 = .ok (.iload_n 1, 1) := by decide +kernel
theorem dS_numberAt_5 : decode cS_numberAt 5 = .ok (.iadd, 1) := by decide +kernel
theorem dS_numberAt_6 : decode cS_numberAt 6 = .ok (.aload_n 0, 1) := by decide +kernel
theorem dS_numberAt_7 : decode cS_numberAt 7 = .ok (.getfield 13, 3) := by decide +kernel
theorem dS_numberAt_10 : decode cS_numberAt 10 = .ok (.isub, 1) := by decide +kernel
theorem dS_numberAt_11 : decode cS_numberAt 11 = .ok (.ireturn, 1) := by decide +kernel
theorem dS_placeOfNumber_0 : decode cS_placeOfNumber 0 = .ok (.aload_n 0, 1) := by decide +kernel
theorem dS_placeOfNumber_1 : decode cS_placeOfNumber 1 = .ok (.getfield 13, 3) := by decide +kernel
theorem dS_placeOfNumber_4 : decode cS_placeOfNumber 4 = .ok (.iload_n 1, 1) := by decide +kernel
theorem dS_placeOfNumber_5 : decode cS_placeOfNumber 5 = .ok (.iadd, 1) := by decide +kernel
theorem dS_placeOfNumber_6 : decode cS_placeOfNumber 6 = .ok (.aload_n 0, 1) := by decide +kernel
theorem dS_placeOfNumber_7 : decode cS_placeOfNumber 7 = .ok (.getfield 25, 3) := by decide +kernel
theorem dS_placeOfNumber_10 : decode cS_placeOfNumber 10 = .ok (.isub, 1) := by decide +kernel
theorem dS_placeOfNumber_11 : decode cS_placeOfNumber 11 = .ok (.ireturn, 1) := by decide +kernel
theorem dE_isListed_0 : decode cE_isListed 0 = .ok (.iconst 0, 1) := by decide +kernel
theorem dE_isListed_1 : decode cE_isListed 1 = .ok (.istore_n 2, 1) := by decide +kernel
theorem dE_isListed_2 : decode cE_isListed 2 = .ok (.iload_n 2, 1) := by decide +kernel
theorem dE_isListed_3 : decode cE_isListed 3 = .ok (.aload_n 0, 1) := by decide +kernel
theorem dE_isListed_4 : decode cE_isListed 4 = .ok (.getfield 36, 3) := by decide +kernel
theorem dE_isListed_7 : decode cE_isListed 7 = .ok (.if_icmp .ge 21, 3) := by decide +kernel
theorem dE_isListed_10 : decode cE_isListed 10 = .ok (.aload_n 0, 1) := by decide +kernel
theorem dE_isListed_11 : decode cE_isListed 11 = .ok (.getfield 32, 3) := by decide +kernel
theorem dE_isListed_14 : decode cE_isListed 14 = .ok (.iload_n 2, 1) := by decide +kernel
theorem dE_isListed_15 : decode cE_isListed 15 = .ok (.iaload, 1) := by decide +kernel
theorem dE_isListed_16 : decode cE_isListed 16 = .ok (.iload_n 1, 1) := by decide +kernel
theorem dE_isListed_17 : decode cE_isListed 17 = .ok (.if_icmp .ne 5, 3) := by decide +kernel
theorem dE_isListed_20 : decode cE_isListed 20 = .ok (.iconst 1, 1) := by decide +kernel
theorem dE_isListed_21 : decode cE_isListed 21 = .ok (.ireturn, 1) := by decide +kernel
theorem dE_isListed_22 : decode cE_isListed 22 = .ok (.iinc 2 1, 3) := by decide +kernel
theorem dE_isListed_25 : decode cE_isListed 25 = .ok (.goto (-23), 3) := by decide +kernel
theorem dE_isListed_28 : decode cE_isListed 28 = .ok (.iconst 0, 1) := by decide +kernel
theorem dE_isListed_29 : decode cE_isListed 29 = .ok (.ireturn, 1) := by decide +kernel
theorem dL_add_0 : decode cL_add 0 = .ok (.aload_n 3, 1) := by decide +kernel
theorem dL_add_1 : decode cL_add 1 = .ok (.iconst 0, 1) := by decide +kernel
theorem dL_add_2 : decode cL_add 2 = .ok (.aload_n 0, 1) := by decide +kernel
theorem dL_add_3 : decode cL_add 3 = .ok (.iload_n 1, 1) := by decide +kernel
theorem dL_add_4 : decode cL_add 4 = .ok (.iload_n 2, 1) := by decide +kernel
theorem dL_add_5 : decode cL_add 5 = .ok (.invokevirtual 19, 3) := by decide +kernel
theorem dL_add_8 : decode cL_add 8 = .ok (.i2l, 1) := by decide +kernel
theorem dL_add_9 : decode cL_add 9 = .ok (.lastore, 1) := by decide +kernel
theorem dL_add_10 : decode cL_add 10 = .ok (.goto 15, 3) := by decide +kernel
theorem dL_add_13 : decode cL_add 13 = .ok (.astore 4, 2) := by decide +kernel
theorem dL_add_15 : decode cL_add 15 = .ok (.iconst 1, 1) := by decide +kernel
theorem dL_add_16 : decode cL_add 16 = .ok (.ireturn, 1) := by decide +kernel
theorem dL_add_17 : decode cL_add 17 = .ok (.astore 4, 2) := by decide +kernel
theorem dL_add_19 : decode cL_add 19 = .ok (.iconst 2, 1) := by decide +kernel
theorem dL_add_20 : decode cL_add 20 = .ok (.ireturn, 1) := by decide +kernel
theorem dL_add_21 : decode cL_add 21 = .ok (.astore 4, 2) := by decide +kernel
theorem dL_add_23 : decode cL_add 23 = .ok (.iconst 3, 1) := by decide +kernel
theorem dL_add_24 : decode cL_add 24 = .ok (.ireturn, 1) := by decide +kernel
theorem dL_add_25 : decode cL_add 25 = .ok (.iconst 0, 1) := by decide +kernel
theorem dL_add_26 : decode cL_add 26 = .ok (.ireturn, 1) := by decide +kernel
theorem dE_add_0 : decode cE_add 0 = .ok (.iload_n 1, 1) := by decide +kernel
theorem dE_add_1 : decode cE_add 1 = .ok (.invokestatic 64, 3) := by decide +kernel
theorem dE_add_4 : decode cE_add 4 = .ok (.ifCond .eq 15, 3) := by decide +kernel
theorem dE_add_7 : decode cE_add 7 = .ok (.iload_n 2, 1) := by decide +kernel
theorem dE_add_8 : decode cE_add 8 = .ok (.iconst 1, 1) := by decide +kernel
theorem dE_add_9 : decode cE_add 9 = .ok (.if_icmp .lt 10, 3) := by decide +kernel
theorem dE_add_12 : decode cE_add 12 = .ok (.iload_n 2, 1) := by decide +kernel
theorem dE_add_13 : decode cE_add 13 = .ok (.sipush 2000, 3) := by decide +kernel
theorem dE_add_16 : decode cE_add 16 = .ok (.if_icmp .le 11, 3) := by decide +kernel
theorem dE_add_19 : decode cE_add 19 = .ok (.new 67, 3) := by decide +kernel
theorem dE_add_22 : decode cE_add 22 = .ok (.dup, 1) := by decide +kernel
theorem dE_add_23 : decode cE_add 23 = .ok (.invokespecial 69, 3) := by decide +kernel
theorem dE_add_26 : decode cE_add 26 = .ok (.athrow, 1) := by decide +kernel
theorem dE_add_27 : decode cE_add 27 = .ok (.aload_n 0, 1) := by decide +kernel
theorem dE_add_28 : decode cE_add 28 = .ok (.invokevirtual 70, 3) := by decide +kernel
theorem dE_add_31 : decode cE_add 31 = .ok (.astore_n 3, 1) := by decide +kernel
theorem dE_add_32 : decode cE_add 32 = .ok (.aload_n 0, 1) := by decide +kernel
theorem dE_add_33 : decode cE_add 33 = .ok (.aload_n 3, 1) := by decide +kernel
theorem dE_add_34 : decode cE_add 34 = .ok (.invokevirtual 74, 3) := by decide +kernel
theorem dE_add_37 : decode cE_add 37 = .ok (.astore 4, 2) := by decide +kernel
theorem dE_add_39 : decode cE_add 39 = .ok (.aload_n 0, 1) := by decide +kernel
theorem dE_add_40 : decode cE_add 40 = .ok (.getfield 11, 3) := by decide +kernel
theorem dE_add_43 : decode cE_add 43 = .ok (.iload_n 1, 1) := by decide +kernel
theorem dE_add_44 : decode cE_add 44 = .ok (.aaload, 1) := by decide +kernel
theorem dE_add_45 : decode cE_add 45 = .ok (.astore 5, 2) := by decide +kernel
theorem dE_add_47 : decode cE_add 47 = .ok (.aload_n 0, 1) := by decide +kernel
theorem dE_add_48 : decode cE_add 48 = .ok (.aload_n 3, 1) := by decide +kernel
theorem dE_add_49 : decode cE_add 49 = .ok (.invokevirtual 78, 3) := by decide +kernel
theorem dE_add_52 : decode cE_add 52 = .ok (.ifCond .ne 24, 3) := by decide +kernel
theorem dE_add_55 : decode cE_add 55 = .ok (.aload 5, 2) := by decide +kernel
theorem dE_add_57 : decode cE_add 57 = .ok (.ifnull 27, 3) := by decide +kernel
theorem dE_add_60 : decode cE_add 60 = .ok (.aload 4, 2) := by decide +kernel
theorem dE_add_62 : decode cE_add 62 = .ok (.aload 5, 2) := by decide +kernel
theorem dE_add_64 : decode cE_add 64 = .ok (.getfield 82, 3) := by decide +kernel
theorem dE_add_67 : decode cE_add 67 = .ok (.iaload, 1) := by decide +kernel
theorem dE_add_68 : decode cE_add 68 = .ok (.aload 5, 2) := by decide +kernel
theorem dE_add_70 : decode cE_add 70 = .ok (.getfield 85, 3) := by decide +kernel
theorem dE_add_73 : decode cE_add 73 = .ok (.if_icmp .ge 11, 3) := by decide +kernel
theorem dE_add_76 : decode cE_add 76 = .ok (.new 47, 3) := by decide +kernel
theorem dE_add_79 : decode cE_add 79 = .ok (.dup, 1) := by decide +kernel
theorem dE_add_80 : decode cE_add 80 = .ok (.invokespecial 49, 3) := by decide +kernel
theorem dE_add_83 : decode cE_add 83 = .ok (.athrow, 1) := by decide +kernel
theorem dE_add_84 : decode cE_add 84 = .ok (.aload_n 0, 1) := by decide +kernel
theorem dE_add_85 : decode cE_add 85 = .ok (.getfield 25, 3) := by decide +kernel
theorem dE_add_88 : decode cE_add 88 = .ok (.iload_n 2, 1) := by decide +kernel
theorem dE_add_89 : decode cE_add 89 = .ok (.iadd, 1) := by decide +kernel
theorem dE_add_90 : decode cE_add 90 = .ok (.sipush 8192, 3) := by decide +kernel
theorem dE_add_93 : decode cE_add 93 = .ok (.if_icmp .gt 17, 3) := by decide +kernel
theorem dE_add_96 : decode cE_add 96 = .ok (.aload 5, 2) := by decide +kernel
theorem dE_add_98 : decode cE_add 98 = .ok (.ifnonnull 20, 3) := by decide +kernel
theorem dE_add_101 : decode cE_add 101 = .ok (.aload_n 0, 1) := by decide +kernel
theorem dE_add_102 : decode cE_add 102 = .ok (.getfield 15, 3) := by decide +kernel
theorem dE_add_105 : decode cE_add 105 = .ok (.bipush 16, 2) := by decide +kernel
theorem dE_add_107 : decode cE_add 107 = .ok (.if_icmp .lt 11, 3) := by decide +kernel
theorem dE_add_110 : decode cE_add 110 = .ok (.new 50, 3) := by decide +kernel
theorem dE_add_113 : decode cE_add 113 = .ok (.dup, 1) := by decide +kernel
theorem dE_add_114 : decode cE_add 114 = .ok (.invokespecial 52, 3) := by decide +kernel
theorem dE_add_117 : decode cE_add 117 = .ok (.athrow, 1) := by decide +kernel
theorem dE_add_118 : decode cE_add 118 = .ok (.aload_n 0, 1) := by decide +kernel
theorem dE_add_119 : decode cE_add 119 = .ok (.aload_n 3, 1) := by decide +kernel
theorem dE_add_120 : decode cE_add 120 = .ok (.invokevirtual 88, 3) := by decide +kernel
theorem dE_add_123 : decode cE_add 123 = .ok (.aload_n 0, 1) := by decide +kernel
theorem dE_add_124 : decode cE_add 124 = .ok (.aload 5, 2) := by decide +kernel
theorem dE_add_126 : decode cE_add 126 = .ok (.ifnonnull 11, 3) := by decide +kernel
theorem dE_add_129 : decode cE_add 129 = .ok (.aload_n 0, 1) := by decide +kernel
theorem dE_add_130 : decode cE_add 130 = .ok (.iload_n 1, 1) := by decide +kernel
theorem dE_add_131 : decode cE_add 131 = .ok (.invokevirtual 92, 3) := by decide +kernel
theorem dE_add_134 : decode cE_add 134 = .ok (.goto 5, 3) := by decide +kernel
theorem dE_add_137 : decode cE_add 137 = .ok (.aload 5, 2) := by decide +kernel
theorem dE_add_139 : decode cE_add 139 = .ok (.iload_n 2, 1) := by decide +kernel
theorem dE_add_140 : decode cE_add 140 = .ok (.aload_n 3, 1) := by decide +kernel
theorem dE_add_141 : decode cE_add 141 = .ok (.aload 4, 2) := by decide +kernel
theorem dE_add_143 : decode cE_add 143 = .ok (.invokevirtual 96, 3) := by decide +kernel
theorem dE_add_146 : decode cE_add 146 = .ok (.aload_n 0, 1) := by decide +kernel
theorem dE_add_147 : decode cE_add 147 = .ok (.getfield 25, 3) := by decide +kernel
theorem dE_add_150 : decode cE_add 150 = .ok (.iconst 1, 1) := by decide +kernel
theorem dE_add_151 : decode cE_add 151 = .ok (.isub, 1) := by decide +kernel
theorem dE_add_152 : decode cE_add 152 = .ok (.ireturn, 1) := by decide +kernel
theorem dE_takeList_0 : decode cE_takeList 0 = .ok (.aload_n 0, 1) := by decide +kernel
theorem dE_takeList_1 : decode cE_takeList 1 = .ok (.getfield 32, 3) := by decide +kernel
theorem dE_takeList_4 : decode cE_takeList 4 = .ok (.aload_n 0, 1) := by decide +kernel
theorem dE_takeList_5 : decode cE_takeList 5 = .ok (.getfield 36, 3) := by decide +kernel
theorem dE_takeList_8 : decode cE_takeList 8 = .ok (.invokestatic 165, 3) := by decide +kernel
theorem dE_takeList_11 : decode cE_takeList 11 = .ok (.astore_n 1, 1) := by decide +kernel
theorem dE_takeList_12 : decode cE_takeList 12 = .ok (.aload_n 0, 1) := by decide +kernel
theorem dE_takeList_13 : decode cE_takeList 13 = .ok (.iconst 0, 1) := by decide +kernel
theorem dE_takeList_14 : decode cE_takeList 14 = .ok (.putfield 36, 3) := by decide +kernel
theorem dE_takeList_17 : decode cE_takeList 17 = .ok (.aload_n 1, 1) := by decide +kernel
theorem dE_takeList_18 : decode cE_takeList 18 = .ok (.areturn, 1) := by decide +kernel
theorem dE_seenFrom_0 : decode cE_seenFrom 0 = .ok (.bipush 16, 2) := by decide +kernel
theorem dE_seenFrom_2 : decode cE_seenFrom 2 = .ok (.newarray .int, 2) := by decide +kernel
theorem dE_seenFrom_4 : decode cE_seenFrom 4 = .ok (.astore_n 2, 1) := by decide +kernel
theorem dE_seenFrom_5 : decode cE_seenFrom 5 = .ok (.aload_n 1, 1) := by decide +kernel
theorem dE_seenFrom_6 : decode cE_seenFrom 6 = .ok (.astore_n 3, 1) := by decide +kernel
theorem dE_seenFrom_7 : decode cE_seenFrom 7 = .ok (.aload_n 3, 1) := by decide +kernel
theorem dE_seenFrom_8 : decode cE_seenFrom 8 = .ok (.arraylength, 1) := by decide +kernel
theorem dE_seenFrom_9 : decode cE_seenFrom 9 = .ok (.istore 4, 2) := by decide +kernel
theorem dE_seenFrom_11 : decode cE_seenFrom 11 = .ok (.iconst 0, 1) := by decide +kernel
theorem dE_seenFrom_12 : decode cE_seenFrom 12 = .ok (.istore 5, 2) := by decide +kernel
theorem dE_seenFrom_14 : decode cE_seenFrom 14 = .ok (.iload 5, 2) := by decide +kernel
theorem dE_seenFrom_16 : decode cE_seenFrom 16 = .ok (.iload 4, 2) := by decide +kernel
theorem dE_seenFrom_18 : decode cE_seenFrom 18 = .ok (.if_icmp .ge 59, 3) := by decide +kernel
theorem dE_seenFrom_21 : decode cE_seenFrom 21 = .ok (.aload_n 3, 1) := by decide +kernel
theorem dE_seenFrom_22 : decode cE_seenFrom 22 = .ok (.iload 5, 2) := by decide +kernel
theorem dE_seenFrom_24 : decode cE_seenFrom 24 = .ok (.iaload, 1) := by decide +kernel
theorem dE_seenFrom_25 : decode cE_seenFrom 25 = .ok (.istore 6, 2) := by decide +kernel
theorem dE_seenFrom_27 : decode cE_seenFrom 27 = .ok (.aload_n 0, 1) := by decide +kernel
theorem dE_seenFrom_28 : decode cE_seenFrom 28 = .ok (.iload 6, 2) := by decide +kernel
theorem dE_seenFrom_30 : decode cE_seenFrom 30 = .ok (.invokevirtual 100, 3) := by decide +kernel
theorem dE_seenFrom_33 : decode cE_seenFrom 33 = .ok (.astore 7, 2) := by decide +kernel
theorem dE_seenFrom_35 : decode cE_seenFrom 35 = .ok (.iconst 0, 1) := by decide +kernel
theorem dE_seenFrom_36 : decode cE_seenFrom 36 = .ok (.istore 8, 2) := by decide +kernel
theorem dE_seenFrom_38 : decode cE_seenFrom 38 = .ok (.iload 8, 2) := by decide +kernel
theorem dE_seenFrom_40 : decode cE_seenFrom 40 = .ok (.bipush 16, 2) := by decide +kernel
theorem dE_seenFrom_42 : decode cE_seenFrom 42 = .ok (.if_icmp .ge 29, 3) := by decide +kernel
theorem dE_seenFrom_45 : decode cE_seenFrom 45 = .ok (.aload_n 2, 1) := by decide +kernel
theorem dE_seenFrom_46 : decode cE_seenFrom 46 = .ok (.iload 8, 2) := by decide +kernel
theorem dE_seenFrom_48 : decode cE_seenFrom 48 = .ok (.aload_n 2, 1) := by decide +kernel
theorem dE_seenFrom_49 : decode cE_seenFrom 49 = .ok (.iload 8, 2) := by decide +kernel
theorem dE_seenFrom_51 : decode cE_seenFrom 51 = .ok (.iaload, 1) := by decide +kernel
theorem dE_seenFrom_52 : decode cE_seenFrom 52 = .ok (.aload 7, 2) := by decide +kernel
theorem dE_seenFrom_54 : decode cE_seenFrom 54 = .ok (.iload 6, 2) := by decide +kernel
theorem dE_seenFrom_56 : decode cE_seenFrom 56 = .ok (.iload 8, 2) := by decide +kernel
theorem dE_seenFrom_58 : decode cE_seenFrom 58 = .ok (.invokevirtual 128, 3) := by decide +kernel
theorem dE_seenFrom_61 : decode cE_seenFrom 61 = .ok (.invokestatic 131, 3) := by decide +kernel
theorem dE_seenFrom_64 : decode cE_seenFrom 64 = .ok (.iastore, 1) := by decide +kernel
theorem dE_seenFrom_65 : decode cE_seenFrom 65 = .ok (.iinc 8 1, 3) := by decide +kernel
theorem dE_seenFrom_68 : decode cE_seenFrom 68 = .ok (.goto (-30), 3) := by decide +kernel
theorem dE_seenFrom_71 : decode cE_seenFrom 71 = .ok (.iinc 5 1, 3) := by decide +kernel
theorem dE_seenFrom_74 : decode cE_seenFrom 74 = .ok (.goto (-60), 3) := by decide +kernel
theorem dE_seenFrom_77 : decode cE_seenFrom 77 = .ok (.aload_n 2, 1) := by decide +kernel
theorem dE_seenFrom_78 : decode cE_seenFrom 78 = .ok (.areturn, 1) := by decide +kernel
end
section
theorem dE_spanOf_0 : decode cE_spanOf 0 = .ok (.iload_n 1, 1) := by decide +kernel
theorem dE_spanOf_1 : decode cE_spanOf 1 = .ok (.ifCond .lt 19, 3) := by decide +kernel
theorem dE_spanOf_4 : decode cE_spanOf 4 = .ok (.iload_n 1, 1) := by decide +kernel
theorem dE_spanOf_5 : decode cE_spanOf 5 = .ok (.sipush 8192, 3) := by decide +kernel
theorem dE_spanOf_8 : decode cE_spanOf 8 = .ok (.if_icmp .ge 12, 3) := by decide +kernel
theorem dE_spanOf_11 : decode cE_spanOf 11 = .ok (.aload_n 0, 1) := by decide +kernel
theorem dE_spanOf_12 : decode cE_spanOf 12 = .ok (.getfield 21, 3) := by decide +kernel
theorem dE_spanOf_15 : decode cE_spanOf 15 = .ok (.iload_n 1, 1) := by decide +kernel
theorem dE_spanOf_16 : decode cE_spanOf 16 = .ok (.aaload, 1) := by decide +kernel
theorem dE_spanOf_17 : decode cE_spanOf 17 = .ok (.ifnonnull 11, 3) := by decide +kernel
theorem dE_spanOf_20 : decode cE_spanOf 20 = .ok (.new 121, 3) := by decide +kernel
theorem dE_spanOf_23 : decode cE_spanOf 23 = .ok (.dup, 1) := by decide +kernel
theorem dE_spanOf_24 : decode cE_spanOf 24 = .ok (.invokespecial 123, 3) := by decide +kernel
theorem dE_spanOf_27 : decode cE_spanOf 27 = .ok (.athrow, 1) := by decide +kernel
theorem dE_spanOf_28 : decode cE_spanOf 28 = .ok (.aload_n 0, 1) := by decide +kernel
theorem dE_spanOf_29 : decode cE_spanOf 29 = .ok (.getfield 21, 3) := by decide +kernel
theorem dE_spanOf_32 : decode cE_spanOf 32 = .ok (.iload_n 1, 1) := by decide +kernel
theorem dE_spanOf_33 : decode cE_spanOf 33 = .ok (.aaload, 1) := by decide +kernel
theorem dE_spanOf_34 : decode cE_spanOf 34 = .ok (.areturn, 1) := by decide +kernel
theorem dS_seenAt_0 : decode cS_seenAt 0 = .ok (.iload_n 2, 1) := by decide +kernel
theorem dS_seenAt_1 : decode cS_seenAt 1 = .ok (.aload_n 0, 1) := by decide +kernel
theorem dS_seenAt_2 : decode cS_seenAt 2 = .ok (.getfield 7, 3) := by decide +kernel
theorem dS_seenAt_5 : decode cS_seenAt 5 = .ok (.getfield 57, 3) := by decide +kernel
theorem dS_seenAt_8 : decode cS_seenAt 8 = .ok (.if_icmp .ne 13, 3) := by decide +kernel
theorem dS_seenAt_11 : decode cS_seenAt 11 = .ok (.aload_n 0, 1) := by decide +kernel
theorem dS_seenAt_12 : decode cS_seenAt 12 = .ok (.iload_n 1, 1) := by decide +kernel
theorem dS_seenAt_13 : decode cS_seenAt 13 = .ok (.invokevirtual 53, 3) := by decide +kernel
theorem dS_seenAt_16 : decode cS_seenAt 16 = .ok (.iconst 1, 1) := by decide +kernel
theorem dS_seenAt_17 : decode cS_seenAt 17 = .ok (.iadd, 1) := by decide +kernel
theorem dS_seenAt_18 : decode cS_seenAt 18 = .ok (.goto 9, 3) := by decide +kernel
theorem dS_seenAt_21 : decode cS_seenAt 21 = .ok (.aload_n 0, 1) := by decide +kernel
theorem dS_seenAt_22 : decode cS_seenAt 22 = .ok (.getfield 32, 3) := by decide +kernel
theorem dS_seenAt_25 : decode cS_seenAt 25 = .ok (.iload_n 2, 1) := by decide +kernel
theorem dS_seenAt_26 : decode cS_seenAt 26 = .ok (.iaload, 1) := by decide +kernel
theorem dS_seenAt_27 : decode cS_seenAt 27 = .ok (.ireturn, 1) := by decide +kernel
theorem dE_holdsAncestor_0 : decode cE_holdsAncestor 0 = .ok (.aload_n 1, 1) := by decide +kernel
theorem dE_holdsAncestor_1 : decode cE_holdsAncestor 1 = .ok (.astore_n 2, 1) := by decide +kernel
theorem dE_holdsAncestor_2 : decode cE_holdsAncestor 2 = .ok (.aload_n 2, 1) := by decide +kernel
theorem dE_holdsAncestor_3 : decode cE_holdsAncestor 3 = .ok (.arraylength, 1) := by decide +kernel
theorem dE_holdsAncestor_4 : decode cE_holdsAncestor 4 = .ok (.istore_n 3, 1) := by decide +kernel
theorem dE_holdsAncestor_5 : decode cE_holdsAncestor 5 = .ok (.iconst 0, 1) := by decide +kernel
theorem dE_holdsAncestor_6 : decode cE_holdsAncestor 6 = .ok (.istore 4, 2) := by decide +kernel
theorem dE_holdsAncestor_8 : decode cE_holdsAncestor 8 = .ok (.iload 4, 2) := by decide +kernel
theorem dE_holdsAncestor_10 : decode cE_holdsAncestor 10 = .ok (.iload_n 3, 1) := by decide +kernel
theorem dE_holdsAncestor_11 : decode cE_holdsAncestor 11 = .ok (.if_icmp .ge 59, 3) := by decide +kernel
theorem dE_holdsAncestor_14 : decode cE_holdsAncestor 14 = .ok (.aload_n 2, 1) := by decide +kernel
theorem dE_holdsAncestor_15 : decode cE_holdsAncestor 15 = .ok (.iload 4, 2) := by decide +kernel
theorem dE_holdsAncestor_17 : decode cE_holdsAncestor 17 = .ok (.iaload, 1) := by decide +kernel
theorem dE_holdsAncestor_18 : decode cE_holdsAncestor 18 = .ok (.istore 5, 2) := by decide +kernel
theorem dE_holdsAncestor_20 : decode cE_holdsAncestor 20 = .ok (.aload_n 1, 1) := by decide +kernel
theorem dE_holdsAncestor_21 : decode cE_holdsAncestor 21 = .ok (.astore 6, 2) := by decide +kernel
theorem dE_holdsAncestor_23 : decode cE_holdsAncestor 23 = .ok (.aload 6, 2) := by decide +kernel
theorem dE_holdsAncestor_25 : decode cE_holdsAncestor 25 = .ok (.arraylength, 1) := by decide +kernel
theorem dE_holdsAncestor_26 : decode cE_holdsAncestor 26 = .ok (.istore 7, 2) := by decide +kernel
theorem dE_holdsAncestor_28 : decode cE_holdsAncestor 28 = .ok (.iconst 0, 1) := by decide +kernel
theorem dE_holdsAncestor_29 : decode cE_holdsAncestor 29 = .ok (.istore 8, 2) := by decide +kernel
theorem dE_holdsAncestor_31 : decode cE_holdsAncestor 31 = .ok (.iload 8, 2) := by decide +kernel
theorem dE_holdsAncestor_33 : decode cE_holdsAncestor 33 = .ok (.iload 7, 2) := by decide +kernel
theorem dE_holdsAncestor_35 : decode cE_holdsAncestor 35 = .ok (.if_icmp .ge 29, 3) := by decide +kernel
theorem dE_holdsAncestor_38 : decode cE_holdsAncestor 38 = .ok (.aload 6, 2) := by decide +kernel
theorem dE_holdsAncestor_40 : decode cE_holdsAncestor 40 = .ok (.iload 8, 2) := by decide +kernel
theorem dE_holdsAncestor_42 : decode cE_holdsAncestor 42 = .ok (.iaload, 1) := by decide +kernel
theorem dE_holdsAncestor_43 : decode cE_holdsAncestor 43 = .ok (.istore 9, 2) := by decide +kernel
theorem dE_holdsAncestor_45 : decode cE_holdsAncestor 45 = .ok (.aload_n 0, 1) := by decide +kernel
theorem dE_holdsAncestor_46 : decode cE_holdsAncestor 46 = .ok (.iload 5, 2) := by decide +kernel
theorem dE_holdsAncestor_48 : decode cE_holdsAncestor 48 = .ok (.iload 9, 2) := by decide +kernel
theorem dE_holdsAncestor_50 : decode cE_holdsAncestor 50 = .ok (.invokevirtual 124, 3) := by decide +kernel
theorem dE_holdsAncestor_53 : decode cE_holdsAncestor 53 = .ok (.ifCond .eq 5, 3) := by decide +kernel
theorem dE_holdsAncestor_56 : decode cE_holdsAncestor 56 = .ok (.iconst 1, 1) := by decide +kernel
theorem dE_holdsAncestor_57 : decode cE_holdsAncestor 57 = .ok (.ireturn, 1) := by decide +kernel
theorem dE_holdsAncestor_58 : decode cE_holdsAncestor 58 = .ok (.iinc 8 1, 3) := by decide +kernel
theorem dE_holdsAncestor_61 : decode cE_holdsAncestor 61 = .ok (.goto (-30), 3) := by decide +kernel
theorem dE_holdsAncestor_64 : decode cE_holdsAncestor 64 = .ok (.iinc 4 1, 3) := by decide +kernel
theorem dE_holdsAncestor_67 : decode cE_holdsAncestor 67 = .ok (.goto (-59), 3) := by decide +kernel
theorem dE_holdsAncestor_70 : decode cE_holdsAncestor 70 = .ok (.iconst 0, 1) := by decide +kernel
theorem dE_holdsAncestor_71 : decode cE_holdsAncestor 71 = .ok (.ireturn, 1) := by decide +kernel
theorem dE_isAncestor_0 : decode cE_isAncestor 0 = .ok (.aload_n 0, 1) := by decide +kernel
theorem dE_isAncestor_1 : decode cE_isAncestor 1 = .ok (.iload_n 1, 1) := by decide +kernel
theorem dE_isAncestor_2 : decode cE_isAncestor 2 = .ok (.invokevirtual 100, 3) := by decide +kernel
theorem dE_isAncestor_5 : decode cE_isAncestor 5 = .ok (.astore_n 3, 1) := by decide +kernel
theorem dE_isAncestor_6 : decode cE_isAncestor 6 = .ok (.aload_n 0, 1) := by decide +kernel
theorem dE_isAncestor_7 : decode cE_isAncestor 7 = .ok (.iload_n 2, 1) := by decide +kernel
theorem dE_isAncestor_8 : decode cE_isAncestor 8 = .ok (.invokevirtual 100, 3) := by decide +kernel
theorem dE_isAncestor_11 : decode cE_isAncestor 11 = .ok (.astore 4, 2) := by decide +kernel
theorem dE_isAncestor_13 : decode cE_isAncestor 13 = .ok (.iload_n 1, 1) := by decide +kernel
theorem dE_isAncestor_14 : decode cE_isAncestor 14 = .ok (.iload_n 2, 1) := by decide +kernel
theorem dE_isAncestor_15 : decode cE_isAncestor 15 = .ok (.if_icmp .eq 28, 3) := by decide +kernel
theorem dE_isAncestor_18 : decode cE_isAncestor 18 = .ok (.aload 4, 2) := by decide +kernel
theorem dE_isAncestor_20 : decode cE_isAncestor 20 = .ok (.iload_n 2, 1) := by decide +kernel
theorem dE_isAncestor_21 : decode cE_isAncestor 21 = .ok (.aload_n 3, 1) := by decide +kernel
theorem dE_isAncestor_22 : decode cE_isAncestor 22 = .ok (.getfield 104, 3) := by decide +kernel
theorem dE_isAncestor_25 : decode cE_isAncestor 25 = .ok (.getfield 82, 3) := by decide +kernel
theorem dE_isAncestor_28 : decode cE_isAncestor 28 = .ok (.invokevirtual 128, 3) := by decide +kernel
theorem dE_isAncestor_31 : decode cE_isAncestor 31 = .ok (.aload_n 3, 1) := by decide +kernel
theorem dE_isAncestor_32 : decode cE_isAncestor 32 = .ok (.iload_n 1, 1) := by decide +kernel
theorem dE_isAncestor_33 : decode cE_isAncestor 33 = .ok (.invokevirtual 111, 3) := by decide +kernel
theorem dE_isAncestor_36 : decode cE_isAncestor 36 = .ok (.if_icmp .le 7, 3) := by decide +kernel
theorem dE_isAncestor_39 : decode cE_isAncestor 39 = .ok (.iconst 1, 1) := by decide +kernel
theorem dE_isAncestor_40 : decode cE_isAncestor 40 = .ok (.goto 4, 3) := by decide +kernel
theorem dE_isAncestor_43 : decode cE_isAncestor 43 = .ok (.iconst 0, 1) := by decide +kernel
theorem dE_isAncestor_44 : decode cE_isAncestor 44 = .ok (.ireturn, 1) := by decide +kernel
theorem dE_endHeads_0 : decode cE_endHeads 0 = .ok (.aload_n 1, 1) := by decide +kernel
theorem dE_endHeads_1 : decode cE_endHeads 1 = .ok (.astore_n 2, 1) := by decide +kernel
theorem dE_endHeads_2 : decode cE_endHeads 2 = .ok (.aload_n 2, 1) := by decide +kernel
theorem dE_endHeads_3 : decode cE_endHeads 3 = .ok (.arraylength, 1) := by decide +kernel
theorem dE_endHeads_4 : decode cE_endHeads 4 = .ok (.istore_n 3, 1) := by decide +kernel
theorem dE_endHeads_5 : decode cE_endHeads 5 = .ok (.iconst 0, 1) := by decide +kernel
theorem dE_endHeads_6 : decode cE_endHeads 6 = .ok (.istore 4, 2) := by decide +kernel
theorem dE_endHeads_8 : decode cE_endHeads 8 = .ok (.iload 4, 2) := by decide +kernel
theorem dE_endHeads_10 : decode cE_endHeads 10 = .ok (.iload_n 3, 1) := by decide +kernel
theorem dE_endHeads_11 : decode cE_endHeads 11 = .ok (.if_icmp .ge 42, 3) := by decide +kernel
theorem dE_endHeads_14 : decode cE_endHeads 14 = .ok (.aload_n 2, 1) := by decide +kernel
theorem dE_endHeads_15 : decode cE_endHeads 15 = .ok (.iload 4, 2) := by decide +kernel
theorem dE_endHeads_17 : decode cE_endHeads 17 = .ok (.iaload, 1) := by decide +kernel
theorem dE_endHeads_18 : decode cE_endHeads 18 = .ok (.istore 5, 2) := by decide +kernel
theorem dE_endHeads_20 : decode cE_endHeads 20 = .ok (.aload_n 0, 1) := by decide +kernel
theorem dE_endHeads_21 : decode cE_endHeads 21 = .ok (.iload 5, 2) := by decide +kernel
theorem dE_endHeads_23 : decode cE_endHeads 23 = .ok (.invokevirtual 100, 3) := by decide +kernel
theorem dE_endHeads_26 : decode cE_endHeads 26 = .ok (.getfield 104, 3) := by decide +kernel
theorem dE_endHeads_29 : decode cE_endHeads 29 = .ok (.astore 6, 2) := by decide +kernel
theorem dE_endHeads_31 : decode cE_endHeads 31 = .ok (.aload 6, 2) := by decide +kernel
theorem dE_endHeads_33 : decode cE_endHeads 33 = .ok (.getfield 61, 3) := by decide +kernel
theorem dE_endHeads_36 : decode cE_endHeads 36 = .ok (.iload 5, 2) := by decide +kernel
theorem dE_endHeads_38 : decode cE_endHeads 38 = .ok (.if_icmp .ne 9, 3) := by decide +kernel
theorem dE_endHeads_41 : decode cE_endHeads 41 = .ok (.aload 6, 2) := by decide +kernel
theorem dE_endHeads_43 : decode cE_endHeads 43 = .ok (.iconst 0, 1) := by decide +kernel
theorem dE_endHeads_44 : decode cE_endHeads 44 = .ok (.putfield 57, 3) := by decide +kernel
theorem dE_endHeads_47 : decode cE_endHeads 47 = .ok (.iinc 4 1, 3) := by decide +kernel
theorem dE_endHeads_50 : decode cE_endHeads 50 = .ok (.goto (-42), 3) := by decide +kernel
theorem dE_endHeads_53 : decode cE_endHeads 53 = .ok (.return_, 1) := by decide +kernel
theorem dE_newAgent_0 : decode cE_newAgent 0 = .ok (.new 9, 3) := by decide +kernel
theorem dE_newAgent_3 : decode cE_newAgent 3 = .ok (.dup, 1) := by decide +kernel
theorem dE_newAgent_4 : decode cE_newAgent 4 = .ok (.iload_n 1, 1) := by decide +kernel
theorem dE_newAgent_5 : decode cE_newAgent 5 = .ok (.aload_n 0, 1) := by decide +kernel
theorem dE_newAgent_6 : decode cE_newAgent 6 = .ok (.getfield 15, 3) := by decide +kernel
theorem dE_newAgent_9 : decode cE_newAgent 9 = .ok (.invokespecial 171, 3) := by decide +kernel
theorem dE_newAgent_12 : decode cE_newAgent 12 = .ok (.astore_n 2, 1) := by decide +kernel
theorem dE_newAgent_13 : decode cE_newAgent 13 = .ok (.aload_n 0, 1) := by decide +kernel
theorem dE_newAgent_14 : decode cE_newAgent 14 = .ok (.getfield 11, 3) := by decide +kernel
theorem dE_newAgent_17 : decode cE_newAgent 17 = .ok (.iload_n 1, 1) := by decide +kernel
theorem dE_newAgent_18 : decode cE_newAgent 18 = .ok (.aload_n 2, 1) := by decide +kernel
theorem dE_newAgent_19 : decode cE_newAgent 19 = .ok (.aastore, 1) := by decide +kernel
theorem dE_newAgent_20 : decode cE_newAgent 20 = .ok (.aload_n 0, 1) := by decide +kernel
theorem dE_newAgent_21 : decode cE_newAgent 21 = .ok (.dup, 1) := by decide +kernel
theorem dE_newAgent_22 : decode cE_newAgent 22 = .ok (.getfield 15, 3) := by decide +kernel
theorem dE_newAgent_25 : decode cE_newAgent 25 = .ok (.iconst 1, 1) := by decide +kernel
theorem dE_newAgent_26 : decode cE_newAgent 26 = .ok (.iadd, 1) := by decide +kernel
theorem dE_newAgent_27 : decode cE_newAgent 27 = .ok (.putfield 15, 3) := by decide +kernel
theorem dE_newAgent_30 : decode cE_newAgent 30 = .ok (.aload_n 2, 1) := by decide +kernel
theorem dE_newAgent_31 : decode cE_newAgent 31 = .ok (.areturn, 1) := by decide +kernel
theorem dA_init_0 : decode cA_init 0 = .ok (.aload_n 0, 1) := by decide +kernel
theorem dA_init_1 : decode cA_init 1 = .ok (.invokespecial 1, 3) := by decide +kernel
theorem dA_init_4 : decode cA_init 4 = .ok (.aload_n 0, 1) := by decide +kernel
theorem dA_init_5 : decode cA_init 5 = .ok (.iconst 0, 1) := by decide +kernel
theorem dA_init_6 : decode cA_init 6 = .ok (.putfield 7, 3) := by decide +kernel
theorem dA_init_9 : decode cA_init 9 = .ok (.aload_n 0, 1) := by decide +kernel
theorem dA_init_10 : decode cA_init 10 = .ok (.iconst (-1), 1) := by decide +kernel
theorem dA_init_11 : decode cA_init 11 = .ok (.putfield 13, 3) := by decide +kernel
theorem dA_init_14 : decode cA_init 14 = .ok (.aload_n 0, 1) := by decide +kernel
theorem dA_init_15 : decode cA_init 15 = .ok (.iconst 0, 1) := by decide +kernel
theorem dA_init_16 : decode cA_init 16 = .ok (.putfield 16, 3) := by decide +kernel
theorem dA_init_19 : decode cA_init 19 = .ok (.aload_n 0, 1) := by decide +kernel
theorem dA_init_20 : decode cA_init 20 = .ok (.aconst_null, 1) := by decide +kernel
theorem dA_init_21 : decode cA_init 21 = .ok (.putfield 20, 3) := by decide +kernel
theorem dA_init_24 : decode cA_init 24 = .ok (.aload_n 0, 1) := by decide +kernel
theorem dA_init_25 : decode cA_init 25 = .ok (.iload_n 1, 1) := by decide +kernel
theorem dA_init_26 : decode cA_init 26 = .ok (.putfield 24, 3) := by decide +kernel
theorem dA_init_29 : decode cA_init 29 = .ok (.aload_n 0, 1) := by decide +kernel
theorem dA_init_30 : decode cA_init 30 = .ok (.iload_n 2, 1) := by decide +kernel
theorem dA_init_31 : decode cA_init 31 = .ok (.putfield 27, 3) := by decide +kernel
theorem dA_init_34 : decode cA_init 34 = .ok (.return_, 1) := by decide +kernel
theorem dE_append_0 : decode cE_append 0 = .ok (.aload 4, 2) := by decide +kernel
theorem dE_append_2 : decode cE_append 2 = .ok (.aload_n 1, 1) := by decide +kernel
theorem dE_append_3 : decode cE_append 3 = .ok (.getfield 82, 3) := by decide +kernel
theorem dE_append_6 : decode cE_append 6 = .ok (.aload_n 1, 1) := by decide +kernel
theorem dE_append_7 : decode cE_append 7 = .ok (.getfield 85, 3) := by decide +kernel
theorem dE_append_10 : decode cE_append 10 = .ok (.iconst 1, 1) := by decide +kernel
theorem dE_append_11 : decode cE_append 11 = .ok (.iadd, 1) := by decide +kernel
theorem dE_append_12 : decode cE_append 12 = .ok (.iastore, 1) := by decide +kernel
theorem dE_append_13 : decode cE_append 13 = .ok (.new 19, 3) := by decide +kernel
theorem dE_append_16 : decode cE_append 16 = .ok (.dup, 1) := by decide +kernel
theorem dE_append_17 : decode cE_append 17 = .ok (.aload_n 1, 1) := by decide +kernel
theorem dE_append_18 : decode cE_append 18 = .ok (.aload_n 0, 1) := by decide +kernel
theorem dE_append_19 : decode cE_append 19 = .ok (.getfield 25, 3) := by decide +kernel
theorem dE_append_22 : decode cE_append 22 = .ok (.iload_n 2, 1) := by decide +kernel
theorem dE_append_23 : decode cE_append 23 = .ok (.aload_n 3, 1) := by decide +kernel
theorem dE_append_24 : decode cE_append 24 = .ok (.aload 4, 2) := by decide +kernel
theorem dE_append_26 : decode cE_append 26 = .ok (.aload_n 0, 1) := by decide +kernel
theorem dE_append_27 : decode cE_append 27 = .ok (.getfield 28, 3) := by decide +kernel
theorem dE_append_30 : decode cE_append 30 = .ok (.invokespecial 174, 3) := by decide +kernel
theorem dE_append_33 : decode cE_append 33 = .ok (.astore 5, 2) := by decide +kernel
theorem dE_append_35 : decode cE_append 35 = .ok (.aload 5, 2) := by decide +kernel
theorem dE_append_37 : decode cE_append 37 = .ok (.getfield 115, 3) := by decide +kernel
theorem dE_append_40 : decode cE_append 40 = .ok (.istore 6, 2) := by decide +kernel
theorem dE_append_42 : decode cE_append 42 = .ok (.iload 6, 2) := by decide +kernel
theorem dE_append_44 : decode cE_append 44 = .ok (.aload 5, 2) := by decide +kernel
theorem dE_append_46 : decode cE_append 46 = .ok (.getfield 142, 3) := by decide +kernel
theorem dE_append_49 : decode cE_append 49 = .ok (.if_icmp .gt 18, 3) := by decide +kernel
theorem dE_append_52 : decode cE_append 52 = .ok (.aload_n 0, 1) := by decide +kernel
theorem dE_append_53 : decode cE_append 53 = .ok (.getfield 21, 3) := by decide +kernel
theorem dE_append_56 : decode cE_append 56 = .ok (.iload 6, 2) := by decide +kernel
theorem dE_append_58 : decode cE_append 58 = .ok (.aload 5, 2) := by decide +kernel
theorem dE_append_60 : decode cE_append 60 = .ok (.aastore, 1) := by decide +kernel
theorem dE_append_61 : decode cE_append 61 = .ok (.iinc 6 1, 3) := by decide +kernel
theorem dE_append_64 : decode cE_append 64 = .ok (.goto (-22), 3) := by decide +kernel
theorem dE_append_67 : decode cE_append 67 = .ok (.aload_n 1, 1) := by decide +kernel
theorem dE_append_68 : decode cE_append 68 = .ok (.dup, 1) := by decide +kernel
theorem dE_append_69 : decode cE_append 69 = .ok (.getfield 85, 3) := by decide +kernel
theorem dE_append_72 : decode cE_append 72 = .ok (.iload_n 2, 1) := by decide +kernel
theorem dE_append_73 : decode cE_append 73 = .ok (.iadd, 1) := by decide +kernel
theorem dE_append_74 : decode cE_append 74 = .ok (.putfield 85, 3) := by decide +kernel
theorem dE_append_77 : decode cE_append 77 = .ok (.aload_n 1, 1) := by decide +kernel
theorem dE_append_78 : decode cE_append 78 = .ok (.aload 5, 2) := by decide +kernel
theorem dE_append_80 : decode cE_append 80 = .ok (.getfield 142, 3) := by decide +kernel
theorem dE_append_83 : decode cE_append 83 = .ok (.putfield 61, 3) := by decide +kernel
theorem dE_append_86 : decode cE_append 86 = .ok (.aload_n 1, 1) := by decide +kernel
theorem dE_append_87 : decode cE_append 87 = .ok (.iconst 1, 1) := by decide +kernel
theorem dE_append_88 : decode cE_append 88 = .ok (.putfield 57, 3) := by decide +kernel
theorem dE_append_91 : decode cE_append 91 = .ok (.aload_n 1, 1) := by decide +kernel
theorem dE_append_92 : decode cE_append 92 = .ok (.aload 5, 2) := by decide +kernel
theorem dE_append_94 : decode cE_append 94 = .ok (.putfield 158, 3) := by decide +kernel
theorem dE_append_97 : decode cE_append 97 = .ok (.aload_n 0, 1) := by decide +kernel
theorem dE_append_98 : decode cE_append 98 = .ok (.dup, 1) := by decide +kernel
theorem dE_append_99 : decode cE_append 99 = .ok (.getfield 25, 3) := by decide +kernel
theorem dE_append_102 : decode cE_append 102 = .ok (.iload_n 2, 1) := by decide +kernel
theorem dE_append_103 : decode cE_append 103 = .ok (.iadd, 1) := by decide +kernel
theorem dE_append_104 : decode cE_append 104 = .ok (.putfield 25, 3) := by decide +kernel
theorem dE_append_107 : decode cE_append 107 = .ok (.aload_n 0, 1) := by decide +kernel
theorem dE_append_108 : decode cE_append 108 = .ok (.aload 5, 2) := by decide +kernel
theorem dE_append_110 : decode cE_append 110 = .ok (.putfield 28, 3) := by decide +kernel
theorem dE_append_113 : decode cE_append 113 = .ok (.return_, 1) := by decide +kernel
theorem dS_init_0 : decode cS_init 0 = .ok (.aload_n 0, 1) := by decide +kernel
theorem dS_init_1 : decode cS_init 1 = .ok (.invokespecial 1, 3) := by decide +kernel
theorem dS_init_4 : decode cS_init 4 = .ok (.aload_n 0, 1) := by decide +kernel
theorem dS_init_5 : decode cS_init 5 = .ok (.aload_n 1, 1) := by decide +kernel
theorem dS_init_6 : decode cS_init 6 = .ok (.putfield 7, 3) := by decide +kernel
theorem dS_init_9 : decode cS_init 9 = .ok (.aload_n 0, 1) := by decide +kernel
theorem dS_init_10 : decode cS_init 10 = .ok (.iload_n 2, 1) := by decide +kernel
theorem dS_init_11 : decode cS_init 11 = .ok (.putfield 13, 3) := by decide +kernel
theorem dS_init_14 : decode cS_init 14 = .ok (.aload_n 0, 1) := by decide +kernel
theorem dS_init_15 : decode cS_init 15 = .ok (.iload_n 2, 1) := by decide +kernel
theorem dS_init_16 : decode cS_init 16 = .ok (.iload_n 3, 1) := by decide +kernel
theorem dS_init_17 : decode cS_init 17 = .ok (.iadd, 1) := by decide +kernel
theorem dS_init_18 : decode cS_init 18 = .ok (.iconst 1, 1) := by decide +kernel
theorem dS_init_19 : decode cS_init 19 = .ok (.isub, 1) := by decide +kernel
theorem dS_init_20 : decode cS_init 20 = .ok (.putfield 17, 3) := by decide +kernel
theorem dS_init_23 : decode cS_init 23 = .ok (.aload_n 0, 1) := by decide +kernel
theorem dS_init_24 : decode cS_init 24 = .ok (.aload_n 1, 1) := by decide +kernel
theorem dS_init_25 : decode cS_init 25 = .ok (.getfield 20, 3) := by decide +kernel
theorem dS_init_28 : decode cS_init 28 = .ok (.putfield 25, 3) := by decide +kernel
theorem dS_init_31 : decode cS_init 31 = .ok (.aload_n 0, 1) := by decide +kernel
theorem dS_init_32 : decode cS_init 32 = .ok (.aload 4, 2) := by decide +kernel
theorem dS_init_34 : decode cS_init 34 = .ok (.putfield 28, 3) := by decide +kernel
theorem dS_init_37 : decode cS_init 37 = .ok (.aload_n 0, 1) := by decide +kernel
theorem dS_init_38 : decode cS_init 38 = .ok (.aload 5, 2) := by decide +kernel
theorem dS_init_40 : decode cS_init 40 = .ok (.putfield 32, 3) := by decide +kernel
theorem dS_init_43 : decode cS_init 43 = .ok (.aload_n 0, 1) := by decide +kernel
theorem dS_init_44 : decode cS_init 44 = .ok (.aload 5, 2) := by decide +kernel
theorem dS_init_46 : decode cS_init 46 = .ok (.invokestatic 35, 3) := by decide +kernel
theorem dS_init_49 : decode cS_init 49 = .ok (.iload_n 2, 1) := by decide +kernel
theorem dS_init_50 : decode cS_init 50 = .ok (.iconst 1, 1) := by decide +kernel
theorem dS_init_51 : decode cS_init 51 = .ok (.iadd, 1) := by decide +kernel
theorem dS_init_52 : decode cS_init 52 = .ok (.if_icmp .ne 7, 3) := by decide +kernel
theorem dS_init_55 : decode cS_init 55 = .ok (.iconst 1, 1) := by decide +kernel
theorem dS_init_56 : decode cS_init 56 = .ok (.goto 4, 3) := by decide +kernel
theorem dS_init_59 : decode cS_init 59 = .ok (.iconst 0, 1) := by decide +kernel
theorem dS_init_60 : decode cS_init 60 = .ok (.putfield 39, 3) := by decide +kernel
theorem dS_init_63 : decode cS_init 63 = .ok (.aload_n 0, 1) := by decide +kernel
theorem dS_init_64 : decode cS_init 64 = .ok (.aload 6, 2) := by decide +kernel
theorem dS_init_66 : decode cS_init 66 = .ok (.putfield 43, 3) := by decide +kernel
theorem dS_init_69 : decode cS_init 69 = .ok (.aload_n 0, 1) := by decide +kernel
theorem dS_init_70 : decode cS_init 70 = .ok (.aload_n 1, 1) := by decide +kernel
theorem dS_init_71 : decode cS_init 71 = .ok (.getfield 47, 3) := by decide +kernel
theorem dS_init_74 : decode cS_init 74 = .ok (.putfield 50, 3) := by decide +kernel
theorem dS_init_77 : decode cS_init 77 = .ok (.return_, 1) := by decide +kernel
theorem dS_sum_0 : decode cS_sum 0 = .ok (.iconst 0, 1) := by decide +kernel
theorem dS_sum_1 : decode cS_sum 1 = .ok (.istore_n 1, 1) := by decide +kernel
theorem dS_sum_2 : decode cS_sum 2 = .ok (.aload_n 0, 1) := by decide +kernel
theorem dS_sum_3 : decode cS_sum 3 = .ok (.astore_n 2, 1) := by decide +kernel
theorem dS_sum_4 : decode cS_sum 4 = .ok (.aload_n 2, 1) := by decide +kernel
theorem dS_sum_5 : decode cS_sum 5 = .ok (.arraylength, 1) := by decide +kernel
theorem dS_sum_6 : decode cS_sum 6 = .ok (.istore_n 3, 1) := by decide +kernel
theorem dS_sum_7 : decode cS_sum 7 = .ok (.iconst 0, 1) := by decide +kernel
theorem dS_sum_8 : decode cS_sum 8 = .ok (.istore 4, 2) := by decide +kernel
theorem dS_sum_10 : decode cS_sum 10 = .ok (.iload 4, 2) := by decide +kernel
theorem dS_sum_12 : decode cS_sum 12 = .ok (.iload_n 3, 1) := by decide +kernel
theorem dS_sum_13 : decode cS_sum 13 = .ok (.if_icmp .ge 20, 3) := by decide +kernel
theorem dS_sum_16 : decode cS_sum 16 = .ok (.aload_n 2, 1) := by decide +kernel
theorem dS_sum_17 : decode cS_sum 17 = .ok (.iload 4, 2) := by decide +kernel
theorem dS_sum_19 : decode cS_sum 19 = .ok (.iaload, 1) := by decide +kernel
theorem dS_sum_20 : decode cS_sum 20 = .ok (.istore 5, 2) := by decide +kernel
theorem dS_sum_22 : decode cS_sum 22 = .ok (.iload_n 1, 1) := by decide +kernel
theorem dS_sum_23 : decode cS_sum 23 = .ok (.iload 5, 2) := by decide +kernel
theorem dS_sum_25 : decode cS_sum 25 = .ok (.iadd, 1) := by decide +kernel
theorem dS_sum_26 : decode cS_sum 26 = .ok (.istore_n 1, 1) := by decide +kernel
theorem dS_sum_27 : decode cS_sum 27 = .ok (.iinc 4 1, 3) := by decide +kernel
theorem dS_sum_30 : decode cS_sum 30 = .ok (.goto (-20), 3) := by decide +kernel
theorem dS_sum_33 : decode cS_sum 33 = .ok (.iload_n 1, 1) := by decide +kernel
theorem dS_sum_34 : decode cS_sum 34 = .ok (.ireturn, 1) := by decide +kernel
theorem dL_events_0 : decode cL_events 0 = .ok (.aload_n 2, 1) := by decide +kernel
theorem dL_events_1 : decode cL_events 1 = .ok (.iconst 0, 1) := by decide +kernel
theorem dL_events_2 : decode cL_events 2 = .ok (.aload_n 0, 1) := by decide +kernel
theorem dL_events_3 : decode cL_events 3 = .ok (.iload_n 1, 1) := by decide +kernel
theorem dL_events_4 : decode cL_events 4 = .ok (.invokevirtual 24, 3) := by decide +kernel
theorem dL_events_7 : decode cL_events 7 = .ok (.i2l, 1) := by decide +kernel
theorem dL_events_8 : decode cL_events 8 = .ok (.lastore, 1) := by decide +kernel
theorem dL_events_9 : decode cL_events 9 = .ok (.goto 6, 3) := by decide +kernel
theorem dL_events_12 : decode cL_events 12 = .ok (.astore_n 3, 1) := by decide +kernel
theorem dL_events_13 : decode cL_events 13 = .ok (.iconst 1, 1) := by decide +kernel
theorem dL_events_14 : decode cL_events 14 = .ok (.ireturn, 1) := by decide +kernel
theorem dL_events_15 : decode cL_events 15 = .ok (.iconst 0, 1) := by decide +kernel
theorem dL_events_16 : decode cL_events 16 = .ok (.ireturn, 1) := by decide +kernel
theorem dE_events_0 : decode cE_events 0 = .ok (.iload_n 1, 1) := by decide +kernel
theorem dE_events_1 : decode cE_events 1 = .ok (.iconst (-1), 1) := by decide +kernel
theorem dE_events_2 : decode cE_events 2 = .ok (.if_icmp .ne 8, 3) := by decide +kernel
theorem dE_events_5 : decode cE_events 5 = .ok (.aload_n 0, 1) := by decide +kernel
theorem dE_events_6 : decode cE_events 6 = .ok (.getfield 25, 3) := by decide +kernel
theorem dE_events_9 : decode cE_events 9 = .ok (.ireturn, 1) := by decide +kernel
theorem dE_events_10 : decode cE_events 10 = .ok (.iload_n 1, 1) := by decide +kernel
theorem dE_events_11 : decode cE_events 11 = .ok (.invokestatic 64, 3) := by decide +kernel
theorem dE_events_14 : decode cE_events 14 = .ok (.ifCond .ne 11, 3) := by decide +kernel
theorem dE_events_17 : decode cE_events 17 = .ok (.new 67, 3) := by decide +kernel
theorem dE_events_20 : decode cE_events 20 = .ok (.dup, 1) := by decide +kernel
theorem dE_events_21 : decode cE_events 21 = .ok (.invokespecial 69, 3) := by decide +kernel
theorem dE_events_24 : decode cE_events 24 = .ok (.athrow, 1) := by decide +kernel
theorem dE_events_25 : decode cE_events 25 = .ok (.aload_n 0, 1) := by decide +kernel
theorem dE_events_26 : decode cE_events 26 = .ok (.getfield 11, 3) := by decide +kernel
theorem dE_events_29 : decode cE_events 29 = .ok (.iload_n 1, 1) := by decide +kernel
theorem dE_events_30 : decode cE_events 30 = .ok (.aaload, 1) := by decide +kernel
theorem dE_events_31 : decode cE_events 31 = .ok (.ifnonnull 7, 3) := by decide +kernel
theorem dE_events_34 : decode cE_events 34 = .ok (.iconst 0, 1) := by decide +kernel
theorem dE_events_35 : decode cE_events 35 = .ok (.goto 12, 3) := by decide +kernel
theorem dE_events_38 : decode cE_events 38 = .ok (.aload_n 0, 1) := by decide +kernel
theorem dE_events_39 : decode cE_events 39 = .ok (.getfield 11, 3) := by decide +kernel
theorem dE_events_42 : decode cE_events 42 = .ok (.iload_n 1, 1) := by decide +kernel
theorem dE_events_43 : decode cE_events 43 = .ok (.aaload, 1) := by decide +kernel
theorem dE_events_44 : decode cE_events 44 = .ok (.getfield 85, 3) := by decide +kernel
theorem dE_events_47 : decode cE_events 47 = .ok (.ireturn, 1) := by decide +kernel
theorem dL_place_0 : decode cL_place 0 = .ok (.aload_n 3, 1) := by decide +kernel
theorem dL_place_1 : decode cL_place 1 = .ok (.iconst 0, 1) := by decide +kernel
theorem dL_place_2 : decode cL_place 2 = .ok (.aload_n 0, 1) := by decide +kernel
theorem dL_place_3 : decode cL_place 3 = .ok (.iload_n 1, 1) := by decide +kernel
theorem dL_place_4 : decode cL_place 4 = .ok (.iload_n 2, 1) := by decide +kernel
theorem dL_place_5 : decode cL_place 5 = .ok (.invokevirtual 28, 3) := by decide +kernel
theorem dL_place_8 : decode cL_place 8 = .ok (.i2l, 1) := by decide +kernel
theorem dL_place_9 : decode cL_place 9 = .ok (.lastore, 1) := by decide +kernel
theorem dL_place_10 : decode cL_place 10 = .ok (.goto 7, 3) := by decide +kernel
theorem dL_place_13 : decode cL_place 13 = .ok (.astore 4, 2) := by decide +kernel
theorem dL_place_15 : decode cL_place 15 = .ok (.iconst 1, 1) := by decide +kernel
theorem dL_place_16 : decode cL_place 16 = .ok (.ireturn, 1) := by decide +kernel
theorem dL_place_17 : decode cL_place 17 = .ok (.iconst 0, 1) := by decide +kernel
theorem dL_place_18 : decode cL_place 18 = .ok (.ireturn, 1) := by decide +kernel
theorem dE_place_0 : decode cE_place 0 = .ok (.aload_n 0, 1) := by decide +kernel
theorem dE_place_1 : decode cE_place 1 = .ok (.iload_n 1, 1) := by decide +kernel
theorem dE_place_2 : decode cE_place 2 = .ok (.iload_n 2, 1) := by decide +kernel
theorem dE_place_3 : decode cE_place 3 = .ok (.invokevirtual 39, 3) := by decide +kernel
theorem dE_place_6 : decode cE_place 6 = .ok (.ireturn, 1) := by decide +kernel
theorem dL_id_0 : decode cL_id 0 = .ok (.aload_n 2, 1) := by decide +kernel
theorem dL_id_1 : decode cL_id 1 = .ok (.iconst 0, 1) := by decide +kernel
theorem dL_id_2 : decode cL_id 2 = .ok (.aload_n 0, 1) := by decide +kernel
theorem dL_id_3 : decode cL_id 3 = .ok (.iload_n 1, 1) := by decide +kernel
theorem dL_id_4 : decode cL_id 4 = .ok (.invokevirtual 31, 3) := by decide +kernel
theorem dL_id_7 : decode cL_id 7 = .ok (.lastore, 1) := by decide +kernel
theorem dL_id_8 : decode cL_id 8 = .ok (.goto 6, 3) := by decide +kernel
theorem dL_id_11 : decode cL_id 11 = .ok (.astore_n 3, 1) := by decide +kernel
theorem dL_id_12 : decode cL_id 12 = .ok (.iconst 1, 1) := by decide +kernel
theorem dL_id_13 : decode cL_id 13 = .ok (.ireturn, 1) := by decide +kernel
theorem dL_id_14 : decode cL_id 14 = .ok (.iconst 0, 1) := by decide +kernel
theorem dL_id_15 : decode cL_id 15 = .ok (.ireturn, 1) := by decide +kernel
theorem dE_id_0 : decode cE_id 0 = .ok (.aload_n 0, 1) := by decide +kernel
theorem dE_id_1 : decode cE_id 1 = .ok (.iload_n 1, 1) := by decide +kernel
theorem dE_id_2 : decode cE_id 2 = .ok (.invokevirtual 100, 3) := by decide +kernel
theorem dE_id_5 : decode cE_id 5 = .ok (.astore_n 2, 1) := by decide +kernel
theorem dE_id_6 : decode cE_id 6 = .ok (.aload_n 2, 1) := by decide +kernel
theorem dE_id_7 : decode cE_id 7 = .ok (.getfield 104, 3) := by decide +kernel
theorem dE_id_10 : decode cE_id 10 = .ok (.getfield 108, 3) := by decide +kernel
theorem dE_id_13 : decode cE_id 13 = .ok (.i2l, 1) := by decide +kernel
theorem dE_id_14 : decode cE_id 14 = .ok (.bipush 32, 2) := by decide +kernel
theorem dE_id_16 : decode cE_id 16 = .ok (.lshl, 1) := by decide +kernel
theorem dE_id_17 : decode cE_id 17 = .ok (.aload_n 2, 1) := by decide +kernel
theorem dE_id_18 : decode cE_id 18 = .ok (.iload_n 1, 1) := by decide +kernel
theorem dE_id_19 : decode cE_id 19 = .ok (.invokevirtual 111, 3) := by decide +kernel
theorem dE_id_22 : decode cE_id 22 = .ok (.i2l, 1) := by decide +kernel
theorem dE_id_23 : decode cE_id 23 = .ok (.ladd, 1) := by decide +kernel
theorem dE_id_24 : decode cE_id 24 = .ok (.lreturn, 1) := by decide +kernel
theorem dL_parentOf_0 : decode cL_parentOf 0 = .ok (.aload_n 3, 1) := by decide +kernel
theorem dL_parentOf_1 : decode cL_parentOf 1 = .ok (.iconst 0, 1) := by decide +kernel
theorem dL_parentOf_2 : decode cL_parentOf 2 = .ok (.aload_n 0, 1) := by decide +kernel
theorem dL_parentOf_3 : decode cL_parentOf 3 = .ok (.iload_n 1, 1) := by decide +kernel
theorem dL_parentOf_4 : decode cL_parentOf 4 = .ok (.iload_n 2, 1) := by decide +kernel
theorem dL_parentOf_5 : decode cL_parentOf 5 = .ok (.invokevirtual 35, 3) := by decide +kernel
theorem dL_parentOf_8 : decode cL_parentOf 8 = .ok (.i2l, 1) := by decide +kernel
theorem dL_parentOf_9 : decode cL_parentOf 9 = .ok (.lastore, 1) := by decide +kernel
theorem dL_parentOf_10 : decode cL_parentOf 10 = .ok (.goto 7, 3) := by decide +kernel
theorem dL_parentOf_13 : decode cL_parentOf 13 = .ok (.astore 4, 2) := by decide +kernel
theorem dL_parentOf_15 : decode cL_parentOf 15 = .ok (.iconst 1, 1) := by decide +kernel
theorem dL_parentOf_16 : decode cL_parentOf 16 = .ok (.ireturn, 1) := by decide +kernel
theorem dL_parentOf_17 : decode cL_parentOf 17 = .ok (.iconst 0, 1) := by decide +kernel
theorem dL_parentOf_18 : decode cL_parentOf 18 = .ok (.ireturn, 1) := by decide +kernel
theorem dE_parentOf_0 : decode cE_parentOf 0 = .ok (.aload_n 0, 1) := by decide +kernel
theorem dE_parentOf_1 : decode cE_parentOf 1 = .ok (.iload_n 1, 1) := by decide +kernel
theorem dE_parentOf_2 : decode cE_parentOf 2 = .ok (.invokevirtual 100, 3) := by decide +kernel
theorem dE_parentOf_5 : decode cE_parentOf 5 = .ok (.astore_n 3, 1) := by decide +kernel
theorem dE_parentOf_6 : decode cE_parentOf 6 = .ok (.iload_n 1, 1) := by decide +kernel
theorem dE_parentOf_7 : decode cE_parentOf 7 = .ok (.aload_n 3, 1) := by decide +kernel
theorem dE_parentOf_8 : decode cE_parentOf 8 = .ok (.getfield 115, 3) := by decide +kernel
theorem dE_parentOf_11 : decode cE_parentOf 11 = .ok (.if_icmp .ne 7, 3) := by decide +kernel
theorem dE_parentOf_14 : decode cE_parentOf 14 = .ok (.iconst 1, 1) := by decide +kernel
theorem dE_parentOf_15 : decode cE_parentOf 15 = .ok (.goto 4, 3) := by decide +kernel
theorem dE_parentOf_18 : decode cE_parentOf 18 = .ok (.iconst 0, 1) := by decide +kernel
theorem dE_parentOf_19 : decode cE_parentOf 19 = .ok (.istore 4, 2) := by decide +kernel
theorem dE_parentOf_21 : decode cE_parentOf 21 = .ok (.iload 4, 2) := by decide +kernel
theorem dE_parentOf_23 : decode cE_parentOf 23 = .ok (.ifCond .eq 11, 3) := by decide +kernel
theorem dE_parentOf_26 : decode cE_parentOf 26 = .ok (.aload_n 3, 1) := by decide +kernel
theorem dE_parentOf_27 : decode cE_parentOf 27 = .ok (.getfield 118, 3) := by decide +kernel
theorem dE_parentOf_30 : decode cE_parentOf 30 = .ok (.arraylength, 1) := by decide +kernel
theorem dE_parentOf_31 : decode cE_parentOf 31 = .ok (.goto 4, 3) := by decide +kernel
theorem dE_parentOf_34 : decode cE_parentOf 34 = .ok (.iconst 1, 1) := by decide +kernel
theorem dE_parentOf_35 : decode cE_parentOf 35 = .ok (.istore 5, 2) := by decide +kernel
theorem dE_parentOf_37 : decode cE_parentOf 37 = .ok (.iload_n 2, 1) := by decide +kernel
theorem dE_parentOf_38 : decode cE_parentOf 38 = .ok (.iconst (-1), 1) := by decide +kernel
theorem dE_parentOf_39 : decode cE_parentOf 39 = .ok (.if_icmp .ne 6, 3) := by decide +kernel
theorem dE_parentOf_42 : decode cE_parentOf 42 = .ok (.iload 5, 2) := by decide +kernel
theorem dE_parentOf_44 : decode cE_parentOf 44 = .ok (.ireturn, 1) := by decide +kernel
theorem dE_parentOf_45 : decode cE_parentOf 45 = .ok (.iload_n 2, 1) := by decide +kernel
theorem dE_parentOf_46 : decode cE_parentOf 46 = .ok (.ifCond .lt 9, 3) := by decide +kernel
theorem dE_parentOf_49 : decode cE_parentOf 49 = .ok (.iload_n 2, 1) := by decide +kernel
theorem dE_parentOf_50 : decode cE_parentOf 50 = .ok (.iload 5, 2) := by decide +kernel
theorem dE_parentOf_52 : decode cE_parentOf 52 = .ok (.if_icmp .lt 11, 3) := by decide +kernel
theorem dE_parentOf_55 : decode cE_parentOf 55 = .ok (.new 121, 3) := by decide +kernel
theorem dE_parentOf_58 : decode cE_parentOf 58 = .ok (.dup, 1) := by decide +kernel
theorem dE_parentOf_59 : decode cE_parentOf 59 = .ok (.invokespecial 123, 3) := by decide +kernel
theorem dE_parentOf_62 : decode cE_parentOf 62 = .ok (.athrow, 1) := by decide +kernel
theorem dE_parentOf_63 : decode cE_parentOf 63 = .ok (.iload 4, 2) := by decide +kernel
theorem dE_parentOf_65 : decode cE_parentOf 65 = .ok (.ifCond .eq 12, 3) := by decide +kernel
theorem dE_parentOf_68 : decode cE_parentOf 68 = .ok (.aload_n 3, 1) := by decide +kernel
theorem dE_parentOf_69 : decode cE_parentOf 69 = .ok (.getfield 118, 3) := by decide +kernel
theorem dE_parentOf_72 : decode cE_parentOf 72 = .ok (.iload_n 2, 1) := by decide +kernel
theorem dE_parentOf_73 : decode cE_parentOf 73 = .ok (.iaload, 1) := by decide +kernel
theorem dE_parentOf_74 : decode cE_parentOf 74 = .ok (.goto 6, 3) := by decide +kernel
theorem dE_parentOf_77 : decode cE_parentOf 77 = .ok (.iload_n 1, 1) := by decide +kernel
theorem dE_parentOf_78 : decode cE_parentOf 78 = .ok (.iconst 1, 1) := by decide +kernel
theorem dE_parentOf_79 : decode cE_parentOf 79 = .ok (.isub, 1) := by decide +kernel
theorem dE_parentOf_80 : decode cE_parentOf 80 = .ok (.ireturn, 1) := by decide +kernel
theorem dL_related_0 : decode cL_related 0 = .ok (.aload_n 3, 1) := by decide +kernel
theorem dL_related_1 : decode cL_related 1 = .ok (.iconst 0, 1) := by decide +kernel
theorem dL_related_2 : decode cL_related 2 = .ok (.aload_n 0, 1) := by decide +kernel
theorem dL_related_3 : decode cL_related 3 = .ok (.iload_n 1, 1) := by decide +kernel
theorem dL_related_4 : decode cL_related 4 = .ok (.iload_n 2, 1) := by decide +kernel
theorem dL_related_5 : decode cL_related 5 = .ok (.invokevirtual 38, 3) := by decide +kernel
theorem dL_related_8 : decode cL_related 8 = .ok (.i2l, 1) := by decide +kernel
theorem dL_related_9 : decode cL_related 9 = .ok (.lastore, 1) := by decide +kernel
theorem dL_related_10 : decode cL_related 10 = .ok (.goto 7, 3) := by decide +kernel
theorem dL_related_13 : decode cL_related 13 = .ok (.astore 4, 2) := by decide +kernel
theorem dL_related_15 : decode cL_related 15 = .ok (.iconst 1, 1) := by decide +kernel
theorem dL_related_16 : decode cL_related 16 = .ok (.ireturn, 1) := by decide +kernel
theorem dL_related_17 : decode cL_related 17 = .ok (.iconst 0, 1) := by decide +kernel
theorem dL_related_18 : decode cL_related 18 = .ok (.ireturn, 1) := by decide +kernel
end
section
theorem dE_related_0 : decode cE_related 0 = .ok (.aload_n 0, 1) := by decide +kernel
theorem dE_related_1 : decode cE_related 1 = .ok (.iload_n 1, 1) := by decide +kernel
theorem dE_related_2 : decode cE_related 2 = .ok (.iload_n 2, 1) := by decide +kernel
theorem dE_related_3 : decode cE_related 3 = .ok (.invokevirtual 124, 3) := by decide +kernel
theorem dE_related_6 : decode cE_related 6 = .ok (.ifCond .eq 5, 3) := by decide +kernel
theorem dE_related_9 : decode cE_related 9 = .ok (.iconst 1, 1) := by decide +kernel
theorem dE_related_10 : decode cE_related 10 = .ok (.ireturn, 1) := by decide +kernel
theorem dE_related_11 : decode cE_related 11 = .ok (.aload_n 0, 1) := by decide +kernel
theorem dE_related_12 : decode cE_related 12 = .ok (.iload_n 2, 1) := by decide +kernel
theorem dE_related_13 : decode cE_related 13 = .ok (.iload_n 1, 1) := by decide +kernel
theorem dE_related_14 : decode cE_related 14 = .ok (.invokevirtual 124, 3) := by decide +kernel
theorem dE_related_17 : decode cE_related 17 = .ok (.ifCond .eq 5, 3) := by decide +kernel
theorem dE_related_20 : decode cE_related 20 = .ok (.iconst 2, 1) := by decide +kernel
theorem dE_related_21 : decode cE_related 21 = .ok (.ireturn, 1) := by decide +kernel
theorem dE_related_22 : decode cE_related 22 = .ok (.iload_n 1, 1) := by decide +kernel
theorem dE_related_23 : decode cE_related 23 = .ok (.iload_n 2, 1) := by decide +kernel
theorem dE_related_24 : decode cE_related 24 = .ok (.if_icmp .ne 7, 3) := by decide +kernel
theorem dE_related_27 : decode cE_related 27 = .ok (.iconst 0, 1) := by decide +kernel
theorem dE_related_28 : decode cE_related 28 = .ok (.goto 4, 3) := by decide +kernel
theorem dE_related_31 : decode cE_related 31 = .ok (.iconst 3, 1) := by decide +kernel
theorem dE_related_32 : decode cE_related 32 = .ok (.ireturn, 1) := by decide +kernel
theorem dL_apart_0 : decode cL_apart 0 = .ok (.aload_n 3, 1) := by decide +kernel
theorem dL_apart_1 : decode cL_apart 1 = .ok (.iconst 0, 1) := by decide +kernel
theorem dL_apart_2 : decode cL_apart 2 = .ok (.aload_n 0, 1) := by decide +kernel
theorem dL_apart_3 : decode cL_apart 3 = .ok (.iload_n 1, 1) := by decide +kernel
theorem dL_apart_4 : decode cL_apart 4 = .ok (.iload_n 2, 1) := by decide +kernel
theorem dL_apart_5 : decode cL_apart 5 = .ok (.invokevirtual 41, 3) := by decide +kernel
theorem dL_apart_8 : decode cL_apart 8 = .ok (.i2l, 1) := by decide +kernel
theorem dL_apart_9 : decode cL_apart 9 = .ok (.lastore, 1) := by decide +kernel
theorem dL_apart_10 : decode cL_apart 10 = .ok (.goto 7, 3) := by decide +kernel
theorem dL_apart_13 : decode cL_apart 13 = .ok (.astore 4, 2) := by decide +kernel
theorem dL_apart_15 : decode cL_apart 15 = .ok (.iconst 1, 1) := by decide +kernel
theorem dL_apart_16 : decode cL_apart 16 = .ok (.ireturn, 1) := by decide +kernel
theorem dL_apart_17 : decode cL_apart 17 = .ok (.iconst 0, 1) := by decide +kernel
theorem dL_apart_18 : decode cL_apart 18 = .ok (.ireturn, 1) := by decide +kernel
theorem dE_apart_0 : decode cE_apart 0 = .ok (.aload_n 0, 1) := by decide +kernel
theorem dE_apart_1 : decode cE_apart 1 = .ok (.iload_n 1, 1) := by decide +kernel
theorem dE_apart_2 : decode cE_apart 2 = .ok (.invokevirtual 100, 3) := by decide +kernel
theorem dE_apart_5 : decode cE_apart 5 = .ok (.astore_n 3, 1) := by decide +kernel
theorem dE_apart_6 : decode cE_apart 6 = .ok (.aload_n 0, 1) := by decide +kernel
theorem dE_apart_7 : decode cE_apart 7 = .ok (.iload_n 2, 1) := by decide +kernel
theorem dE_apart_8 : decode cE_apart 8 = .ok (.invokevirtual 100, 3) := by decide +kernel
theorem dE_apart_11 : decode cE_apart 11 = .ok (.astore 4, 2) := by decide +kernel
theorem dE_apart_13 : decode cE_apart 13 = .ok (.iconst 0, 1) := by decide +kernel
theorem dE_apart_14 : decode cE_apart 14 = .ok (.istore 5, 2) := by decide +kernel
theorem dE_apart_16 : decode cE_apart 16 = .ok (.iconst 0, 1) := by decide +kernel
theorem dE_apart_17 : decode cE_apart 17 = .ok (.istore 6, 2) := by decide +kernel
theorem dE_apart_19 : decode cE_apart 19 = .ok (.iload 6, 2) := by decide +kernel
theorem dE_apart_21 : decode cE_apart 21 = .ok (.bipush 16, 2) := by decide +kernel
theorem dE_apart_23 : decode cE_apart 23 = .ok (.if_icmp .ge 34, 3) := by decide +kernel
theorem dE_apart_26 : decode cE_apart 26 = .ok (.iload 5, 2) := by decide +kernel
theorem dE_apart_28 : decode cE_apart 28 = .ok (.iconst 0, 1) := by decide +kernel
theorem dE_apart_29 : decode cE_apart 29 = .ok (.aload_n 3, 1) := by decide +kernel
theorem dE_apart_30 : decode cE_apart 30 = .ok (.iload_n 1, 1) := by decide +kernel
theorem dE_apart_31 : decode cE_apart 31 = .ok (.iload 6, 2) := by decide +kernel
theorem dE_apart_33 : decode cE_apart 33 = .ok (.invokevirtual 128, 3) := by decide +kernel
theorem dE_apart_36 : decode cE_apart 36 = .ok (.aload 4, 2) := by decide +kernel
theorem dE_apart_38 : decode cE_apart 38 = .ok (.iload_n 2, 1) := by decide +kernel
theorem dE_apart_39 : decode cE_apart 39 = .ok (.iload 6, 2) := by decide +kernel
theorem dE_apart_41 : decode cE_apart 41 = .ok (.invokevirtual 128, 3) := by decide +kernel
theorem dE_apart_44 : decode cE_apart 44 = .ok (.isub, 1) := by decide +kernel
theorem dE_apart_45 : decode cE_apart 45 = .ok (.invokestatic 131, 3) := by decide +kernel
theorem dE_apart_48 : decode cE_apart 48 = .ok (.iadd, 1) := by decide +kernel
theorem dE_apart_49 : decode cE_apart 49 = .ok (.istore 5, 2) := by decide +kernel
theorem dE_apart_51 : decode cE_apart 51 = .ok (.iinc 6 1, 3) := by decide +kernel
theorem dE_apart_54 : decode cE_apart 54 = .ok (.goto (-35), 3) := by decide +kernel
theorem dE_apart_57 : decode cE_apart 57 = .ok (.iload 5, 2) := by decide +kernel
theorem dE_apart_59 : decode cE_apart 59 = .ok (.ireturn, 1) := by decide +kernel
theorem dL_latest_0 : decode cL_latest 0 = .ok (.aload 4, 2) := by decide +kernel
theorem dL_latest_2 : decode cL_latest 2 = .ok (.iconst 0, 1) := by decide +kernel
theorem dL_latest_3 : decode cL_latest 3 = .ok (.aload_n 0, 1) := by decide +kernel
theorem dL_latest_4 : decode cL_latest 4 = .ok (.iload_n 1, 1) := by decide +kernel
theorem dL_latest_5 : decode cL_latest 5 = .ok (.iload_n 2, 1) := by decide +kernel
theorem dL_latest_6 : decode cL_latest 6 = .ok (.iload_n 3, 1) := by decide +kernel
theorem dL_latest_7 : decode cL_latest 7 = .ok (.invokevirtual 44, 3) := by decide +kernel
theorem dL_latest_10 : decode cL_latest 10 = .ok (.i2l, 1) := by decide +kernel
theorem dL_latest_11 : decode cL_latest 11 = .ok (.lastore, 1) := by decide +kernel
theorem dL_latest_12 : decode cL_latest 12 = .ok (.goto 7, 3) := by decide +kernel
theorem dL_latest_15 : decode cL_latest 15 = .ok (.astore 5, 2) := by decide +kernel
theorem dL_latest_17 : decode cL_latest 17 = .ok (.iconst 1, 1) := by decide +kernel
theorem dL_latest_18 : decode cL_latest 18 = .ok (.ireturn, 1) := by decide +kernel
theorem dL_latest_19 : decode cL_latest 19 = .ok (.iconst 0, 1) := by decide +kernel
theorem dL_latest_20 : decode cL_latest 20 = .ok (.ireturn, 1) := by decide +kernel
theorem dE_latest_0 : decode cE_latest 0 = .ok (.aload_n 0, 1) := by decide +kernel
theorem dE_latest_1 : decode cE_latest 1 = .ok (.iload_n 1, 1) := by decide +kernel
theorem dE_latest_2 : decode cE_latest 2 = .ok (.invokevirtual 100, 3) := by decide +kernel
theorem dE_latest_5 : decode cE_latest 5 = .ok (.astore 4, 2) := by decide +kernel
theorem dE_latest_7 : decode cE_latest 7 = .ok (.aload_n 0, 1) := by decide +kernel
theorem dE_latest_8 : decode cE_latest 8 = .ok (.iload_n 2, 1) := by decide +kernel
theorem dE_latest_9 : decode cE_latest 9 = .ok (.invokevirtual 100, 3) := by decide +kernel
theorem dE_latest_12 : decode cE_latest 12 = .ok (.astore 5, 2) := by decide +kernel
theorem dE_latest_14 : decode cE_latest 14 = .ok (.iload_n 3, 1) := by decide +kernel
theorem dE_latest_15 : decode cE_latest 15 = .ok (.invokestatic 136, 3) := by decide +kernel
theorem dE_latest_18 : decode cE_latest 18 = .ok (.istore 6, 2) := by decide +kernel
theorem dE_latest_20 : decode cE_latest 20 = .ok (.aload_n 0, 1) := by decide +kernel
theorem dE_latest_21 : decode cE_latest 21 = .ok (.getfield 28, 3) := by decide +kernel
theorem dE_latest_24 : decode cE_latest 24 = .ok (.astore 7, 2) := by decide +kernel
theorem dE_latest_26 : decode cE_latest 26 = .ok (.aload 7, 2) := by decide +kernel
theorem dE_latest_28 : decode cE_latest 28 = .ok (.ifnull 90, 3) := by decide +kernel
theorem dE_latest_31 : decode cE_latest 31 = .ok (.aload 7, 2) := by decide +kernel
theorem dE_latest_33 : decode cE_latest 33 = .ok (.getfield 104, 3) := by decide +kernel
theorem dE_latest_36 : decode cE_latest 36 = .ok (.getfield 82, 3) := by decide +kernel
theorem dE_latest_39 : decode cE_latest 39 = .ok (.istore 8, 2) := by decide +kernel
theorem dE_latest_41 : decode cE_latest 41 = .ok (.aload 7, 2) := by decide +kernel
theorem dE_latest_43 : decode cE_latest 43 = .ok (.aload 4, 2) := by decide +kernel
theorem dE_latest_45 : decode cE_latest 45 = .ok (.iload_n 1, 1) := by decide +kernel
theorem dE_latest_46 : decode cE_latest 46 = .ok (.iload 8, 2) := by decide +kernel
theorem dE_latest_48 : decode cE_latest 48 = .ok (.invokevirtual 128, 3) := by decide +kernel
theorem dE_latest_51 : decode cE_latest 51 = .ok (.iconst 1, 1) := by decide +kernel
theorem dE_latest_52 : decode cE_latest 52 = .ok (.isub, 1) := by decide +kernel
theorem dE_latest_53 : decode cE_latest 53 = .ok (.invokevirtual 139, 3) := by decide +kernel
theorem dE_latest_56 : decode cE_latest 56 = .ok (.istore 9, 2) := by decide +kernel
theorem dE_latest_58 : decode cE_latest 58 = .ok (.aload 7, 2) := by decide +kernel
theorem dE_latest_60 : decode cE_latest 60 = .ok (.aload 5, 2) := by decide +kernel
theorem dE_latest_62 : decode cE_latest 62 = .ok (.iload_n 2, 1) := by decide +kernel
theorem dE_latest_63 : decode cE_latest 63 = .ok (.iload 8, 2) := by decide +kernel
theorem dE_latest_65 : decode cE_latest 65 = .ok (.invokevirtual 128, 3) := by decide +kernel
theorem dE_latest_68 : decode cE_latest 68 = .ok (.invokevirtual 139, 3) := by decide +kernel
theorem dE_latest_71 : decode cE_latest 71 = .ok (.istore 10, 2) := by decide +kernel
theorem dE_latest_73 : decode cE_latest 73 = .ok (.iload 6, 2) := by decide +kernel
theorem dE_latest_75 : decode cE_latest 75 = .ok (.aload 7, 2) := by decide +kernel
theorem dE_latest_77 : decode cE_latest 77 = .ok (.getfield 142, 3) := by decide +kernel
theorem dE_latest_80 : decode cE_latest 80 = .ok (.iload 9, 2) := by decide +kernel
theorem dE_latest_82 : decode cE_latest 82 = .ok (.invokestatic 145, 3) := by decide +kernel
theorem dE_latest_85 : decode cE_latest 85 = .ok (.invokestatic 145, 3) := by decide +kernel
theorem dE_latest_88 : decode cE_latest 88 = .ok (.istore 11, 2) := by decide +kernel
theorem dE_latest_90 : decode cE_latest 90 = .ok (.iload 11, 2) := by decide +kernel
theorem dE_latest_92 : decode cE_latest 92 = .ok (.aload 7, 2) := by decide +kernel
theorem dE_latest_94 : decode cE_latest 94 = .ok (.getfield 115, 3) := by decide +kernel
theorem dE_latest_97 : decode cE_latest 97 = .ok (.iload 10, 2) := by decide +kernel
theorem dE_latest_99 : decode cE_latest 99 = .ok (.invokestatic 131, 3) := by decide +kernel
theorem dE_latest_102 : decode cE_latest 102 = .ok (.if_icmp .lt 6, 3) := by decide +kernel
theorem dE_latest_105 : decode cE_latest 105 = .ok (.iload 11, 2) := by decide +kernel
theorem dE_latest_107 : decode cE_latest 107 = .ok (.ireturn, 1) := by decide +kernel
theorem dE_latest_108 : decode cE_latest 108 = .ok (.aload 7, 2) := by decide +kernel
theorem dE_latest_110 : decode cE_latest 110 = .ok (.getfield 148, 3) := by decide +kernel
theorem dE_latest_113 : decode cE_latest 113 = .ok (.astore 7, 2) := by decide +kernel
theorem dE_latest_115 : decode cE_latest 115 = .ok (.goto (-89), 3) := by decide +kernel
theorem dE_latest_118 : decode cE_latest 118 = .ok (.iconst (-1), 1) := by decide +kernel
theorem dE_latest_119 : decode cE_latest 119 = .ok (.ireturn, 1) := by decide +kernel
theorem dL_head_0 : decode cL_head 0 = .ok (.aload_n 2, 1) := by decide +kernel
theorem dL_head_1 : decode cL_head 1 = .ok (.iconst 0, 1) := by decide +kernel
theorem dL_head_2 : decode cL_head 2 = .ok (.aload_n 0, 1) := by decide +kernel
theorem dL_head_3 : decode cL_head 3 = .ok (.iload_n 1, 1) := by decide +kernel
theorem dL_head_4 : decode cL_head 4 = .ok (.invokevirtual 48, 3) := by decide +kernel
theorem dL_head_7 : decode cL_head 7 = .ok (.i2l, 1) := by decide +kernel
theorem dL_head_8 : decode cL_head 8 = .ok (.lastore, 1) := by decide +kernel
theorem dL_head_9 : decode cL_head 9 = .ok (.goto 6, 3) := by decide +kernel
theorem dL_head_12 : decode cL_head 12 = .ok (.astore_n 3, 1) := by decide +kernel
theorem dL_head_13 : decode cL_head 13 = .ok (.iconst 1, 1) := by decide +kernel
theorem dL_head_14 : decode cL_head 14 = .ok (.ireturn, 1) := by decide +kernel
theorem dL_head_15 : decode cL_head 15 = .ok (.iconst 0, 1) := by decide +kernel
theorem dL_head_16 : decode cL_head 16 = .ok (.ireturn, 1) := by decide +kernel
theorem dE_head_0 : decode cE_head 0 = .ok (.iconst 0, 1) := by decide +kernel
theorem dE_head_1 : decode cE_head 1 = .ok (.istore_n 2, 1) := by decide +kernel
theorem dE_head_2 : decode cE_head 2 = .ok (.aload_n 0, 1) := by decide +kernel
theorem dE_head_3 : decode cE_head 3 = .ok (.getfield 11, 3) := by decide +kernel
theorem dE_head_6 : decode cE_head 6 = .ok (.astore_n 3, 1) := by decide +kernel
theorem dE_head_7 : decode cE_head 7 = .ok (.aload_n 3, 1) := by decide +kernel
theorem dE_head_8 : decode cE_head 8 = .ok (.arraylength, 1) := by decide +kernel
theorem dE_head_9 : decode cE_head 9 = .ok (.istore 4, 2) := by decide +kernel
theorem dE_head_11 : decode cE_head 11 = .ok (.iconst 0, 1) := by decide +kernel
theorem dE_head_12 : decode cE_head 12 = .ok (.istore 5, 2) := by decide +kernel
theorem dE_head_14 : decode cE_head 14 = .ok (.iload 5, 2) := by decide +kernel
theorem dE_head_16 : decode cE_head 16 = .ok (.iload 4, 2) := by decide +kernel
theorem dE_head_18 : decode cE_head 18 = .ok (.if_icmp .ge 42, 3) := by decide +kernel
theorem dE_head_21 : decode cE_head 21 = .ok (.aload_n 3, 1) := by decide +kernel
theorem dE_head_22 : decode cE_head 22 = .ok (.iload 5, 2) := by decide +kernel
theorem dE_head_24 : decode cE_head 24 = .ok (.aaload, 1) := by decide +kernel
theorem dE_head_25 : decode cE_head 25 = .ok (.astore 6, 2) := by decide +kernel
theorem dE_head_27 : decode cE_head 27 = .ok (.aload 6, 2) := by decide +kernel
theorem dE_head_29 : decode cE_head 29 = .ok (.ifnull 25, 3) := by decide +kernel
theorem dE_head_32 : decode cE_head 32 = .ok (.aload 6, 2) := by decide +kernel
theorem dE_head_34 : decode cE_head 34 = .ok (.getfield 57, 3) := by decide +kernel
theorem dE_head_37 : decode cE_head 37 = .ok (.ifCond .eq 17, 3) := by decide +kernel
theorem dE_head_40 : decode cE_head 40 = .ok (.iload_n 2, 1) := by decide +kernel
theorem dE_head_41 : decode cE_head 41 = .ok (.iload_n 1, 1) := by decide +kernel
theorem dE_head_42 : decode cE_head 42 = .ok (.if_icmp .ne 9, 3) := by decide +kernel
theorem dE_head_45 : decode cE_head 45 = .ok (.aload 6, 2) := by decide +kernel
theorem dE_head_47 : decode cE_head 47 = .ok (.getfield 61, 3) := by decide +kernel
theorem dE_head_50 : decode cE_head 50 = .ok (.ireturn, 1) := by decide +kernel
theorem dE_head_51 : decode cE_head 51 = .ok (.iinc 2 1, 3) := by decide +kernel
theorem dE_head_54 : decode cE_head 54 = .ok (.iinc 5 1, 3) := by decide +kernel
theorem dE_head_57 : decode cE_head 57 = .ok (.goto (-43), 3) := by decide +kernel
theorem dE_head_60 : decode cE_head 60 = .ok (.new 121, 3) := by decide +kernel
theorem dE_head_63 : decode cE_head 63 = .ok (.dup, 1) := by decide +kernel
theorem dE_head_64 : decode cE_head 64 = .ok (.invokespecial 123, 3) := by decide +kernel
theorem dE_head_67 : decode cE_head 67 = .ok (.athrow, 1) := by decide +kernel
theorem dM_init_0 : decode cM_init 0 = .ok (.aload_n 0, 1) := by decide +kernel
theorem dM_init_1 : decode cM_init 1 = .ok (.invokespecial 1, 3) := by decide +kernel
theorem dM_init_4 : decode cM_init 4 = .ok (.aload_n 0, 1) := by decide +kernel
theorem dM_init_5 : decode cM_init 5 = .ok (.bipush 16, 2) := by decide +kernel
theorem dM_init_7 : decode cM_init 7 = .ok (.newarray .int, 2) := by decide +kernel
theorem dM_init_9 : decode cM_init 9 = .ok (.putfield 9, 3) := by decide +kernel
theorem dM_init_12 : decode cM_init 12 = .ok (.aload_n 0, 1) := by decide +kernel
theorem dM_init_13 : decode cM_init 13 = .ok (.bipush 16, 2) := by decide +kernel
theorem dM_init_15 : decode cM_init 15 = .ok (.newarray .int, 2) := by decide +kernel
theorem dM_init_17 : decode cM_init 17 = .ok (.putfield 13, 3) := by decide +kernel
theorem dM_init_20 : decode cM_init 20 = .ok (.aload_n 0, 1) := by decide +kernel
theorem dM_init_21 : decode cM_init 21 = .ok (.bipush 16, 2) := by decide +kernel
theorem dM_init_23 : decode cM_init 23 = .ok (.bipush 8, 2) := by decide +kernel
theorem dM_init_25 : decode cM_init 25 = .ok (.multianewarray 16 2, 4) := by decide +kernel
theorem dM_init_29 : decode cM_init 29 = .ok (.putfield 18, 3) := by decide +kernel
theorem dM_init_32 : decode cM_init 32 = .ok (.aload_n 0, 1) := by decide +kernel
theorem dM_init_33 : decode cM_init 33 = .ok (.sipush 8192, 3) := by decide +kernel
theorem dM_init_36 : decode cM_init 36 = .ok (.newarray .short, 2) := by decide +kernel
theorem dM_init_38 : decode cM_init 38 = .ok (.putfield 21, 3) := by decide +kernel
theorem dM_init_41 : decode cM_init 41 = .ok (.aload_n 0, 1) := by decide +kernel
theorem dM_init_42 : decode cM_init 42 = .ok (.sipush 8192, 3) := by decide +kernel
theorem dM_init_45 : decode cM_init 45 = .ok (.newarray .short, 2) := by decide +kernel
theorem dM_init_47 : decode cM_init 47 = .ok (.putfield 25, 3) := by decide +kernel
theorem dM_init_50 : decode cM_init 50 = .ok (.aload_n 0, 1) := by decide +kernel
theorem dM_init_51 : decode cM_init 51 = .ok (.sipush 8192, 3) := by decide +kernel
theorem dM_init_54 : decode cM_init 54 = .ok (.newarray .short, 2) := by decide +kernel
theorem dM_init_56 : decode cM_init 56 = .ok (.putfield 28, 3) := by decide +kernel
theorem dM_init_59 : decode cM_init 59 = .ok (.aload_n 0, 1) := by decide +kernel
theorem dM_init_60 : decode cM_init 60 = .ok (.ldc 31, 2) := by decide +kernel
theorem dM_init_62 : decode cM_init 62 = .ok (.newarray .short, 2) := by decide +kernel
theorem dM_init_64 : decode cM_init 64 = .ok (.putfield 32, 3) := by decide +kernel
theorem dM_init_67 : decode cM_init 67 = .ok (.aload_n 0, 1) := by decide +kernel
theorem dM_init_68 : decode cM_init 68 = .ok (.ldc 31, 2) := by decide +kernel
theorem dM_init_70 : decode cM_init 70 = .ok (.newarray .short, 2) := by decide +kernel
theorem dM_init_72 : decode cM_init 72 = .ok (.putfield 35, 3) := by decide +kernel
theorem dM_init_75 : decode cM_init 75 = .ok (.aload_n 0, 1) := by decide +kernel
theorem dM_init_76 : decode cM_init 76 = .ok (.bipush 16, 2) := by decide +kernel
theorem dM_init_78 : decode cM_init 78 = .ok (.newarray .int, 2) := by decide +kernel
theorem dM_init_80 : decode cM_init 80 = .ok (.putfield 38, 3) := by decide +kernel
theorem dM_init_83 : decode cM_init 83 = .ok (.aload_n 0, 1) := by decide +kernel
theorem dM_init_84 : decode cM_init 84 = .ok (.bipush 16, 2) := by decide +kernel
theorem dM_init_86 : decode cM_init 86 = .ok (.newarray .int, 2) := by decide +kernel
theorem dM_init_88 : decode cM_init 88 = .ok (.putfield 41, 3) := by decide +kernel
theorem dM_init_91 : decode cM_init 91 = .ok (.return_, 1) := by decide +kernel
theorem dM_thrown_0 : decode cM_thrown 0 = .ok (.aload_n 0, 1) := by decide +kernel
theorem dM_thrown_1 : decode cM_thrown 1 = .ok (.getfield 113, 3) := by decide +kernel
theorem dM_thrown_4 : decode cM_thrown 4 = .ok (.ireturn, 1) := by decide +kernel
theorem dM_parent_0 : decode cM_parent 0 = .ok (.aload_n 0, 1) := by decide +kernel
theorem dM_parent_1 : decode cM_parent 1 = .ok (.iconst 0, 1) := by decide +kernel
theorem dM_parent_2 : decode cM_parent 2 = .ok (.putfield 113, 3) := by decide +kernel
theorem dM_parent_5 : decode cM_parent 5 = .ok (.aload_n 0, 1) := by decide +kernel
theorem dM_parent_6 : decode cM_parent 6 = .ok (.iload_n 1, 1) := by decide +kernel
theorem dM_parent_7 : decode cM_parent 7 = .ok (.iload_n 2, 1) := by decide +kernel
theorem dM_parent_8 : decode cM_parent 8 = .ok (.invokevirtual 116, 3) := by decide +kernel
theorem dM_parent_11 : decode cM_parent 11 = .ok (.ireturn, 1) := by decide +kernel
theorem dM_parent_12 : decode cM_parent 12 = .ok (.astore_n 3, 1) := by decide +kernel
theorem dM_parent_13 : decode cM_parent 13 = .ok (.aload_n 0, 1) := by decide +kernel
theorem dM_parent_14 : decode cM_parent 14 = .ok (.iconst 1, 1) := by decide +kernel
theorem dM_parent_15 : decode cM_parent 15 = .ok (.putfield 113, 3) := by decide +kernel
theorem dM_parent_18 : decode cM_parent 18 = .ok (.goto 18, 3) := by decide +kernel
theorem dM_parent_21 : decode cM_parent 21 = .ok (.astore_n 3, 1) := by decide +kernel
theorem dM_parent_22 : decode cM_parent 22 = .ok (.aload_n 0, 1) := by decide +kernel
theorem dM_parent_23 : decode cM_parent 23 = .ok (.iconst 2, 1) := by decide +kernel
theorem dM_parent_24 : decode cM_parent 24 = .ok (.putfield 113, 3) := by decide +kernel
theorem dM_parent_27 : decode cM_parent 27 = .ok (.goto 9, 3) := by decide +kernel
theorem dM_parent_30 : decode cM_parent 30 = .ok (.astore_n 3, 1) := by decide +kernel
theorem dM_parent_31 : decode cM_parent 31 = .ok (.aload_n 0, 1) := by decide +kernel
theorem dM_parent_32 : decode cM_parent 32 = .ok (.iconst 3, 1) := by decide +kernel
theorem dM_parent_33 : decode cM_parent 33 = .ok (.putfield 113, 3) := by decide +kernel
theorem dM_parent_36 : decode cM_parent 36 = .ok (.iconst 0, 1) := by decide +kernel
theorem dM_parent_37 : decode cM_parent 37 = .ok (.ireturn, 1) := by decide +kernel
theorem dM_parent0_0 : decode cM_parent0 0 = .ok (.aload_n 0, 1) := by decide +kernel
theorem dM_parent0_1 : decode cM_parent0 1 = .ok (.iload_n 1, 1) := by decide +kernel
theorem dM_parent0_2 : decode cM_parent0 2 = .ok (.iload_n 2, 1) := by decide +kernel
theorem dM_parent0_3 : decode cM_parent0 3 = .ok (.invokevirtual 58, 3) := by decide +kernel
theorem dM_parent0_6 : decode cM_parent0 6 = .ok (.istore_n 3, 1) := by decide +kernel
theorem dM_parent0_7 : decode cM_parent0 7 = .ok (.iload_n 3, 1) := by decide +kernel
theorem dM_parent0_8 : decode cM_parent0 8 = .ok (.ifCond .lt 7, 3) := by decide +kernel
theorem dM_parent0_11 : decode cM_parent0 11 = .ok (.iconst 1, 1) := by decide +kernel
theorem dM_parent0_12 : decode cM_parent0 12 = .ok (.goto 4, 3) := by decide +kernel
theorem dM_parent0_15 : decode cM_parent0 15 = .ok (.iconst 0, 1) := by decide +kernel
theorem dM_parent0_16 : decode cM_parent0 16 = .ok (.invokestatic 62, 3) := by decide +kernel
theorem dM_parent0_19 : decode cM_parent0 19 = .ok (.iconst 0, 1) := by decide +kernel
theorem dM_parent0_20 : decode cM_parent0 20 = .ok (.istore 4, 2) := by decide +kernel
theorem dM_parent0_22 : decode cM_parent0 22 = .ok (.iload 4, 2) := by decide +kernel
theorem dM_parent0_24 : decode cM_parent0 24 = .ok (.aload_n 0, 1) := by decide +kernel
theorem dM_parent0_25 : decode cM_parent0 25 = .ok (.getfield 66, 3) := by decide +kernel
theorem dM_parent0_28 : decode cM_parent0 28 = .ok (.if_icmp .ge 28, 3) := by decide +kernel
theorem dM_parent0_31 : decode cM_parent0 31 = .ok (.aload_n 0, 1) := by decide +kernel
theorem dM_parent0_32 : decode cM_parent0 32 = .ok (.getfield 38, 3) := by decide +kernel
theorem dM_parent0_35 : decode cM_parent0 35 = .ok (.iload 4, 2) := by decide +kernel
theorem dM_parent0_37 : decode cM_parent0 37 = .ok (.iaload, 1) := by decide +kernel
theorem dM_parent0_38 : decode cM_parent0 38 = .ok (.iload_n 3, 1) := by decide +kernel
theorem dM_parent0_39 : decode cM_parent0 39 = .ok (.if_icmp .ne 11, 3) := by decide +kernel
theorem dM_parent0_42 : decode cM_parent0 42 = .ok (.new 69, 3) := by decide +kernel
theorem dM_parent0_45 : decode cM_parent0 45 = .ok (.dup, 1) := by decide +kernel
theorem dM_parent0_46 : decode cM_parent0 46 = .ok (.invokespecial 71, 3) := by decide +kernel
theorem dM_parent0_49 : decode cM_parent0 49 = .ok (.athrow, 1) := by decide +kernel
theorem dM_parent0_50 : decode cM_parent0 50 = .ok (.iinc 4 1, 3) := by decide +kernel
theorem dM_parent0_53 : decode cM_parent0 53 = .ok (.goto (-31), 3) := by decide +kernel
theorem dM_parent0_56 : decode cM_parent0 56 = .ok (.aload_n 0, 1) := by decide +kernel
theorem dM_parent0_57 : decode cM_parent0 57 = .ok (.getfield 66, 3) := by decide +kernel
theorem dM_parent0_60 : decode cM_parent0 60 = .ok (.bipush 16, 2) := by decide +kernel
theorem dM_parent0_62 : decode cM_parent0 62 = .ok (.if_icmp .ne 11, 3) := by decide +kernel
theorem dM_parent0_65 : decode cM_parent0 65 = .ok (.new 72, 3) := by decide +kernel
theorem dM_parent0_68 : decode cM_parent0 68 = .ok (.dup, 1) := by decide +kernel
theorem dM_parent0_69 : decode cM_parent0 69 = .ok (.invokespecial 74, 3) := by decide +kernel
theorem dM_parent0_72 : decode cM_parent0 72 = .ok (.athrow, 1) := by decide +kernel
theorem dM_parent0_73 : decode cM_parent0 73 = .ok (.aload_n 0, 1) := by decide +kernel
theorem dM_parent0_74 : decode cM_parent0 74 = .ok (.getfield 38, 3) := by decide +kernel
theorem dM_parent0_77 : decode cM_parent0 77 = .ok (.aload_n 0, 1) := by decide +kernel
theorem dM_parent0_78 : decode cM_parent0 78 = .ok (.getfield 66, 3) := by decide +kernel
theorem dM_parent0_81 : decode cM_parent0 81 = .ok (.iload_n 3, 1) := by decide +kernel
theorem dM_parent0_82 : decode cM_parent0 82 = .ok (.iastore, 1) := by decide +kernel
theorem dM_parent0_83 : decode cM_parent0 83 = .ok (.aload_n 0, 1) := by decide +kernel
theorem dM_parent0_84 : decode cM_parent0 84 = .ok (.dup, 1) := by decide +kernel
theorem dM_parent0_85 : decode cM_parent0 85 = .ok (.getfield 66, 3) := by decide +kernel
theorem dM_parent0_88 : decode cM_parent0 88 = .ok (.iconst 1, 1) := by decide +kernel
theorem dM_parent0_89 : decode cM_parent0 89 = .ok (.iadd, 1) := by decide +kernel
theorem dM_parent0_90 : decode cM_parent0 90 = .ok (.putfield 66, 3) := by decide +kernel
theorem dM_parent0_93 : decode cM_parent0 93 = .ok (.aload_n 0, 1) := by decide +kernel
theorem dM_parent0_94 : decode cM_parent0 94 = .ok (.getfield 66, 3) := by decide +kernel
theorem dM_parent0_97 : decode cM_parent0 97 = .ok (.ireturn, 1) := by decide +kernel
theorem dM_find_0 : decode cM_find 0 = .ok (.aload_n 0, 1) := by decide +kernel
theorem dM_find_1 : decode cM_find 1 = .ok (.iload_n 1, 1) := by decide +kernel
theorem dM_find_2 : decode cM_find 2 = .ok (.invokevirtual 51, 3) := by decide +kernel
theorem dM_find_5 : decode cM_find 5 = .ok (.istore_n 3, 1) := by decide +kernel
theorem dM_find_6 : decode cM_find 6 = .ok (.iload_n 3, 1) := by decide +kernel
theorem dM_find_7 : decode cM_find 7 = .ok (.ifCond .lt 17, 3) := by decide +kernel
theorem dM_find_10 : decode cM_find 10 = .ok (.iload_n 2, 1) := by decide +kernel
theorem dM_find_11 : decode cM_find 11 = .ok (.ifCond .lt 13, 3) := by decide +kernel
theorem dM_find_14 : decode cM_find 14 = .ok (.iload_n 2, 1) := by decide +kernel
theorem dM_find_15 : decode cM_find 15 = .ok (.aload_n 0, 1) := by decide +kernel
theorem dM_find_16 : decode cM_find 16 = .ok (.getfield 13, 3) := by decide +kernel
theorem dM_find_19 : decode cM_find 19 = .ok (.iload_n 3, 1) := by decide +kernel
theorem dM_find_20 : decode cM_find 20 = .ok (.iaload, 1) := by decide +kernel
theorem dM_find_21 : decode cM_find 21 = .ok (.if_icmp .lt 5, 3) := by decide +kernel
theorem dM_find_24 : decode cM_find 24 = .ok (.iconst (-1), 1) := by decide +kernel
theorem dM_find_25 : decode cM_find 25 = .ok (.ireturn, 1) := by decide +kernel
theorem dM_find_26 : decode cM_find 26 = .ok (.aload_n 0, 1) := by decide +kernel
theorem dM_find_27 : decode cM_find 27 = .ok (.getfield 18, 3) := by decide +kernel
theorem dM_find_30 : decode cM_find 30 = .ok (.iload_n 3, 1) := by decide +kernel
theorem dM_find_31 : decode cM_find 31 = .ok (.aaload, 1) := by decide +kernel
theorem dM_find_32 : decode cM_find 32 = .ok (.iload_n 2, 1) := by decide +kernel
theorem dM_find_33 : decode cM_find 33 = .ok (.iaload, 1) := by decide +kernel
theorem dM_find_34 : decode cM_find 34 = .ok (.ireturn, 1) := by decide +kernel
theorem dM_slotOf_0 : decode cM_slotOf 0 = .ok (.iconst 0, 1) := by decide +kernel
theorem dM_slotOf_1 : decode cM_slotOf 1 = .ok (.istore_n 2, 1) := by decide +kernel
theorem dM_slotOf_2 : decode cM_slotOf 2 = .ok (.iload_n 2, 1) := by decide +kernel
theorem dM_slotOf_3 : decode cM_slotOf 3 = .ok (.aload_n 0, 1) := by decide +kernel
theorem dM_slotOf_4 : decode cM_slotOf 4 = .ok (.getfield 47, 3) := by decide +kernel
theorem dM_slotOf_7 : decode cM_slotOf 7 = .ok (.if_icmp .ge 21, 3) := by decide +kernel
theorem dM_slotOf_10 : decode cM_slotOf 10 = .ok (.aload_n 0, 1) := by decide +kernel
theorem dM_slotOf_11 : decode cM_slotOf 11 = .ok (.getfield 9, 3) := by decide +kernel
theorem dM_slotOf_14 : decode cM_slotOf 14 = .ok (.iload_n 2, 1) := by decide +kernel
theorem dM_slotOf_15 : decode cM_slotOf 15 = .ok (.iaload, 1) := by decide +kernel
theorem dM_slotOf_16 : decode cM_slotOf 16 = .ok (.iload_n 1, 1) := by decide +kernel
theorem dM_slotOf_17 : decode cM_slotOf 17 = .ok (.if_icmp .ne 5, 3) := by decide +kernel
theorem dM_slotOf_20 : decode cM_slotOf 20 = .ok (.iload_n 2, 1) := by decide +kernel
theorem dM_slotOf_21 : decode cM_slotOf 21 = .ok (.ireturn, 1) := by decide +kernel
theorem dM_slotOf_22 : decode cM_slotOf 22 = .ok (.iinc 2 1, 3) := by decide +kernel
theorem dM_slotOf_25 : decode cM_slotOf 25 = .ok (.goto (-23), 3) := by decide +kernel
theorem dM_slotOf_28 : decode cM_slotOf 28 = .ok (.iconst (-1), 1) := by decide +kernel
theorem dM_slotOf_29 : decode cM_slotOf 29 = .ok (.ireturn, 1) := by decide +kernel
theorem dM_there_0 : decode cM_there 0 = .ok (.iload_n 0, 1) := by decide +kernel
theorem dM_there_1 : decode cM_there 1 = .ok (.ifCond .ne 11, 3) := by decide +kernel
theorem dM_there_4 : decode cM_there 4 = .ok (.new 44, 3) := by decide +kernel
theorem dM_there_7 : decode cM_there 7 = .ok (.dup, 1) := by decide +kernel
theorem dM_there_8 : decode cM_there 8 = .ok (.invokespecial 46, 3) := by decide +kernel
theorem dM_there_11 : decode cM_there 11 = .ok (.athrow, 1) := by decide +kernel
theorem dM_there_12 : decode cM_there 12 = .ok (.return_, 1) := by decide +kernel
theorem dM_heads_0 : decode cM_heads 0 = .ok (.aload_n 0, 1) := by decide +kernel
theorem dM_heads_1 : decode cM_heads 1 = .ok (.iconst 0, 1) := by decide +kernel
theorem dM_heads_2 : decode cM_heads 2 = .ok (.putfield 113, 3) := by decide +kernel
theorem dM_heads_5 : decode cM_heads 5 = .ok (.aload_n 0, 1) := by decide +kernel
theorem dM_heads_6 : decode cM_heads 6 = .ok (.invokevirtual 119, 3) := by decide +kernel
theorem dM_heads_9 : decode cM_heads 9 = .ok (.ireturn, 1) := by decide +kernel
theorem dM_heads0_0 : decode cM_heads0 0 = .ok (.aload_n 0, 1) := by decide +kernel
theorem dM_heads0_1 : decode cM_heads0 1 = .ok (.aload_n 0, 1) := by decide +kernel
theorem dM_heads0_2 : decode cM_heads0 2 = .ok (.aload_n 0, 1) := by decide +kernel
theorem dM_heads0_3 : decode cM_heads0 3 = .ok (.getfield 38, 3) := by decide +kernel
theorem dM_heads0_6 : decode cM_heads0 6 = .ok (.invokevirtual 83, 3) := by decide +kernel
theorem dM_heads0_9 : decode cM_heads0 9 = .ok (.putfield 66, 3) := by decide +kernel
theorem dM_heads0_12 : decode cM_heads0 12 = .ok (.aload_n 0, 1) := by decide +kernel
theorem dM_heads0_13 : decode cM_heads0 13 = .ok (.getfield 66, 3) := by decide +kernel
theorem dM_heads0_16 : decode cM_heads0 16 = .ok (.ireturn, 1) := by decide +kernel
theorem dM_headsTo_0 : decode cM_headsTo 0 = .ok (.iconst 0, 1) := by decide +kernel
theorem dM_headsTo_1 : decode cM_headsTo 1 = .ok (.istore_n 2, 1) := by decide +kernel
theorem dM_headsTo_2 : decode cM_headsTo 2 = .ok (.iconst 0, 1) := by decide +kernel
theorem dM_headsTo_3 : decode cM_headsTo 3 = .ok (.istore_n 3, 1) := by decide +kernel
theorem dM_headsTo_4 : decode cM_headsTo 4 = .ok (.iload_n 3, 1) := by decide +kernel
theorem dM_headsTo_5 : decode cM_headsTo 5 = .ok (.sipush 256, 3) := by decide +kernel
theorem dM_headsTo_8 : decode cM_headsTo 8 = .ok (.if_icmp .ge 60, 3) := by decide +kernel
theorem dM_headsTo_11 : decode cM_headsTo 11 = .ok (.aload_n 0, 1) := by decide +kernel
theorem dM_headsTo_12 : decode cM_headsTo 12 = .ok (.iload_n 3, 1) := by decide +kernel
theorem dM_headsTo_13 : decode cM_headsTo 13 = .ok (.invokevirtual 51, 3) := by decide +kernel
theorem dM_headsTo_16 : decode cM_headsTo 16 = .ok (.istore 4, 2) := by decide +kernel
theorem dM_headsTo_18 : decode cM_headsTo 18 = .ok (.iload 4, 2) := by decide +kernel
theorem dM_headsTo_20 : decode cM_headsTo 20 = .ok (.ifCond .ge 6, 3) := by decide +kernel
theorem dM_headsTo_23 : decode cM_headsTo 23 = .ok (.goto 39, 3) := by decide +kernel
theorem dM_headsTo_26 : decode cM_headsTo 26 = .ok (.aload_n 0, 1) := by decide +kernel
theorem dM_headsTo_27 : decode cM_headsTo 27 = .ok (.iload_n 3, 1) := by decide +kernel
theorem dM_headsTo_28 : decode cM_headsTo 28 = .ok (.aload_n 0, 1) := by decide +kernel
theorem dM_headsTo_29 : decode cM_headsTo 29 = .ok (.getfield 13, 3) := by decide +kernel
theorem dM_headsTo_32 : decode cM_headsTo 32 = .ok (.iload 4, 2) := by decide +kernel
theorem dM_headsTo_34 : decode cM_headsTo 34 = .ok (.iaload, 1) := by decide +kernel
theorem dM_headsTo_35 : decode cM_headsTo 35 = .ok (.iconst 1, 1) := by decide +kernel
theorem dM_headsTo_36 : decode cM_headsTo 36 = .ok (.isub, 1) := by decide +kernel
theorem dM_headsTo_37 : decode cM_headsTo 37 = .ok (.invokevirtual 58, 3) := by decide +kernel
theorem dM_headsTo_40 : decode cM_headsTo 40 = .ok (.istore 5, 2) := by decide +kernel
theorem dM_headsTo_42 : decode cM_headsTo 42 = .ok (.aload_n 0, 1) := by decide +kernel
theorem dM_headsTo_43 : decode cM_headsTo 43 = .ok (.iload 5, 2) := by decide +kernel
theorem dM_headsTo_45 : decode cM_headsTo 45 = .ok (.invokevirtual 79, 3) := by decide +kernel
theorem dM_headsTo_48 : decode cM_headsTo 48 = .ok (.ifCond .ne 6, 3) := by decide +kernel
theorem dM_headsTo_51 : decode cM_headsTo 51 = .ok (.goto 11, 3) := by decide +kernel
theorem dM_headsTo_54 : decode cM_headsTo 54 = .ok (.aload_n 1, 1) := by decide +kernel
theorem dM_headsTo_55 : decode cM_headsTo 55 = .ok (.iload_n 2, 1) := by decide +kernel
theorem dM_headsTo_56 : decode cM_headsTo 56 = .ok (.iload 5, 2) := by decide +kernel
theorem dM_headsTo_58 : decode cM_headsTo 58 = .ok (.iastore, 1) := by decide +kernel
theorem dM_headsTo_59 : decode cM_headsTo 59 = .ok (.iinc 2 1, 3) := by decide +kernel
theorem dM_headsTo_62 : decode cM_headsTo 62 = .ok (.iinc 3 1, 3) := by decide +kernel
theorem dM_headsTo_65 : decode cM_headsTo 65 = .ok (.goto (-61), 3) := by decide +kernel
theorem dM_headsTo_68 : decode cM_headsTo 68 = .ok (.iload_n 2, 1) := by decide +kernel
theorem dM_headsTo_69 : decode cM_headsTo 69 = .ok (.ireturn, 1) := by decide +kernel
theorem dM_isHead_0 : decode cM_isHead 0 = .ok (.iconst 0, 1) := by decide +kernel
theorem dM_isHead_1 : decode cM_isHead 1 = .ok (.istore_n 2, 1) := by decide +kernel
theorem dM_isHead_2 : decode cM_isHead 2 = .ok (.iload_n 2, 1) := by decide +kernel
theorem dM_isHead_3 : decode cM_isHead 3 = .ok (.aload_n 0, 1) := by decide +kernel
theorem dM_isHead_4 : decode cM_isHead 4 = .ok (.getfield 47, 3) := by decide +kernel
theorem dM_isHead_7 : decode cM_isHead 7 = .ok (.if_icmp .ge 41, 3) := by decide +kernel
theorem dM_isHead_10 : decode cM_isHead 10 = .ok (.aload_n 0, 1) := by decide +kernel
theorem dM_isHead_11 : decode cM_isHead 11 = .ok (.getfield 18, 3) := by decide +kernel
theorem dM_isHead_14 : decode cM_isHead 14 = .ok (.iload_n 2, 1) := by decide +kernel
theorem dM_isHead_15 : decode cM_isHead 15 = .ok (.aaload, 1) := by decide +kernel
theorem dM_isHead_16 : decode cM_isHead 16 = .ok (.aload_n 0, 1) := by decide +kernel
theorem dM_isHead_17 : decode cM_isHead 17 = .ok (.getfield 13, 3) := by decide +kernel
theorem dM_isHead_20 : decode cM_isHead 20 = .ok (.iload_n 2, 1) := by decide +kernel
theorem dM_isHead_21 : decode cM_isHead 21 = .ok (.iaload, 1) := by decide +kernel
theorem dM_isHead_22 : decode cM_isHead 22 = .ok (.iconst 1, 1) := by decide +kernel
theorem dM_isHead_23 : decode cM_isHead 23 = .ok (.isub, 1) := by decide +kernel
theorem dM_isHead_24 : decode cM_isHead 24 = .ok (.iaload, 1) := by decide +kernel
theorem dM_isHead_25 : decode cM_isHead 25 = .ok (.istore_n 3, 1) := by decide +kernel
theorem dM_isHead_26 : decode cM_isHead 26 = .ok (.iload_n 3, 1) := by decide +kernel
theorem dM_isHead_27 : decode cM_isHead 27 = .ok (.iload_n 1, 1) := by decide +kernel
theorem dM_isHead_28 : decode cM_isHead 28 = .ok (.if_icmp .eq 14, 3) := by decide +kernel
theorem dM_isHead_31 : decode cM_isHead 31 = .ok (.aload_n 0, 1) := by decide +kernel
theorem dM_isHead_32 : decode cM_isHead 32 = .ok (.iload_n 1, 1) := by decide +kernel
theorem dM_isHead_33 : decode cM_isHead 33 = .ok (.iload_n 3, 1) := by decide +kernel
theorem dM_isHead_34 : decode cM_isHead 34 = .ok (.invokevirtual 75, 3) := by decide +kernel
theorem dM_isHead_37 : decode cM_isHead 37 = .ok (.ifCond .eq 5, 3) := by decide +kernel
theorem dM_isHead_40 : decode cM_isHead 40 = .ok (.iconst 0, 1) := by decide +kernel
theorem dM_isHead_41 : decode cM_isHead 41 = .ok (.ireturn, 1) := by decide +kernel
theorem dM_isHead_42 : decode cM_isHead 42 = .ok (.iinc 2 1, 3) := by decide +kernel
theorem dM_isHead_45 : decode cM_isHead 45 = .ok (.goto (-43), 3) := by decide +kernel
theorem dM_isHead_48 : decode cM_isHead 48 = .ok (.iconst 1, 1) := by decide +kernel
theorem dM_isHead_49 : decode cM_isHead 49 = .ok (.ireturn, 1) := by decide +kernel
theorem dM_isIn_0 : decode cM_isIn 0 = .ok (.aload_n 0, 1) := by decide +kernel
theorem dM_isIn_1 : decode cM_isIn 1 = .ok (.getfield 25, 3) := by decide +kernel
theorem dM_isIn_4 : decode cM_isIn 4 = .ok (.iload_n 1, 1) := by decide +kernel
theorem dM_isIn_5 : decode cM_isIn 5 = .ok (.saload, 1) := by decide +kernel
theorem dM_isIn_6 : decode cM_isIn 6 = .ok (.aload_n 0, 1) := by decide +kernel
theorem dM_isIn_7 : decode cM_isIn 7 = .ok (.getfield 35, 3) := by decide +kernel
theorem dM_isIn_10 : decode cM_isIn 10 = .ok (.bipush 16, 2) := by decide +kernel
theorem dM_isIn_12 : decode cM_isIn 12 = .ok (.iload_n 2, 1) := by decide +kernel
theorem dM_isIn_13 : decode cM_isIn 13 = .ok (.imul, 1) := by decide +kernel
theorem dM_isIn_14 : decode cM_isIn 14 = .ok (.aload_n 0, 1) := by decide +kernel
theorem dM_isIn_15 : decode cM_isIn 15 = .ok (.getfield 21, 3) := by decide +kernel
theorem dM_isIn_18 : decode cM_isIn 18 = .ok (.iload_n 1, 1) := by decide +kernel
theorem dM_isIn_19 : decode cM_isIn 19 = .ok (.saload, 1) := by decide +kernel
theorem dM_isIn_20 : decode cM_isIn 20 = .ok (.iadd, 1) := by decide +kernel
theorem dM_isIn_21 : decode cM_isIn 21 = .ok (.saload, 1) := by decide +kernel
theorem dM_isIn_22 : decode cM_isIn 22 = .ok (.if_icmp .ge 7, 3) := by decide +kernel
theorem dM_isIn_25 : decode cM_isIn 25 = .ok (.iconst 1, 1) := by decide +kernel
theorem dM_isIn_26 : decode cM_isIn 26 = .ok (.goto 4, 3) := by decide +kernel
theorem dM_isIn_29 : decode cM_isIn 29 = .ok (.iconst 0, 1) := by decide +kernel
theorem dM_isIn_30 : decode cM_isIn 30 = .ok (.ireturn, 1) := by decide +kernel
end
section
theorem dM_add_0 : decode cM_add 0 = .ok (.aload_n 0, 1) := by decide +kernel
theorem dM_add_1 : decode cM_add 1 = .ok (.iconst 0, 1) := by decide +kernel
theorem dM_add_2 : decode cM_add 2 = .ok (.putfield 113, 3) := by decide +kernel
theorem dM_add_5 : decode cM_add 5 = .ok (.aload_n 0, 1) := by decide +kernel
theorem dM_add_6 : decode cM_add 6 = .ok (.iload_n 1, 1) := by decide +kernel
theorem dM_add_7 : decode cM_add 7 = .ok (.iload_n 2, 1) := by decide +kernel
theorem dM_add_8 : decode cM_add 8 = .ok (.invokevirtual 123, 3) := by decide +kernel
theorem dM_add_11 : decode cM_add 11 = .ok (.ireturn, 1) := by decide +kernel
theorem dM_add_12 : decode cM_add 12 = .ok (.astore_n 3, 1) := by decide +kernel
theorem dM_add_13 : decode cM_add 13 = .ok (.aload_n 0, 1) := by decide +kernel
theorem dM_add_14 : decode cM_add 14 = .ok (.iconst 1, 1) := by decide +kernel
theorem dM_add_15 : decode cM_add 15 = .ok (.putfield 113, 3) := by decide +kernel
theorem dM_add_18 : decode cM_add 18 = .ok (.goto 18, 3) := by decide +kernel
theorem dM_add_21 : decode cM_add 21 = .ok (.astore_n 3, 1) := by decide +kernel
theorem dM_add_22 : decode cM_add 22 = .ok (.aload_n 0, 1) := by decide +kernel
theorem dM_add_23 : decode cM_add 23 = .ok (.iconst 2, 1) := by decide +kernel
theorem dM_add_24 : decode cM_add 24 = .ok (.putfield 113, 3) := by decide +kernel
theorem dM_add_27 : decode cM_add 27 = .ok (.goto 9, 3) := by decide +kernel
theorem dM_add_30 : decode cM_add 30 = .ok (.astore_n 3, 1) := by decide +kernel
theorem dM_add_31 : decode cM_add 31 = .ok (.aload_n 0, 1) := by decide +kernel
theorem dM_add_32 : decode cM_add 32 = .ok (.iconst 3, 1) := by decide +kernel
theorem dM_add_33 : decode cM_add 33 = .ok (.putfield 113, 3) := by decide +kernel
theorem dM_add_36 : decode cM_add 36 = .ok (.iconst 0, 1) := by decide +kernel
theorem dM_add_37 : decode cM_add 37 = .ok (.ireturn, 1) := by decide +kernel
theorem dM_add0_0 : decode cM_add0 0 = .ok (.iload_n 1, 1) := by decide +kernel
theorem dM_add0_1 : decode cM_add0 1 = .ok (.ifCond .lt 22, 3) := by decide +kernel
theorem dM_add0_4 : decode cM_add0 4 = .ok (.iload_n 1, 1) := by decide +kernel
theorem dM_add0_5 : decode cM_add0 5 = .ok (.sipush 255, 3) := by decide +kernel
theorem dM_add0_8 : decode cM_add0 8 = .ok (.if_icmp .gt 15, 3) := by decide +kernel
theorem dM_add0_11 : decode cM_add0 11 = .ok (.iload_n 2, 1) := by decide +kernel
theorem dM_add0_12 : decode cM_add0 12 = .ok (.iconst 1, 1) := by decide +kernel
theorem dM_add0_13 : decode cM_add0 13 = .ok (.if_icmp .lt 10, 3) := by decide +kernel
theorem dM_add0_16 : decode cM_add0 16 = .ok (.iload_n 2, 1) := by decide +kernel
theorem dM_add0_17 : decode cM_add0 17 = .ok (.sipush 2000, 3) := by decide +kernel
theorem dM_add0_20 : decode cM_add0 20 = .ok (.if_icmp .le 11, 3) := by decide +kernel
theorem dM_add0_23 : decode cM_add0 23 = .ok (.new 87, 3) := by decide +kernel
theorem dM_add0_26 : decode cM_add0 26 = .ok (.dup, 1) := by decide +kernel
theorem dM_add0_27 : decode cM_add0 27 = .ok (.invokespecial 89, 3) := by decide +kernel
theorem dM_add0_30 : decode cM_add0 30 = .ok (.athrow, 1) := by decide +kernel
theorem dM_add0_31 : decode cM_add0 31 = .ok (.aload_n 0, 1) := by decide +kernel
theorem dM_add0_32 : decode cM_add0 32 = .ok (.getfield 66, 3) := by decide +kernel
theorem dM_add0_35 : decode cM_add0 35 = .ok (.istore_n 3, 1) := by decide +kernel
theorem dM_add0_36 : decode cM_add0 36 = .ok (.aload_n 0, 1) := by decide +kernel
theorem dM_add0_37 : decode cM_add0 37 = .ok (.iload_n 1, 1) := by decide +kernel
theorem dM_add0_38 : decode cM_add0 38 = .ok (.invokevirtual 51, 3) := by decide +kernel
theorem dM_add0_41 : decode cM_add0 41 = .ok (.istore 4, 2) := by decide +kernel
theorem dM_add0_43 : decode cM_add0 43 = .ok (.aload_n 0, 1) := by decide +kernel
theorem dM_add0_44 : decode cM_add0 44 = .ok (.iconst 0, 1) := by decide +kernel
theorem dM_add0_45 : decode cM_add0 45 = .ok (.putfield 66, 3) := by decide +kernel
theorem dM_add0_48 : decode cM_add0 48 = .ok (.iconst 0, 1) := by decide +kernel
theorem dM_add0_49 : decode cM_add0 49 = .ok (.istore 5, 2) := by decide +kernel
theorem dM_add0_51 : decode cM_add0 51 = .ok (.iload 5, 2) := by decide +kernel
theorem dM_add0_53 : decode cM_add0 53 = .ok (.iload_n 3, 1) := by decide +kernel
theorem dM_add0_54 : decode cM_add0 54 = .ok (.if_icmp .ge 60, 3) := by decide +kernel
theorem dM_add0_57 : decode cM_add0 57 = .ok (.iconst 0, 1) := by decide +kernel
theorem dM_add0_58 : decode cM_add0 58 = .ok (.istore 6, 2) := by decide +kernel
theorem dM_add0_60 : decode cM_add0 60 = .ok (.iload 6, 2) := by decide +kernel
theorem dM_add0_62 : decode cM_add0 62 = .ok (.iload_n 3, 1) := by decide +kernel
theorem dM_add0_63 : decode cM_add0 63 = .ok (.if_icmp .ge 45, 3) := by decide +kernel
theorem dM_add0_66 : decode cM_add0 66 = .ok (.iload 5, 2) := by decide +kernel
theorem dM_add0_68 : decode cM_add0 68 = .ok (.iload 6, 2) := by decide +kernel
theorem dM_add0_70 : decode cM_add0 70 = .ok (.if_icmp .eq 32, 3) := by decide +kernel
theorem dM_add0_73 : decode cM_add0 73 = .ok (.aload_n 0, 1) := by decide +kernel
theorem dM_add0_74 : decode cM_add0 74 = .ok (.aload_n 0, 1) := by decide +kernel
theorem dM_add0_75 : decode cM_add0 75 = .ok (.getfield 38, 3) := by decide +kernel
theorem dM_add0_78 : decode cM_add0 78 = .ok (.iload 5, 2) := by decide +kernel
theorem dM_add0_80 : decode cM_add0 80 = .ok (.iaload, 1) := by decide +kernel
theorem dM_add0_81 : decode cM_add0 81 = .ok (.aload_n 0, 1) := by decide +kernel
theorem dM_add0_82 : decode cM_add0 82 = .ok (.getfield 38, 3) := by decide +kernel
theorem dM_add0_85 : decode cM_add0 85 = .ok (.iload 6, 2) := by decide +kernel
theorem dM_add0_87 : decode cM_add0 87 = .ok (.iaload, 1) := by decide +kernel
theorem dM_add0_88 : decode cM_add0 88 = .ok (.invokevirtual 75, 3) := by decide +kernel
theorem dM_add0_91 : decode cM_add0 91 = .ok (.ifCond .eq 11, 3) := by decide +kernel
theorem dM_add0_94 : decode cM_add0 94 = .ok (.new 69, 3) := by decide +kernel
theorem dM_add0_97 : decode cM_add0 97 = .ok (.dup, 1) := by decide +kernel
theorem dM_add0_98 : decode cM_add0 98 = .ok (.invokespecial 71, 3) := by decide +kernel
theorem dM_add0_101 : decode cM_add0 101 = .ok (.athrow, 1) := by decide +kernel
theorem dM_add0_102 : decode cM_add0 102 = .ok (.iinc 6 1, 3) := by decide +kernel
theorem dM_add0_105 : decode cM_add0 105 = .ok (.goto (-45), 3) := by decide +kernel
theorem dM_add0_108 : decode cM_add0 108 = .ok (.iinc 5 1, 3) := by decide +kernel
theorem dM_add0_111 : decode cM_add0 111 = .ok (.goto (-60), 3) := by decide +kernel
theorem dM_add0_114 : decode cM_add0 114 = .ok (.iload 4, 2) := by decide +kernel
theorem dM_add0_116 : decode cM_add0 116 = .ok (.ifCond .ge 7, 3) := by decide +kernel
theorem dM_add0_119 : decode cM_add0 119 = .ok (.iconst 1, 1) := by decide +kernel
theorem dM_add0_120 : decode cM_add0 120 = .ok (.goto 4, 3) := by decide +kernel
theorem dM_add0_123 : decode cM_add0 123 = .ok (.iconst 0, 1) := by decide +kernel
theorem dM_add0_124 : decode cM_add0 124 = .ok (.istore 5, 2) := by decide +kernel
theorem dM_add0_126 : decode cM_add0 126 = .ok (.iconst 0, 1) := by decide +kernel
theorem dM_add0_127 : decode cM_add0 127 = .ok (.istore 6, 2) := by decide +kernel
theorem dM_add0_129 : decode cM_add0 129 = .ok (.iload 6, 2) := by decide +kernel
theorem dM_add0_131 : decode cM_add0 131 = .ok (.iload_n 3, 1) := by decide +kernel
theorem dM_add0_132 : decode cM_add0 132 = .ok (.if_icmp .ge 52, 3) := by decide +kernel
theorem dM_add0_135 : decode cM_add0 135 = .ok (.iload 4, 2) := by decide +kernel
theorem dM_add0_137 : decode cM_add0 137 = .ok (.ifCond .lt 47, 3) := by decide +kernel
theorem dM_add0_140 : decode cM_add0 140 = .ok (.iload 5, 2) := by decide +kernel
theorem dM_add0_142 : decode cM_add0 142 = .ok (.aload_n 0, 1) := by decide +kernel
theorem dM_add0_143 : decode cM_add0 143 = .ok (.getfield 35, 3) := by decide +kernel
theorem dM_add0_146 : decode cM_add0 146 = .ok (.bipush 16, 2) := by decide +kernel
theorem dM_add0_148 : decode cM_add0 148 = .ok (.aload_n 0, 1) := by decide +kernel
theorem dM_add0_149 : decode cM_add0 149 = .ok (.getfield 38, 3) := by decide +kernel
theorem dM_add0_152 : decode cM_add0 152 = .ok (.iload 6, 2) := by decide +kernel
theorem dM_add0_154 : decode cM_add0 154 = .ok (.iaload, 1) := by decide +kernel
theorem dM_add0_155 : decode cM_add0 155 = .ok (.imul, 1) := by decide +kernel
theorem dM_add0_156 : decode cM_add0 156 = .ok (.iload 4, 2) := by decide +kernel
theorem dM_add0_158 : decode cM_add0 158 = .ok (.iadd, 1) := by decide +kernel
theorem dM_add0_159 : decode cM_add0 159 = .ok (.saload, 1) := by decide +kernel
theorem dM_add0_160 : decode cM_add0 160 = .ok (.aload_n 0, 1) := by decide +kernel
theorem dM_add0_161 : decode cM_add0 161 = .ok (.getfield 13, 3) := by decide +kernel
theorem dM_add0_164 : decode cM_add0 164 = .ok (.iload 4, 2) := by decide +kernel
theorem dM_add0_166 : decode cM_add0 166 = .ok (.iaload, 1) := by decide +kernel
theorem dM_add0_167 : decode cM_add0 167 = .ok (.if_icmp .ne 7, 3) := by decide +kernel
theorem dM_add0_170 : decode cM_add0 170 = .ok (.iconst 1, 1) := by decide +kernel
theorem dM_add0_171 : decode cM_add0 171 = .ok (.goto 4, 3) := by decide +kernel
theorem dM_add0_174 : decode cM_add0 174 = .ok (.iconst 0, 1) := by decide +kernel
theorem dM_add0_175 : decode cM_add0 175 = .ok (.ior, 1) := by decide +kernel
theorem dM_add0_176 : decode cM_add0 176 = .ok (.istore 5, 2) := by decide +kernel
theorem dM_add0_178 : decode cM_add0 178 = .ok (.iinc 6 1, 3) := by decide +kernel
theorem dM_add0_181 : decode cM_add0 181 = .ok (.goto (-52), 3) := by decide +kernel
theorem dM_add0_184 : decode cM_add0 184 = .ok (.iload 5, 2) := by decide +kernel
theorem dM_add0_186 : decode cM_add0 186 = .ok (.ifCond .ne 11, 3) := by decide +kernel
theorem dM_add0_189 : decode cM_add0 189 = .ok (.new 69, 3) := by decide +kernel
theorem dM_add0_192 : decode cM_add0 192 = .ok (.dup, 1) := by decide +kernel
theorem dM_add0_193 : decode cM_add0 193 = .ok (.invokespecial 71, 3) := by decide +kernel
theorem dM_add0_196 : decode cM_add0 196 = .ok (.athrow, 1) := by decide +kernel
theorem dM_add0_197 : decode cM_add0 197 = .ok (.aload_n 0, 1) := by decide +kernel
theorem dM_add0_198 : decode cM_add0 198 = .ok (.getfield 55, 3) := by decide +kernel
theorem dM_add0_201 : decode cM_add0 201 = .ok (.iload_n 2, 1) := by decide +kernel
theorem dM_add0_202 : decode cM_add0 202 = .ok (.iadd, 1) := by decide +kernel
theorem dM_add0_203 : decode cM_add0 203 = .ok (.sipush 8192, 3) := by decide +kernel
theorem dM_add0_206 : decode cM_add0 206 = .ok (.if_icmp .gt 17, 3) := by decide +kernel
theorem dM_add0_209 : decode cM_add0 209 = .ok (.iload 4, 2) := by decide +kernel
theorem dM_add0_211 : decode cM_add0 211 = .ok (.ifCond .ge 20, 3) := by decide +kernel
theorem dM_add0_214 : decode cM_add0 214 = .ok (.aload_n 0, 1) := by decide +kernel
theorem dM_add0_215 : decode cM_add0 215 = .ok (.getfield 47, 3) := by decide +kernel
theorem dM_add0_218 : decode cM_add0 218 = .ok (.bipush 16, 2) := by decide +kernel
theorem dM_add0_220 : decode cM_add0 220 = .ok (.if_icmp .ne 11, 3) := by decide +kernel
theorem dM_add0_223 : decode cM_add0 223 = .ok (.new 72, 3) := by decide +kernel
theorem dM_add0_226 : decode cM_add0 226 = .ok (.dup, 1) := by decide +kernel
theorem dM_add0_227 : decode cM_add0 227 = .ok (.invokespecial 74, 3) := by decide +kernel
theorem dM_add0_230 : decode cM_add0 230 = .ok (.athrow, 1) := by decide +kernel
theorem dM_add0_231 : decode cM_add0 231 = .ok (.iload 4, 2) := by decide +kernel
theorem dM_add0_233 : decode cM_add0 233 = .ok (.ifCond .ge 27, 3) := by decide +kernel
theorem dM_add0_236 : decode cM_add0 236 = .ok (.aload_n 0, 1) := by decide +kernel
theorem dM_add0_237 : decode cM_add0 237 = .ok (.getfield 47, 3) := by decide +kernel
theorem dM_add0_240 : decode cM_add0 240 = .ok (.istore 4, 2) := by decide +kernel
theorem dM_add0_242 : decode cM_add0 242 = .ok (.aload_n 0, 1) := by decide +kernel
theorem dM_add0_243 : decode cM_add0 243 = .ok (.getfield 9, 3) := by decide +kernel
theorem dM_add0_246 : decode cM_add0 246 = .ok (.iload 4, 2) := by decide +kernel
theorem dM_add0_248 : decode cM_add0 248 = .ok (.iload_n 1, 1) := by decide +kernel
theorem dM_add0_249 : decode cM_add0 249 = .ok (.iastore, 1) := by decide +kernel
theorem dM_add0_250 : decode cM_add0 250 = .ok (.aload_n 0, 1) := by decide +kernel
theorem dM_add0_251 : decode cM_add0 251 = .ok (.dup, 1) := by decide +kernel
theorem dM_add0_252 : decode cM_add0 252 = .ok (.getfield 47, 3) := by decide +kernel
theorem dM_add0_255 : decode cM_add0 255 = .ok (.iconst 1, 1) := by decide +kernel
theorem dM_add0_256 : decode cM_add0 256 = .ok (.iadd, 1) := by decide +kernel
theorem dM_add0_257 : decode cM_add0 257 = .ok (.putfield 47, 3) := by decide +kernel
theorem dM_add0_260 : decode cM_add0 260 = .ok (.iconst 0, 1) := by decide +kernel
theorem dM_add0_261 : decode cM_add0 261 = .ok (.istore 6, 2) := by decide +kernel
theorem dM_add0_263 : decode cM_add0 263 = .ok (.iload 6, 2) := by decide +kernel
theorem dM_add0_265 : decode cM_add0 265 = .ok (.iload_n 2, 1) := by decide +kernel
theorem dM_add0_266 : decode cM_add0 266 = .ok (.if_icmp .ge 35, 3) := by decide +kernel
theorem dM_add0_269 : decode cM_add0 269 = .ok (.aload_n 0, 1) := by decide +kernel
theorem dM_add0_270 : decode cM_add0 270 = .ok (.iload 4, 2) := by decide +kernel
theorem dM_add0_272 : decode cM_add0 272 = .ok (.iload 6, 2) := by decide +kernel
theorem dM_add0_274 : decode cM_add0 274 = .ok (.ifCond .ne 7, 3) := by decide +kernel
theorem dM_add0_277 : decode cM_add0 277 = .ok (.iload_n 3, 1) := by decide +kernel
theorem dM_add0_278 : decode cM_add0 278 = .ok (.goto 4, 3) := by decide +kernel
theorem dM_add0_281 : decode cM_add0 281 = .ok (.iconst 1, 1) := by decide +kernel
theorem dM_add0_282 : decode cM_add0 282 = .ok (.iload 6, 2) := by decide +kernel
theorem dM_add0_284 : decode cM_add0 284 = .ok (.ifCond .ne 7, 3) := by decide +kernel
theorem dM_add0_287 : decode cM_add0 287 = .ok (.iconst 1, 1) := by decide +kernel
theorem dM_add0_288 : decode cM_add0 288 = .ok (.goto 4, 3) := by decide +kernel
theorem dM_add0_291 : decode cM_add0 291 = .ok (.iconst 0, 1) := by decide +kernel
theorem dM_add0_292 : decode cM_add0 292 = .ok (.invokevirtual 90, 3) := by decide +kernel
theorem dM_add0_295 : decode cM_add0 295 = .ok (.iinc 6 1, 3) := by decide +kernel
theorem dM_add0_298 : decode cM_add0 298 = .ok (.goto (-35), 3) := by decide +kernel
theorem dM_add0_301 : decode cM_add0 301 = .ok (.aload_n 0, 1) := by decide +kernel
theorem dM_add0_302 : decode cM_add0 302 = .ok (.getfield 55, 3) := by decide +kernel
theorem dM_add0_305 : decode cM_add0 305 = .ok (.iconst 1, 1) := by decide +kernel
theorem dM_add0_306 : decode cM_add0 306 = .ok (.isub, 1) := by decide +kernel
theorem dM_add0_307 : decode cM_add0 307 = .ok (.ireturn, 1) := by decide +kernel
theorem dM_come_0 : decode cM_come 0 = .ok (.aload_n 0, 1) := by decide +kernel
theorem dM_come_1 : decode cM_come 1 = .ok (.getfield 55, 3) := by decide +kernel
theorem dM_come_4 : decode cM_come 4 = .ok (.istore 4, 2) := by decide +kernel
theorem dM_come_6 : decode cM_come 6 = .ok (.aload_n 0, 1) := by decide +kernel
theorem dM_come_7 : decode cM_come 7 = .ok (.getfield 21, 3) := by decide +kernel
theorem dM_come_10 : decode cM_come 10 = .ok (.iload 4, 2) := by decide +kernel
theorem dM_come_12 : decode cM_come 12 = .ok (.iload_n 1, 1) := by decide +kernel
theorem dM_come_13 : decode cM_come 13 = .ok (.i2s, 1) := by decide +kernel
theorem dM_come_14 : decode cM_come 14 = .ok (.sastore, 1) := by decide +kernel
theorem dM_come_15 : decode cM_come 15 = .ok (.aload_n 0, 1) := by decide +kernel
theorem dM_come_16 : decode cM_come 16 = .ok (.getfield 25, 3) := by decide +kernel
theorem dM_come_19 : decode cM_come 19 = .ok (.iload 4, 2) := by decide +kernel
theorem dM_come_21 : decode cM_come 21 = .ok (.aload_n 0, 1) := by decide +kernel
theorem dM_come_22 : decode cM_come 22 = .ok (.getfield 13, 3) := by decide +kernel
theorem dM_come_25 : decode cM_come 25 = .ok (.iload_n 1, 1) := by decide +kernel
theorem dM_come_26 : decode cM_come 26 = .ok (.iaload, 1) := by decide +kernel
theorem dM_come_27 : decode cM_come 27 = .ok (.i2s, 1) := by decide +kernel
theorem dM_come_28 : decode cM_come 28 = .ok (.sastore, 1) := by decide +kernel
theorem dM_come_29 : decode cM_come 29 = .ok (.aload_n 0, 1) := by decide +kernel
theorem dM_come_30 : decode cM_come 30 = .ok (.getfield 28, 3) := by decide +kernel
theorem dM_come_33 : decode cM_come 33 = .ok (.iload 4, 2) := by decide +kernel
theorem dM_come_35 : decode cM_come 35 = .ok (.iload_n 2, 1) := by decide +kernel
theorem dM_come_36 : decode cM_come 36 = .ok (.i2s, 1) := by decide +kernel
theorem dM_come_37 : decode cM_come 37 = .ok (.sastore, 1) := by decide +kernel
theorem dM_come_38 : decode cM_come 38 = .ok (.iconst 0, 1) := by decide +kernel
theorem dM_come_39 : decode cM_come 39 = .ok (.istore 5, 2) := by decide +kernel
theorem dM_come_41 : decode cM_come 41 = .ok (.iload 5, 2) := by decide +kernel
theorem dM_come_43 : decode cM_come 43 = .ok (.bipush 16, 2) := by decide +kernel
theorem dM_come_45 : decode cM_come 45 = .ok (.if_icmp .ge 23, 3) := by decide +kernel
theorem dM_come_48 : decode cM_come 48 = .ok (.aload_n 0, 1) := by decide +kernel
theorem dM_come_49 : decode cM_come 49 = .ok (.getfield 35, 3) := by decide +kernel
theorem dM_come_52 : decode cM_come 52 = .ok (.bipush 16, 2) := by decide +kernel
theorem dM_come_54 : decode cM_come 54 = .ok (.iload 4, 2) := by decide +kernel
theorem dM_come_56 : decode cM_come 56 = .ok (.imul, 1) := by decide +kernel
theorem dM_come_57 : decode cM_come 57 = .ok (.iload 5, 2) := by decide +kernel
theorem dM_come_59 : decode cM_come 59 = .ok (.iadd, 1) := by decide +kernel
theorem dM_come_60 : decode cM_come 60 = .ok (.iconst 0, 1) := by decide +kernel
theorem dM_come_61 : decode cM_come 61 = .ok (.sastore, 1) := by decide +kernel
theorem dM_come_62 : decode cM_come 62 = .ok (.iinc 5 1, 3) := by decide +kernel
theorem dM_come_65 : decode cM_come 65 = .ok (.goto (-24), 3) := by decide +kernel
theorem dM_come_68 : decode cM_come 68 = .ok (.iconst 0, 1) := by decide +kernel
theorem dM_come_69 : decode cM_come 69 = .ok (.istore 5, 2) := by decide +kernel
theorem dM_come_71 : decode cM_come 71 = .ok (.iload 5, 2) := by decide +kernel
theorem dM_come_73 : decode cM_come 73 = .ok (.iload_n 2, 1) := by decide +kernel
theorem dM_come_74 : decode cM_come 74 = .ok (.if_icmp .ge 179, 3) := by decide +kernel
theorem dM_come_77 : decode cM_come 77 = .ok (.iload_n 3, 1) := by decide +kernel
theorem dM_come_78 : decode cM_come 78 = .ok (.ifCond .eq 13, 3) := by decide +kernel
theorem dM_come_81 : decode cM_come 81 = .ok (.aload_n 0, 1) := by decide +kernel
theorem dM_come_82 : decode cM_come 82 = .ok (.getfield 38, 3) := by decide +kernel
theorem dM_come_85 : decode cM_come 85 = .ok (.iload 5, 2) := by decide +kernel
theorem dM_come_87 : decode cM_come 87 = .ok (.iaload, 1) := by decide +kernel
theorem dM_come_88 : decode cM_come 88 = .ok (.goto 7, 3) := by decide +kernel
theorem dM_come_91 : decode cM_come 91 = .ok (.iload 4, 2) := by decide +kernel
theorem dM_come_93 : decode cM_come 93 = .ok (.iconst 1, 1) := by decide +kernel
theorem dM_come_94 : decode cM_come 94 = .ok (.isub, 1) := by decide +kernel
theorem dM_come_95 : decode cM_come 95 = .ok (.istore 6, 2) := by decide +kernel
theorem dM_come_97 : decode cM_come 97 = .ok (.iload 5, 2) := by decide +kernel
theorem dM_come_99 : decode cM_come 99 = .ok (.istore 7, 2) := by decide +kernel
theorem dM_come_101 : decode cM_come 101 = .ok (.iload 7, 2) := by decide +kernel
theorem dM_come_103 : decode cM_come 103 = .ok (.ifCond .le 57, 3) := by decide +kernel
theorem dM_come_106 : decode cM_come 106 = .ok (.aload_n 0, 1) := by decide +kernel
theorem dM_come_107 : decode cM_come 107 = .ok (.getfield 32, 3) := by decide +kernel
theorem dM_come_110 : decode cM_come 110 = .ok (.bipush 16, 2) := by decide +kernel
theorem dM_come_112 : decode cM_come 112 = .ok (.iload 4, 2) := by decide +kernel
theorem dM_come_114 : decode cM_come 114 = .ok (.imul, 1) := by decide +kernel
theorem dM_come_115 : decode cM_come 115 = .ok (.iload 7, 2) := by decide +kernel
theorem dM_come_117 : decode cM_come 117 = .ok (.iadd, 1) := by decide +kernel
theorem dM_come_118 : decode cM_come 118 = .ok (.iconst 1, 1) := by decide +kernel
theorem dM_come_119 : decode cM_come 119 = .ok (.isub, 1) := by decide +kernel
theorem dM_come_120 : decode cM_come 120 = .ok (.saload, 1) := by decide +kernel
theorem dM_come_121 : decode cM_come 121 = .ok (.iload 6, 2) := by decide +kernel
theorem dM_come_123 : decode cM_come 123 = .ok (.if_icmp .le 37, 3) := by decide +kernel
theorem dM_come_126 : decode cM_come 126 = .ok (.aload_n 0, 1) := by decide +kernel
theorem dM_come_127 : decode cM_come 127 = .ok (.getfield 32, 3) := by decide +kernel
theorem dM_come_130 : decode cM_come 130 = .ok (.bipush 16, 2) := by decide +kernel
theorem dM_come_132 : decode cM_come 132 = .ok (.iload 4, 2) := by decide +kernel
theorem dM_come_134 : decode cM_come 134 = .ok (.imul, 1) := by decide +kernel
theorem dM_come_135 : decode cM_come 135 = .ok (.iload 7, 2) := by decide +kernel
theorem dM_come_137 : decode cM_come 137 = .ok (.iadd, 1) := by decide +kernel
theorem dM_come_138 : decode cM_come 138 = .ok (.aload_n 0, 1) := by decide +kernel
theorem dM_come_139 : decode cM_come 139 = .ok (.getfield 32, 3) := by decide +kernel
theorem dM_come_142 : decode cM_come 142 = .ok (.bipush 16, 2) := by decide +kernel
theorem dM_come_144 : decode cM_come 144 = .ok (.iload 4, 2) := by decide +kernel
theorem dM_come_146 : decode cM_come 146 = .ok (.imul, 1) := by decide +kernel
theorem dM_come_147 : decode cM_come 147 = .ok (.iload 7, 2) := by decide +kernel
theorem dM_come_149 : decode cM_come 149 = .ok (.iadd, 1) := by decide +kernel
theorem dM_come_150 : decode cM_come 150 = .ok (.iconst 1, 1) := by decide +kernel
theorem dM_come_151 : decode cM_come 151 = .ok (.isub, 1) := by decide +kernel
theorem dM_come_152 : decode cM_come 152 = .ok (.saload, 1) := by decide +kernel
theorem dM_come_153 : decode cM_come 153 = .ok (.sastore, 1) := by decide +kernel
theorem dM_come_154 : decode cM_come 154 = .ok (.iinc 7 (-1), 3) := by decide +kernel
theorem dM_come_157 : decode cM_come 157 = .ok (.goto (-56), 3) := by decide +kernel
theorem dM_come_160 : decode cM_come 160 = .ok (.aload_n 0, 1) := by decide +kernel
theorem dM_come_161 : decode cM_come 161 = .ok (.getfield 32, 3) := by decide +kernel
theorem dM_come_164 : decode cM_come 164 = .ok (.bipush 16, 2) := by decide +kernel
theorem dM_come_166 : decode cM_come 166 = .ok (.iload 4, 2) := by decide +kernel
theorem dM_come_168 : decode cM_come 168 = .ok (.imul, 1) := by decide +kernel
theorem dM_come_169 : decode cM_come 169 = .ok (.iload 7, 2) := by decide +kernel
theorem dM_come_171 : decode cM_come 171 = .ok (.iadd, 1) := by decide +kernel
theorem dM_come_172 : decode cM_come 172 = .ok (.iload 6, 2) := by decide +kernel
theorem dM_come_174 : decode cM_come 174 = .ok (.i2s, 1) := by decide +kernel
theorem dM_come_175 : decode cM_come 175 = .ok (.sastore, 1) := by decide +kernel
theorem dM_come_176 : decode cM_come 176 = .ok (.iconst 0, 1) := by decide +kernel
theorem dM_come_177 : decode cM_come 177 = .ok (.istore 8, 2) := by decide +kernel
theorem dM_come_179 : decode cM_come 179 = .ok (.iload 8, 2) := by decide +kernel
theorem dM_come_181 : decode cM_come 181 = .ok (.bipush 16, 2) := by decide +kernel
theorem dM_come_183 : decode cM_come 183 = .ok (.if_icmp .ge 64, 3) := by decide +kernel
theorem dM_come_186 : decode cM_come 186 = .ok (.aload_n 0, 1) := by decide +kernel
theorem dM_come_187 : decode cM_come 187 = .ok (.getfield 35, 3) := by decide +kernel
theorem dM_come_190 : decode cM_come 190 = .ok (.bipush 16, 2) := by decide +kernel
theorem dM_come_192 : decode cM_come 192 = .ok (.iload 6, 2) := by decide +kernel
theorem dM_come_194 : decode cM_come 194 = .ok (.imul, 1) := by decide +kernel
theorem dM_come_195 : decode cM_come 195 = .ok (.iload 8, 2) := by decide +kernel
theorem dM_come_197 : decode cM_come 197 = .ok (.iadd, 1) := by decide +kernel
theorem dM_come_198 : decode cM_come 198 = .ok (.saload, 1) := by decide +kernel
theorem dM_come_199 : decode cM_come 199 = .ok (.aload_n 0, 1) := by decide +kernel
theorem dM_come_200 : decode cM_come 200 = .ok (.getfield 35, 3) := by decide +kernel
theorem dM_come_203 : decode cM_come 203 = .ok (.bipush 16, 2) := by decide +kernel
theorem dM_come_205 : decode cM_come 205 = .ok (.iload 4, 2) := by decide +kernel
theorem dM_come_207 : decode cM_come 207 = .ok (.imul, 1) := by decide +kernel
theorem dM_come_208 : decode cM_come 208 = .ok (.iload 8, 2) := by decide +kernel
theorem dM_come_210 : decode cM_come 210 = .ok (.iadd, 1) := by decide +kernel
theorem dM_come_211 : decode cM_come 211 = .ok (.saload, 1) := by decide +kernel
theorem dM_come_212 : decode cM_come 212 = .ok (.if_icmp .le 29, 3) := by decide +kernel
theorem dM_come_215 : decode cM_come 215 = .ok (.aload_n 0, 1) := by decide +kernel
theorem dM_come_216 : decode cM_come 216 = .ok (.getfield 35, 3) := by decide +kernel
theorem dM_come_219 : decode cM_come 219 = .ok (.bipush 16, 2) := by decide +kernel
theorem dM_come_221 : decode cM_come 221 = .ok (.iload 4, 2) := by decide +kernel
theorem dM_come_223 : decode cM_come 223 = .ok (.imul, 1) := by decide +kernel
theorem dM_come_224 : decode cM_come 224 = .ok (.iload 8, 2) := by decide +kernel
theorem dM_come_226 : decode cM_come 226 = .ok (.iadd, 1) := by decide +kernel
theorem dM_come_227 : decode cM_come 227 = .ok (.aload_n 0, 1) := by decide +kernel
theorem dM_come_228 : decode cM_come 228 = .ok (.getfield 35, 3) := by decide +kernel
theorem dM_come_231 : decode cM_come 231 = .ok (.bipush 16, 2) := by decide +kernel
theorem dM_come_233 : decode cM_come 233 = .ok (.iload 6, 2) := by decide +kernel
theorem dM_come_235 : decode cM_come 235 = .ok (.imul, 1) := by decide +kernel
theorem dM_come_236 : decode cM_come 236 = .ok (.iload 8, 2) := by decide +kernel
theorem dM_come_238 : decode cM_come 238 = .ok (.iadd, 1) := by decide +kernel
theorem dM_come_239 : decode cM_come 239 = .ok (.saload, 1) := by decide +kernel
theorem dM_come_240 : decode cM_come 240 = .ok (.sastore, 1) := by decide +kernel
theorem dM_come_241 : decode cM_come 241 = .ok (.iinc 8 1, 3) := by decide +kernel
theorem dM_come_244 : decode cM_come 244 = .ok (.goto (-65), 3) := by decide +kernel
theorem dM_come_247 : decode cM_come 247 = .ok (.iinc 5 1, 3) := by decide +kernel
theorem dM_come_250 : decode cM_come 250 = .ok (.goto (-179), 3) := by decide +kernel
theorem dM_come_253 : decode cM_come 253 = .ok (.aload_n 0, 1) := by decide +kernel
theorem dM_come_254 : decode cM_come 254 = .ok (.getfield 13, 3) := by decide +kernel
theorem dM_come_257 : decode cM_come 257 = .ok (.iload_n 1, 1) := by decide +kernel
theorem dM_come_258 : decode cM_come 258 = .ok (.iaload, 1) := by decide +kernel
theorem dM_come_259 : decode cM_come 259 = .ok (.aload_n 0, 1) := by decide +kernel
theorem dM_come_260 : decode cM_come 260 = .ok (.getfield 18, 3) := by decide +kernel
theorem dM_come_263 : decode cM_come 263 = .ok (.iload_n 1, 1) := by decide +kernel
theorem dM_come_264 : decode cM_come 264 = .ok (.aaload, 1) := by decide +kernel
theorem dM_come_265 : decode cM_come 265 = .ok (.arraylength, 1) := by decide +kernel
theorem dM_come_266 : decode cM_come 266 = .ok (.if_icmp .ne 26, 3) := by decide +kernel
theorem dM_come_269 : decode cM_come 269 = .ok (.aload_n 0, 1) := by decide +kernel
theorem dM_come_270 : decode cM_come 270 = .ok (.getfield 18, 3) := by decide +kernel
theorem dM_come_273 : decode cM_come 273 = .ok (.iload_n 1, 1) := by decide +kernel
theorem dM_come_274 : decode cM_come 274 = .ok (.aload_n 0, 1) := by decide +kernel
theorem dM_come_275 : decode cM_come 275 = .ok (.getfield 18, 3) := by decide +kernel
theorem dM_come_278 : decode cM_come 278 = .ok (.iload_n 1, 1) := by decide +kernel
theorem dM_come_279 : decode cM_come 279 = .ok (.aaload, 1) := by decide +kernel
theorem dM_come_280 : decode cM_come 280 = .ok (.iconst 2, 1) := by decide +kernel
theorem dM_come_281 : decode cM_come 281 = .ok (.aload_n 0, 1) := by decide +kernel
theorem dM_come_282 : decode cM_come 282 = .ok (.getfield 13, 3) := by decide +kernel
theorem dM_come_285 : decode cM_come 285 = .ok (.iload_n 1, 1) := by decide +kernel
theorem dM_come_286 : decode cM_come 286 = .ok (.iaload, 1) := by decide +kernel
theorem dM_come_287 : decode cM_come 287 = .ok (.imul, 1) := by decide +kernel
theorem dM_come_288 : decode cM_come 288 = .ok (.invokestatic 94, 3) := by decide +kernel
theorem dM_come_291 : decode cM_come 291 = .ok (.aastore, 1) := by decide +kernel
theorem dM_come_292 : decode cM_come 292 = .ok (.aload_n 0, 1) := by decide +kernel
theorem dM_come_293 : decode cM_come 293 = .ok (.getfield 18, 3) := by decide +kernel
theorem dM_come_296 : decode cM_come 296 = .ok (.iload_n 1, 1) := by decide +kernel
theorem dM_come_297 : decode cM_come 297 = .ok (.aaload, 1) := by decide +kernel
theorem dM_come_298 : decode cM_come 298 = .ok (.aload_n 0, 1) := by decide +kernel
theorem dM_come_299 : decode cM_come 299 = .ok (.getfield 13, 3) := by decide +kernel
theorem dM_come_302 : decode cM_come 302 = .ok (.iload_n 1, 1) := by decide +kernel
theorem dM_come_303 : decode cM_come 303 = .ok (.iaload, 1) := by decide +kernel
theorem dM_come_304 : decode cM_come 304 = .ok (.iload 4, 2) := by decide +kernel
theorem dM_come_306 : decode cM_come 306 = .ok (.iastore, 1) := by decide +kernel
theorem dM_come_307 : decode cM_come 307 = .ok (.aload_n 0, 1) := by decide +kernel
theorem dM_come_308 : decode cM_come 308 = .ok (.getfield 13, 3) := by decide +kernel
theorem dM_come_311 : decode cM_come 311 = .ok (.iload_n 1, 1) := by decide +kernel
theorem dM_come_312 : decode cM_come 312 = .ok (.dup2, 1) := by decide +kernel
theorem dM_come_313 : decode cM_come 313 = .ok (.iaload, 1) := by decide +kernel
theorem dM_come_314 : decode cM_come 314 = .ok (.iconst 1, 1) := by decide +kernel
theorem dM_come_315 : decode cM_come 315 = .ok (.iadd, 1) := by decide +kernel
theorem dM_come_316 : decode cM_come 316 = .ok (.iastore, 1) := by decide +kernel
theorem dM_come_317 : decode cM_come 317 = .ok (.aload_n 0, 1) := by decide +kernel
theorem dM_come_318 : decode cM_come 318 = .ok (.getfield 35, 3) := by decide +kernel
theorem dM_come_321 : decode cM_come 321 = .ok (.bipush 16, 2) := by decide +kernel
theorem dM_come_323 : decode cM_come 323 = .ok (.iload 4, 2) := by decide +kernel
theorem dM_come_325 : decode cM_come 325 = .ok (.imul, 1) := by decide +kernel
theorem dM_come_326 : decode cM_come 326 = .ok (.iload_n 1, 1) := by decide +kernel
theorem dM_come_327 : decode cM_come 327 = .ok (.iadd, 1) := by decide +kernel
theorem dM_come_328 : decode cM_come 328 = .ok (.aload_n 0, 1) := by decide +kernel
theorem dM_come_329 : decode cM_come 329 = .ok (.getfield 13, 3) := by decide +kernel
theorem dM_come_332 : decode cM_come 332 = .ok (.iload_n 1, 1) := by decide +kernel
theorem dM_come_333 : decode cM_come 333 = .ok (.iaload, 1) := by decide +kernel
theorem dM_come_334 : decode cM_come 334 = .ok (.i2s, 1) := by decide +kernel
theorem dM_come_335 : decode cM_come 335 = .ok (.sastore, 1) := by decide +kernel
theorem dM_come_336 : decode cM_come 336 = .ok (.aload_n 0, 1) := by decide +kernel
theorem dM_come_337 : decode cM_come 337 = .ok (.dup, 1) := by decide +kernel
theorem dM_come_338 : decode cM_come 338 = .ok (.getfield 55, 3) := by decide +kernel
theorem dM_come_341 : decode cM_come 341 = .ok (.iconst 1, 1) := by decide +kernel
theorem dM_come_342 : decode cM_come 342 = .ok (.iadd, 1) := by decide +kernel
theorem dM_come_343 : decode cM_come 343 = .ok (.putfield 55, 3) := by decide +kernel
theorem dM_come_346 : decode cM_come 346 = .ok (.return_, 1) := by decide +kernel
theorem dM_events_0 : decode cM_events 0 = .ok (.aload_n 0, 1) := by decide +kernel
theorem dM_events_1 : decode cM_events 1 = .ok (.iconst 0, 1) := by decide +kernel
theorem dM_events_2 : decode cM_events 2 = .ok (.putfield 113, 3) := by decide +kernel
theorem dM_events_5 : decode cM_events 5 = .ok (.aload_n 0, 1) := by decide +kernel
theorem dM_events_6 : decode cM_events 6 = .ok (.iload_n 1, 1) := by decide +kernel
theorem dM_events_7 : decode cM_events 7 = .ok (.invokevirtual 126, 3) := by decide +kernel
theorem dM_events_10 : decode cM_events 10 = .ok (.ireturn, 1) := by decide +kernel
theorem dM_events_11 : decode cM_events 11 = .ok (.astore_n 2, 1) := by decide +kernel
theorem dM_events_12 : decode cM_events 12 = .ok (.aload_n 0, 1) := by decide +kernel
theorem dM_events_13 : decode cM_events 13 = .ok (.iconst 1, 1) := by decide +kernel
theorem dM_events_14 : decode cM_events 14 = .ok (.putfield 113, 3) := by decide +kernel
theorem dM_events_17 : decode cM_events 17 = .ok (.iconst 0, 1) := by decide +kernel
theorem dM_events_18 : decode cM_events 18 = .ok (.ireturn, 1) := by decide +kernel
theorem dM_events0_0 : decode cM_events0 0 = .ok (.iload_n 1, 1) := by decide +kernel
theorem dM_events0_1 : decode cM_events0 1 = .ok (.iconst (-1), 1) := by decide +kernel
theorem dM_events0_2 : decode cM_events0 2 = .ok (.if_icmp .lt 10, 3) := by decide +kernel
theorem dM_events0_5 : decode cM_events0 5 = .ok (.iload_n 1, 1) := by decide +kernel
theorem dM_events0_6 : decode cM_events0 6 = .ok (.sipush 255, 3) := by decide +kernel
theorem dM_events0_9 : decode cM_events0 9 = .ok (.if_icmp .le 11, 3) := by decide +kernel
theorem dM_events0_12 : decode cM_events0 12 = .ok (.new 87, 3) := by decide +kernel
theorem dM_events0_15 : decode cM_events0 15 = .ok (.dup, 1) := by decide +kernel
theorem dM_events0_16 : decode cM_events0 16 = .ok (.invokespecial 89, 3) := by decide +kernel
theorem dM_events0_19 : decode cM_events0 19 = .ok (.athrow, 1) := by decide +kernel
theorem dM_events0_20 : decode cM_events0 20 = .ok (.aload_n 0, 1) := by decide +kernel
theorem dM_events0_21 : decode cM_events0 21 = .ok (.iload_n 1, 1) := by decide +kernel
theorem dM_events0_22 : decode cM_events0 22 = .ok (.invokevirtual 51, 3) := by decide +kernel
theorem dM_events0_25 : decode cM_events0 25 = .ok (.istore_n 2, 1) := by decide +kernel
theorem dM_events0_26 : decode cM_events0 26 = .ok (.iload_n 1, 1) := by decide +kernel
theorem dM_events0_27 : decode cM_events0 27 = .ok (.ifCond .ge 10, 3) := by decide +kernel
theorem dM_events0_30 : decode cM_events0 30 = .ok (.aload_n 0, 1) := by decide +kernel
theorem dM_events0_31 : decode cM_events0 31 = .ok (.getfield 55, 3) := by decide +kernel
theorem dM_events0_34 : decode cM_events0 34 = .ok (.goto 17, 3) := by decide +kernel
theorem dM_events0_37 : decode cM_events0 37 = .ok (.iload_n 2, 1) := by decide +kernel
theorem dM_events0_38 : decode cM_events0 38 = .ok (.ifCond .ge 7, 3) := by decide +kernel
theorem dM_events0_41 : decode cM_events0 41 = .ok (.iconst 0, 1) := by decide +kernel
theorem dM_events0_42 : decode cM_events0 42 = .ok (.goto 9, 3) := by decide +kernel
theorem dM_events0_45 : decode cM_events0 45 = .ok (.aload_n 0, 1) := by decide +kernel
theorem dM_events0_46 : decode cM_events0 46 = .ok (.getfield 13, 3) := by decide +kernel
theorem dM_events0_49 : decode cM_events0 49 = .ok (.iload_n 2, 1) := by decide +kernel
theorem dM_events0_50 : decode cM_events0 50 = .ok (.iaload, 1) := by decide +kernel
theorem dM_events0_51 : decode cM_events0 51 = .ok (.ireturn, 1) := by decide +kernel
theorem dM_place_0 : decode cM_place 0 = .ok (.aload_n 0, 1) := by decide +kernel
theorem dM_place_1 : decode cM_place 1 = .ok (.iconst 0, 1) := by decide +kernel
theorem dM_place_2 : decode cM_place 2 = .ok (.putfield 113, 3) := by decide +kernel
theorem dM_place_5 : decode cM_place 5 = .ok (.aload_n 0, 1) := by decide +kernel
theorem dM_place_6 : decode cM_place 6 = .ok (.iload_n 1, 1) := by decide +kernel
theorem dM_place_7 : decode cM_place 7 = .ok (.iload_n 2, 1) := by decide +kernel
theorem dM_place_8 : decode cM_place 8 = .ok (.invokevirtual 129, 3) := by decide +kernel
theorem dM_place_11 : decode cM_place 11 = .ok (.ireturn, 1) := by decide +kernel
theorem dM_place_12 : decode cM_place 12 = .ok (.astore_n 3, 1) := by decide +kernel
theorem dM_place_13 : decode cM_place 13 = .ok (.aload_n 0, 1) := by decide +kernel
theorem dM_place_14 : decode cM_place 14 = .ok (.iconst 1, 1) := by decide +kernel
theorem dM_place_15 : decode cM_place 15 = .ok (.putfield 113, 3) := by decide +kernel
theorem dM_place_18 : decode cM_place 18 = .ok (.iconst 0, 1) := by decide +kernel
theorem dM_place_19 : decode cM_place 19 = .ok (.ireturn, 1) := by decide +kernel
theorem dM_place0_0 : decode cM_place0 0 = .ok (.aload_n 0, 1) := by decide +kernel
theorem dM_place0_1 : decode cM_place0 1 = .ok (.iload_n 1, 1) := by decide +kernel
theorem dM_place0_2 : decode cM_place0 2 = .ok (.iload_n 2, 1) := by decide +kernel
theorem dM_place0_3 : decode cM_place0 3 = .ok (.invokevirtual 58, 3) := by decide +kernel
theorem dM_place0_6 : decode cM_place0 6 = .ok (.istore_n 3, 1) := by decide +kernel
theorem dM_place0_7 : decode cM_place0 7 = .ok (.iload_n 3, 1) := by decide +kernel
theorem dM_place0_8 : decode cM_place0 8 = .ok (.ifCond .lt 7, 3) := by decide +kernel
theorem dM_place0_11 : decode cM_place0 11 = .ok (.iconst 1, 1) := by decide +kernel
theorem dM_place0_12 : decode cM_place0 12 = .ok (.goto 4, 3) := by decide +kernel
theorem dM_place0_15 : decode cM_place0 15 = .ok (.iconst 0, 1) := by decide +kernel
theorem dM_place0_16 : decode cM_place0 16 = .ok (.invokestatic 62, 3) := by decide +kernel
theorem dM_place0_19 : decode cM_place0 19 = .ok (.iload_n 3, 1) := by decide +kernel
theorem dM_place0_20 : decode cM_place0 20 = .ok (.ireturn, 1) := by decide +kernel
end
section
theorem dM_id_0 : decode cM_id 0 = .ok (.aload_n 0, 1) := by decide +kernel
theorem dM_id_1 : decode cM_id 1 = .ok (.iconst 0, 1) := by decide +kernel
theorem dM_id_2 : decode cM_id 2 = .ok (.putfield 113, 3) := by decide +kernel
theorem dM_id_5 : decode cM_id 5 = .ok (.aload_n 0, 1) := by decide +kernel
theorem dM_id_6 : decode cM_id 6 = .ok (.iload_n 1, 1) := by decide +kernel
theorem dM_id_7 : decode cM_id 7 = .ok (.invokevirtual 132, 3) := by decide +kernel
theorem dM_id_10 : decode cM_id 10 = .ok (.lreturn, 1) := by decide +kernel
theorem dM_id_11 : decode cM_id 11 = .ok (.astore_n 2, 1) := by decide +kernel
theorem dM_id_12 : decode cM_id 12 = .ok (.aload_n 0, 1) := by decide +kernel
theorem dM_id_13 : decode cM_id 13 = .ok (.iconst 1, 1) := by decide +kernel
theorem dM_id_14 : decode cM_id 14 = .ok (.putfield 113, 3) := by decide +kernel
theorem dM_id_17 : decode cM_id 17 = .ok (.lconst 0, 1) := by decide +kernel
theorem dM_id_18 : decode cM_id 18 = .ok (.lreturn, 1) := by decide +kernel
theorem dM_id0_0 : decode cM_id0 0 = .ok (.aload_n 0, 1) := by decide +kernel
theorem dM_id0_1 : decode cM_id0 1 = .ok (.iload_n 1, 1) := by decide +kernel
theorem dM_id0_2 : decode cM_id0 2 = .ok (.invokevirtual 100, 3) := by decide +kernel
theorem dM_id0_5 : decode cM_id0 5 = .ok (.invokestatic 62, 3) := by decide +kernel
theorem dM_id0_8 : decode cM_id0 8 = .ok (.ldc2_w 103, 3) := by decide +kernel
theorem dM_id0_11 : decode cM_id0 11 = .ok (.aload_n 0, 1) := by decide +kernel
theorem dM_id0_12 : decode cM_id0 12 = .ok (.getfield 9, 3) := by decide +kernel
theorem dM_id0_15 : decode cM_id0 15 = .ok (.aload_n 0, 1) := by decide +kernel
theorem dM_id0_16 : decode cM_id0 16 = .ok (.getfield 21, 3) := by decide +kernel
theorem dM_id0_19 : decode cM_id0 19 = .ok (.iload_n 1, 1) := by decide +kernel
theorem dM_id0_20 : decode cM_id0 20 = .ok (.saload, 1) := by decide +kernel
theorem dM_id0_21 : decode cM_id0 21 = .ok (.iaload, 1) := by decide +kernel
theorem dM_id0_22 : decode cM_id0 22 = .ok (.i2l, 1) := by decide +kernel
theorem dM_id0_23 : decode cM_id0 23 = .ok (.lmul, 1) := by decide +kernel
theorem dM_id0_24 : decode cM_id0 24 = .ok (.aload_n 0, 1) := by decide +kernel
theorem dM_id0_25 : decode cM_id0 25 = .ok (.getfield 25, 3) := by decide +kernel
theorem dM_id0_28 : decode cM_id0 28 = .ok (.iload_n 1, 1) := by decide +kernel
theorem dM_id0_29 : decode cM_id0 29 = .ok (.saload, 1) := by decide +kernel
theorem dM_id0_30 : decode cM_id0 30 = .ok (.i2l, 1) := by decide +kernel
theorem dM_id0_31 : decode cM_id0 31 = .ok (.ladd, 1) := by decide +kernel
theorem dM_id0_32 : decode cM_id0 32 = .ok (.lreturn, 1) := by decide +kernel
theorem dM_isPlace_0 : decode cM_isPlace 0 = .ok (.iload_n 1, 1) := by decide +kernel
theorem dM_isPlace_1 : decode cM_isPlace 1 = .ok (.ifCond .lt 15, 3) := by decide +kernel
theorem dM_isPlace_4 : decode cM_isPlace 4 = .ok (.iload_n 1, 1) := by decide +kernel
theorem dM_isPlace_5 : decode cM_isPlace 5 = .ok (.aload_n 0, 1) := by decide +kernel
theorem dM_isPlace_6 : decode cM_isPlace 6 = .ok (.getfield 55, 3) := by decide +kernel
theorem dM_isPlace_9 : decode cM_isPlace 9 = .ok (.if_icmp .ge 7, 3) := by decide +kernel
theorem dM_isPlace_12 : decode cM_isPlace 12 = .ok (.iconst 1, 1) := by decide +kernel
theorem dM_isPlace_13 : decode cM_isPlace 13 = .ok (.goto 4, 3) := by decide +kernel
theorem dM_isPlace_16 : decode cM_isPlace 16 = .ok (.iconst 0, 1) := by decide +kernel
theorem dM_isPlace_17 : decode cM_isPlace 17 = .ok (.ireturn, 1) := by decide +kernel
theorem dM_parentOf_0 : decode cM_parentOf 0 = .ok (.aload_n 0, 1) := by decide +kernel
theorem dM_parentOf_1 : decode cM_parentOf 1 = .ok (.iconst 0, 1) := by decide +kernel
theorem dM_parentOf_2 : decode cM_parentOf 2 = .ok (.putfield 113, 3) := by decide +kernel
theorem dM_parentOf_5 : decode cM_parentOf 5 = .ok (.aload_n 0, 1) := by decide +kernel
theorem dM_parentOf_6 : decode cM_parentOf 6 = .ok (.iload_n 1, 1) := by decide +kernel
theorem dM_parentOf_7 : decode cM_parentOf 7 = .ok (.iload_n 2, 1) := by decide +kernel
theorem dM_parentOf_8 : decode cM_parentOf 8 = .ok (.invokevirtual 136, 3) := by decide +kernel
theorem dM_parentOf_11 : decode cM_parentOf 11 = .ok (.ireturn, 1) := by decide +kernel
theorem dM_parentOf_12 : decode cM_parentOf 12 = .ok (.astore_n 3, 1) := by decide +kernel
theorem dM_parentOf_13 : decode cM_parentOf 13 = .ok (.aload_n 0, 1) := by decide +kernel
theorem dM_parentOf_14 : decode cM_parentOf 14 = .ok (.iconst 1, 1) := by decide +kernel
theorem dM_parentOf_15 : decode cM_parentOf 15 = .ok (.putfield 113, 3) := by decide +kernel
theorem dM_parentOf_18 : decode cM_parentOf 18 = .ok (.iconst 0, 1) := by decide +kernel
theorem dM_parentOf_19 : decode cM_parentOf 19 = .ok (.ireturn, 1) := by decide +kernel
theorem dM_parentOf0_0 : decode cM_parentOf0 0 = .ok (.aload_n 0, 1) := by decide +kernel
theorem dM_parentOf0_1 : decode cM_parentOf0 1 = .ok (.iload_n 1, 1) := by decide +kernel
theorem dM_parentOf0_2 : decode cM_parentOf0 2 = .ok (.invokevirtual 100, 3) := by decide +kernel
theorem dM_parentOf0_5 : decode cM_parentOf0 5 = .ok (.invokestatic 62, 3) := by decide +kernel
theorem dM_parentOf0_8 : decode cM_parentOf0 8 = .ok (.iload_n 2, 1) := by decide +kernel
theorem dM_parentOf0_9 : decode cM_parentOf0 9 = .ok (.iconst (-1), 1) := by decide +kernel
theorem dM_parentOf0_10 : decode cM_parentOf0 10 = .ok (.if_icmp .lt 17, 3) := by decide +kernel
theorem dM_parentOf0_13 : decode cM_parentOf0 13 = .ok (.iload_n 2, 1) := by decide +kernel
theorem dM_parentOf0_14 : decode cM_parentOf0 14 = .ok (.aload_n 0, 1) := by decide +kernel
theorem dM_parentOf0_15 : decode cM_parentOf0 15 = .ok (.getfield 28, 3) := by decide +kernel
theorem dM_parentOf0_18 : decode cM_parentOf0 18 = .ok (.iload_n 1, 1) := by decide +kernel
theorem dM_parentOf0_19 : decode cM_parentOf0 19 = .ok (.saload, 1) := by decide +kernel
theorem dM_parentOf0_20 : decode cM_parentOf0 20 = .ok (.if_icmp .ge 7, 3) := by decide +kernel
theorem dM_parentOf0_23 : decode cM_parentOf0 23 = .ok (.iconst 1, 1) := by decide +kernel
theorem dM_parentOf0_24 : decode cM_parentOf0 24 = .ok (.goto 4, 3) := by decide +kernel
theorem dM_parentOf0_27 : decode cM_parentOf0 27 = .ok (.iconst 0, 1) := by decide +kernel
theorem dM_parentOf0_28 : decode cM_parentOf0 28 = .ok (.invokestatic 62, 3) := by decide +kernel
theorem dM_parentOf0_31 : decode cM_parentOf0 31 = .ok (.iload_n 2, 1) := by decide +kernel
theorem dM_parentOf0_32 : decode cM_parentOf0 32 = .ok (.ifCond .ge 12, 3) := by decide +kernel
theorem dM_parentOf0_35 : decode cM_parentOf0 35 = .ok (.aload_n 0, 1) := by decide +kernel
theorem dM_parentOf0_36 : decode cM_parentOf0 36 = .ok (.getfield 28, 3) := by decide +kernel
theorem dM_parentOf0_39 : decode cM_parentOf0 39 = .ok (.iload_n 1, 1) := by decide +kernel
theorem dM_parentOf0_40 : decode cM_parentOf0 40 = .ok (.saload, 1) := by decide +kernel
theorem dM_parentOf0_41 : decode cM_parentOf0 41 = .ok (.goto 14, 3) := by decide +kernel
theorem dM_parentOf0_44 : decode cM_parentOf0 44 = .ok (.aload_n 0, 1) := by decide +kernel
theorem dM_parentOf0_45 : decode cM_parentOf0 45 = .ok (.getfield 32, 3) := by decide +kernel
theorem dM_parentOf0_48 : decode cM_parentOf0 48 = .ok (.bipush 16, 2) := by decide +kernel
theorem dM_parentOf0_50 : decode cM_parentOf0 50 = .ok (.iload_n 1, 1) := by decide +kernel
theorem dM_parentOf0_51 : decode cM_parentOf0 51 = .ok (.imul, 1) := by decide +kernel
theorem dM_parentOf0_52 : decode cM_parentOf0 52 = .ok (.iload_n 2, 1) := by decide +kernel
theorem dM_parentOf0_53 : decode cM_parentOf0 53 = .ok (.iadd, 1) := by decide +kernel
theorem dM_parentOf0_54 : decode cM_parentOf0 54 = .ok (.saload, 1) := by decide +kernel
theorem dM_parentOf0_55 : decode cM_parentOf0 55 = .ok (.ireturn, 1) := by decide +kernel
theorem dM_related_0 : decode cM_related 0 = .ok (.aload_n 0, 1) := by decide +kernel
theorem dM_related_1 : decode cM_related 1 = .ok (.iconst 0, 1) := by decide +kernel
theorem dM_related_2 : decode cM_related 2 = .ok (.putfield 113, 3) := by decide +kernel
theorem dM_related_5 : decode cM_related 5 = .ok (.aload_n 0, 1) := by decide +kernel
theorem dM_related_6 : decode cM_related 6 = .ok (.iload_n 1, 1) := by decide +kernel
theorem dM_related_7 : decode cM_related 7 = .ok (.iload_n 2, 1) := by decide +kernel
theorem dM_related_8 : decode cM_related 8 = .ok (.invokevirtual 139, 3) := by decide +kernel
theorem dM_related_11 : decode cM_related 11 = .ok (.ireturn, 1) := by decide +kernel
theorem dM_related_12 : decode cM_related 12 = .ok (.astore_n 3, 1) := by decide +kernel
theorem dM_related_13 : decode cM_related 13 = .ok (.aload_n 0, 1) := by decide +kernel
theorem dM_related_14 : decode cM_related 14 = .ok (.iconst 1, 1) := by decide +kernel
theorem dM_related_15 : decode cM_related 15 = .ok (.putfield 113, 3) := by decide +kernel
theorem dM_related_18 : decode cM_related 18 = .ok (.iconst 0, 1) := by decide +kernel
theorem dM_related_19 : decode cM_related 19 = .ok (.ireturn, 1) := by decide +kernel
theorem dM_related0_0 : decode cM_related0 0 = .ok (.aload_n 0, 1) := by decide +kernel
theorem dM_related0_1 : decode cM_related0 1 = .ok (.iload_n 1, 1) := by decide +kernel
theorem dM_related0_2 : decode cM_related0 2 = .ok (.invokevirtual 100, 3) := by decide +kernel
theorem dM_related0_5 : decode cM_related0 5 = .ok (.ifCond .eq 15, 3) := by decide +kernel
theorem dM_related0_8 : decode cM_related0 8 = .ok (.aload_n 0, 1) := by decide +kernel
theorem dM_related0_9 : decode cM_related0 9 = .ok (.iload_n 2, 1) := by decide +kernel
theorem dM_related0_10 : decode cM_related0 10 = .ok (.invokevirtual 100, 3) := by decide +kernel
theorem dM_related0_13 : decode cM_related0 13 = .ok (.ifCond .eq 7, 3) := by decide +kernel
theorem dM_related0_16 : decode cM_related0 16 = .ok (.iconst 1, 1) := by decide +kernel
theorem dM_related0_17 : decode cM_related0 17 = .ok (.goto 4, 3) := by decide +kernel
theorem dM_related0_20 : decode cM_related0 20 = .ok (.iconst 0, 1) := by decide +kernel
theorem dM_related0_21 : decode cM_related0 21 = .ok (.invokestatic 62, 3) := by decide +kernel
theorem dM_related0_24 : decode cM_related0 24 = .ok (.iload_n 1, 1) := by decide +kernel
theorem dM_related0_25 : decode cM_related0 25 = .ok (.iload_n 2, 1) := by decide +kernel
theorem dM_related0_26 : decode cM_related0 26 = .ok (.if_icmp .ne 7, 3) := by decide +kernel
theorem dM_related0_29 : decode cM_related0 29 = .ok (.iconst 0, 1) := by decide +kernel
theorem dM_related0_30 : decode cM_related0 30 = .ok (.goto 30, 3) := by decide +kernel
theorem dM_related0_33 : decode cM_related0 33 = .ok (.aload_n 0, 1) := by decide +kernel
theorem dM_related0_34 : decode cM_related0 34 = .ok (.iload_n 1, 1) := by decide +kernel
theorem dM_related0_35 : decode cM_related0 35 = .ok (.iload_n 2, 1) := by decide +kernel
theorem dM_related0_36 : decode cM_related0 36 = .ok (.invokevirtual 75, 3) := by decide +kernel
theorem dM_related0_39 : decode cM_related0 39 = .ok (.ifCond .eq 7, 3) := by decide +kernel
theorem dM_related0_42 : decode cM_related0 42 = .ok (.iconst 1, 1) := by decide +kernel
theorem dM_related0_43 : decode cM_related0 43 = .ok (.goto 17, 3) := by decide +kernel
theorem dM_related0_46 : decode cM_related0 46 = .ok (.aload_n 0, 1) := by decide +kernel
theorem dM_related0_47 : decode cM_related0 47 = .ok (.iload_n 2, 1) := by decide +kernel
theorem dM_related0_48 : decode cM_related0 48 = .ok (.iload_n 1, 1) := by decide +kernel
theorem dM_related0_49 : decode cM_related0 49 = .ok (.invokevirtual 75, 3) := by decide +kernel
theorem dM_related0_52 : decode cM_related0 52 = .ok (.ifCond .eq 7, 3) := by decide +kernel
theorem dM_related0_55 : decode cM_related0 55 = .ok (.iconst 2, 1) := by decide +kernel
theorem dM_related0_56 : decode cM_related0 56 = .ok (.goto 4, 3) := by decide +kernel
theorem dM_related0_59 : decode cM_related0 59 = .ok (.iconst 3, 1) := by decide +kernel
theorem dM_related0_60 : decode cM_related0 60 = .ok (.ireturn, 1) := by decide +kernel
theorem dM_apart_0 : decode cM_apart 0 = .ok (.aload_n 0, 1) := by decide +kernel
theorem dM_apart_1 : decode cM_apart 1 = .ok (.iconst 0, 1) := by decide +kernel
theorem dM_apart_2 : decode cM_apart 2 = .ok (.putfield 113, 3) := by decide +kernel
theorem dM_apart_5 : decode cM_apart 5 = .ok (.aload_n 0, 1) := by decide +kernel
theorem dM_apart_6 : decode cM_apart 6 = .ok (.iload_n 1, 1) := by decide +kernel
theorem dM_apart_7 : decode cM_apart 7 = .ok (.iload_n 2, 1) := by decide +kernel
theorem dM_apart_8 : decode cM_apart 8 = .ok (.invokevirtual 142, 3) := by decide +kernel
theorem dM_apart_11 : decode cM_apart 11 = .ok (.ireturn, 1) := by decide +kernel
theorem dM_apart_12 : decode cM_apart 12 = .ok (.astore_n 3, 1) := by decide +kernel
theorem dM_apart_13 : decode cM_apart 13 = .ok (.aload_n 0, 1) := by decide +kernel
theorem dM_apart_14 : decode cM_apart 14 = .ok (.iconst 1, 1) := by decide +kernel
theorem dM_apart_15 : decode cM_apart 15 = .ok (.putfield 113, 3) := by decide +kernel
theorem dM_apart_18 : decode cM_apart 18 = .ok (.iconst 0, 1) := by decide +kernel
theorem dM_apart_19 : decode cM_apart 19 = .ok (.ireturn, 1) := by decide +kernel
theorem dM_apart0_0 : decode cM_apart0 0 = .ok (.aload_n 0, 1) := by decide +kernel
theorem dM_apart0_1 : decode cM_apart0 1 = .ok (.iload_n 1, 1) := by decide +kernel
theorem dM_apart0_2 : decode cM_apart0 2 = .ok (.invokevirtual 100, 3) := by decide +kernel
theorem dM_apart0_5 : decode cM_apart0 5 = .ok (.ifCond .eq 15, 3) := by decide +kernel
theorem dM_apart0_8 : decode cM_apart0 8 = .ok (.aload_n 0, 1) := by decide +kernel
theorem dM_apart0_9 : decode cM_apart0 9 = .ok (.iload_n 2, 1) := by decide +kernel
theorem dM_apart0_10 : decode cM_apart0 10 = .ok (.invokevirtual 100, 3) := by decide +kernel
theorem dM_apart0_13 : decode cM_apart0 13 = .ok (.ifCond .eq 7, 3) := by decide +kernel
theorem dM_apart0_16 : decode cM_apart0 16 = .ok (.iconst 1, 1) := by decide +kernel
theorem dM_apart0_17 : decode cM_apart0 17 = .ok (.goto 4, 3) := by decide +kernel
theorem dM_apart0_20 : decode cM_apart0 20 = .ok (.iconst 0, 1) := by decide +kernel
theorem dM_apart0_21 : decode cM_apart0 21 = .ok (.invokestatic 62, 3) := by decide +kernel
theorem dM_apart0_24 : decode cM_apart0 24 = .ok (.iconst 0, 1) := by decide +kernel
theorem dM_apart0_25 : decode cM_apart0 25 = .ok (.istore_n 3, 1) := by decide +kernel
theorem dM_apart0_26 : decode cM_apart0 26 = .ok (.iconst 0, 1) := by decide +kernel
theorem dM_apart0_27 : decode cM_apart0 27 = .ok (.istore 4, 2) := by decide +kernel
theorem dM_apart0_29 : decode cM_apart0 29 = .ok (.iload 4, 2) := by decide +kernel
theorem dM_apart0_31 : decode cM_apart0 31 = .ok (.iload_n 1, 1) := by decide +kernel
theorem dM_apart0_32 : decode cM_apart0 32 = .ok (.if_icmp .gt 32, 3) := by decide +kernel
theorem dM_apart0_35 : decode cM_apart0 35 = .ok (.aload_n 0, 1) := by decide +kernel
theorem dM_apart0_36 : decode cM_apart0 36 = .ok (.iload 4, 2) := by decide +kernel
theorem dM_apart0_38 : decode cM_apart0 38 = .ok (.iload_n 1, 1) := by decide +kernel
theorem dM_apart0_39 : decode cM_apart0 39 = .ok (.invokevirtual 75, 3) := by decide +kernel
theorem dM_apart0_42 : decode cM_apart0 42 = .ok (.ifCond .eq 16, 3) := by decide +kernel
theorem dM_apart0_45 : decode cM_apart0 45 = .ok (.aload_n 0, 1) := by decide +kernel
theorem dM_apart0_46 : decode cM_apart0 46 = .ok (.iload 4, 2) := by decide +kernel
theorem dM_apart0_48 : decode cM_apart0 48 = .ok (.iload_n 2, 1) := by decide +kernel
theorem dM_apart0_49 : decode cM_apart0 49 = .ok (.invokevirtual 75, 3) := by decide +kernel
theorem dM_apart0_52 : decode cM_apart0 52 = .ok (.ifCond .ne 6, 3) := by decide +kernel
theorem dM_apart0_55 : decode cM_apart0 55 = .ok (.iinc 3 1, 3) := by decide +kernel
theorem dM_apart0_58 : decode cM_apart0 58 = .ok (.iinc 4 1, 3) := by decide +kernel
theorem dM_apart0_61 : decode cM_apart0 61 = .ok (.goto (-32), 3) := by decide +kernel
theorem dM_apart0_64 : decode cM_apart0 64 = .ok (.iload_n 3, 1) := by decide +kernel
theorem dM_apart0_65 : decode cM_apart0 65 = .ok (.ireturn, 1) := by decide +kernel
theorem dM_latest_0 : decode cM_latest 0 = .ok (.aload_n 0, 1) := by decide +kernel
theorem dM_latest_1 : decode cM_latest 1 = .ok (.iconst 0, 1) := by decide +kernel
theorem dM_latest_2 : decode cM_latest 2 = .ok (.putfield 113, 3) := by decide +kernel
theorem dM_latest_5 : decode cM_latest 5 = .ok (.aload_n 0, 1) := by decide +kernel
theorem dM_latest_6 : decode cM_latest 6 = .ok (.iload_n 1, 1) := by decide +kernel
theorem dM_latest_7 : decode cM_latest 7 = .ok (.iload_n 2, 1) := by decide +kernel
theorem dM_latest_8 : decode cM_latest 8 = .ok (.iload_n 3, 1) := by decide +kernel
theorem dM_latest_9 : decode cM_latest 9 = .ok (.invokevirtual 145, 3) := by decide +kernel
theorem dM_latest_12 : decode cM_latest 12 = .ok (.ireturn, 1) := by decide +kernel
theorem dM_latest_13 : decode cM_latest 13 = .ok (.astore 4, 2) := by decide +kernel
theorem dM_latest_15 : decode cM_latest 15 = .ok (.aload_n 0, 1) := by decide +kernel
theorem dM_latest_16 : decode cM_latest 16 = .ok (.iconst 1, 1) := by decide +kernel
theorem dM_latest_17 : decode cM_latest 17 = .ok (.putfield 113, 3) := by decide +kernel
theorem dM_latest_20 : decode cM_latest 20 = .ok (.iconst 0, 1) := by decide +kernel
theorem dM_latest_21 : decode cM_latest 21 = .ok (.ireturn, 1) := by decide +kernel
theorem dM_latest0_0 : decode cM_latest0 0 = .ok (.aload_n 0, 1) := by decide +kernel
theorem dM_latest0_1 : decode cM_latest0 1 = .ok (.iload_n 1, 1) := by decide +kernel
theorem dM_latest0_2 : decode cM_latest0 2 = .ok (.invokevirtual 100, 3) := by decide +kernel
theorem dM_latest0_5 : decode cM_latest0 5 = .ok (.ifCond .eq 15, 3) := by decide +kernel
theorem dM_latest0_8 : decode cM_latest0 8 = .ok (.aload_n 0, 1) := by decide +kernel
theorem dM_latest0_9 : decode cM_latest0 9 = .ok (.iload_n 2, 1) := by decide +kernel
theorem dM_latest0_10 : decode cM_latest0 10 = .ok (.invokevirtual 100, 3) := by decide +kernel
theorem dM_latest0_13 : decode cM_latest0 13 = .ok (.ifCond .eq 7, 3) := by decide +kernel
theorem dM_latest0_16 : decode cM_latest0 16 = .ok (.iconst 1, 1) := by decide +kernel
theorem dM_latest0_17 : decode cM_latest0 17 = .ok (.goto 4, 3) := by decide +kernel
theorem dM_latest0_20 : decode cM_latest0 20 = .ok (.iconst 0, 1) := by decide +kernel
theorem dM_latest0_21 : decode cM_latest0 21 = .ok (.invokestatic 62, 3) := by decide +kernel
theorem dM_latest0_24 : decode cM_latest0 24 = .ok (.iload_n 1, 1) := by decide +kernel
theorem dM_latest0_25 : decode cM_latest0 25 = .ok (.iload_n 3, 1) := by decide +kernel
theorem dM_latest0_26 : decode cM_latest0 26 = .ok (.if_icmp .ge 7, 3) := by decide +kernel
theorem dM_latest0_29 : decode cM_latest0 29 = .ok (.iload_n 1, 1) := by decide +kernel
theorem dM_latest0_30 : decode cM_latest0 30 = .ok (.goto 10, 3) := by decide +kernel
theorem dM_latest0_33 : decode cM_latest0 33 = .ok (.iload_n 3, 1) := by decide +kernel
theorem dM_latest0_34 : decode cM_latest0 34 = .ok (.iconst 0, 1) := by decide +kernel
theorem dM_latest0_35 : decode cM_latest0 35 = .ok (.invokestatic 105, 3) := by decide +kernel
theorem dM_latest0_38 : decode cM_latest0 38 = .ok (.iconst 1, 1) := by decide +kernel
theorem dM_latest0_39 : decode cM_latest0 39 = .ok (.isub, 1) := by decide +kernel
theorem dM_latest0_40 : decode cM_latest0 40 = .ok (.istore 4, 2) := by decide +kernel
theorem dM_latest0_42 : decode cM_latest0 42 = .ok (.iload 4, 2) := by decide +kernel
theorem dM_latest0_44 : decode cM_latest0 44 = .ok (.ifCond .lt 32, 3) := by decide +kernel
theorem dM_latest0_47 : decode cM_latest0 47 = .ok (.aload_n 0, 1) := by decide +kernel
theorem dM_latest0_48 : decode cM_latest0 48 = .ok (.iload 4, 2) := by decide +kernel
theorem dM_latest0_50 : decode cM_latest0 50 = .ok (.iload_n 1, 1) := by decide +kernel
theorem dM_latest0_51 : decode cM_latest0 51 = .ok (.invokevirtual 75, 3) := by decide +kernel
theorem dM_latest0_54 : decode cM_latest0 54 = .ok (.ifCond .eq 16, 3) := by decide +kernel
theorem dM_latest0_57 : decode cM_latest0 57 = .ok (.aload_n 0, 1) := by decide +kernel
theorem dM_latest0_58 : decode cM_latest0 58 = .ok (.iload 4, 2) := by decide +kernel
theorem dM_latest0_60 : decode cM_latest0 60 = .ok (.iload_n 2, 1) := by decide +kernel
theorem dM_latest0_61 : decode cM_latest0 61 = .ok (.invokevirtual 75, 3) := by decide +kernel
theorem dM_latest0_64 : decode cM_latest0 64 = .ok (.ifCond .ne 6, 3) := by decide +kernel
theorem dM_latest0_67 : decode cM_latest0 67 = .ok (.iload 4, 2) := by decide +kernel
theorem dM_latest0_69 : decode cM_latest0 69 = .ok (.ireturn, 1) := by decide +kernel
theorem dM_latest0_70 : decode cM_latest0 70 = .ok (.iinc 4 (-1), 3) := by decide +kernel
theorem dM_latest0_73 : decode cM_latest0 73 = .ok (.goto (-31), 3) := by decide +kernel
theorem dM_latest0_76 : decode cM_latest0 76 = .ok (.iconst (-1), 1) := by decide +kernel
theorem dM_latest0_77 : decode cM_latest0 77 = .ok (.ireturn, 1) := by decide +kernel
theorem dM_head_0 : decode cM_head 0 = .ok (.aload_n 0, 1) := by decide +kernel
theorem dM_head_1 : decode cM_head 1 = .ok (.iconst 0, 1) := by decide +kernel
theorem dM_head_2 : decode cM_head 2 = .ok (.putfield 113, 3) := by decide +kernel
theorem dM_head_5 : decode cM_head 5 = .ok (.aload_n 0, 1) := by decide +kernel
theorem dM_head_6 : decode cM_head 6 = .ok (.iload_n 1, 1) := by decide +kernel
theorem dM_head_7 : decode cM_head 7 = .ok (.invokevirtual 149, 3) := by decide +kernel
theorem dM_head_10 : decode cM_head 10 = .ok (.ireturn, 1) := by decide +kernel
theorem dM_head_11 : decode cM_head 11 = .ok (.astore_n 2, 1) := by decide +kernel
theorem dM_head_12 : decode cM_head 12 = .ok (.aload_n 0, 1) := by decide +kernel
theorem dM_head_13 : decode cM_head 13 = .ok (.iconst 1, 1) := by decide +kernel
theorem dM_head_14 : decode cM_head 14 = .ok (.putfield 113, 3) := by decide +kernel
theorem dM_head_17 : decode cM_head 17 = .ok (.iconst 0, 1) := by decide +kernel
theorem dM_head_18 : decode cM_head 18 = .ok (.ireturn, 1) := by decide +kernel
theorem dM_head0_0 : decode cM_head0 0 = .ok (.aload_n 0, 1) := by decide +kernel
theorem dM_head0_1 : decode cM_head0 1 = .ok (.aload_n 0, 1) := by decide +kernel
theorem dM_head0_2 : decode cM_head0 2 = .ok (.getfield 41, 3) := by decide +kernel
theorem dM_head0_5 : decode cM_head0 5 = .ok (.invokevirtual 83, 3) := by decide +kernel
theorem dM_head0_8 : decode cM_head0 8 = .ok (.istore_n 2, 1) := by decide +kernel
theorem dM_head0_9 : decode cM_head0 9 = .ok (.iload_n 1, 1) := by decide +kernel
theorem dM_head0_10 : decode cM_head0 10 = .ok (.ifCond .lt 12, 3) := by decide +kernel
theorem dM_head0_13 : decode cM_head0 13 = .ok (.iload_n 1, 1) := by decide +kernel
theorem dM_head0_14 : decode cM_head0 14 = .ok (.iload_n 2, 1) := by decide +kernel
theorem dM_head0_15 : decode cM_head0 15 = .ok (.if_icmp .ge 7, 3) := by decide +kernel
theorem dM_head0_18 : decode cM_head0 18 = .ok (.iconst 1, 1) := by decide +kernel
theorem dM_head0_19 : decode cM_head0 19 = .ok (.goto 4, 3) := by decide +kernel
theorem dM_head0_22 : decode cM_head0 22 = .ok (.iconst 0, 1) := by decide +kernel
theorem dM_head0_23 : decode cM_head0 23 = .ok (.invokestatic 62, 3) := by decide +kernel
theorem dM_head0_26 : decode cM_head0 26 = .ok (.aload_n 0, 1) := by decide +kernel
theorem dM_head0_27 : decode cM_head0 27 = .ok (.getfield 41, 3) := by decide +kernel
theorem dM_head0_30 : decode cM_head0 30 = .ok (.iload_n 1, 1) := by decide +kernel
theorem dM_head0_31 : decode cM_head0 31 = .ok (.iaload, 1) := by decide +kernel
theorem dM_head0_32 : decode cM_head0 32 = .ok (.ireturn, 1) := by decide +kernel
theorem dM_critical_0 : decode cM_critical 0 = .ok (.aload_n 0, 1) := by decide +kernel
theorem dM_critical_1 : decode cM_critical 1 = .ok (.iconst 0, 1) := by decide +kernel
theorem dM_critical_2 : decode cM_critical 2 = .ok (.putfield 113, 3) := by decide +kernel
theorem dM_critical_5 : decode cM_critical 5 = .ok (.aload_n 0, 1) := by decide +kernel
theorem dM_critical_6 : decode cM_critical 6 = .ok (.invokevirtual 152, 3) := by decide +kernel
theorem dM_critical_9 : decode cM_critical 9 = .ok (.ireturn, 1) := by decide +kernel
theorem dM_critical0_0 : decode cM_critical0 0 = .ok (.iconst 0, 1) := by decide +kernel
theorem dM_critical0_1 : decode cM_critical0 1 = .ok (.istore_n 1, 1) := by decide +kernel
theorem dM_critical0_2 : decode cM_critical0 2 = .ok (.iconst 0, 1) := by decide +kernel
theorem dM_critical0_3 : decode cM_critical0 3 = .ok (.istore_n 2, 1) := by decide +kernel
theorem dM_critical0_4 : decode cM_critical0 4 = .ok (.iload_n 2, 1) := by decide +kernel
theorem dM_critical0_5 : decode cM_critical0 5 = .ok (.aload_n 0, 1) := by decide +kernel
theorem dM_critical0_6 : decode cM_critical0 6 = .ok (.getfield 55, 3) := by decide +kernel
theorem dM_critical0_9 : decode cM_critical0 9 = .ok (.if_icmp .ge 20, 3) := by decide +kernel
theorem dM_critical0_12 : decode cM_critical0 12 = .ok (.aload_n 0, 1) := by decide +kernel
theorem dM_critical0_13 : decode cM_critical0 13 = .ok (.iload_n 2, 1) := by decide +kernel
theorem dM_critical0_14 : decode cM_critical0 14 = .ok (.invokevirtual 110, 3) := by decide +kernel
theorem dM_critical0_17 : decode cM_critical0 17 = .ok (.ifCond .eq 6, 3) := by decide +kernel
theorem dM_critical0_20 : decode cM_critical0 20 = .ok (.iinc 1 1, 3) := by decide +kernel
theorem dM_critical0_23 : decode cM_critical0 23 = .ok (.iinc 2 1, 3) := by decide +kernel
theorem dM_critical0_26 : decode cM_critical0 26 = .ok (.goto (-22), 3) := by decide +kernel
theorem dM_critical0_29 : decode cM_critical0 29 = .ok (.iload_n 1, 1) := by decide +kernel
theorem dM_critical0_30 : decode cM_critical0 30 = .ok (.ireturn, 1) := by decide +kernel
theorem dM_isCritical_0 : decode cM_isCritical 0 = .ok (.iconst 0, 1) := by decide +kernel
theorem dM_isCritical_1 : decode cM_isCritical 1 = .ok (.istore_n 2, 1) := by decide +kernel
theorem dM_isCritical_2 : decode cM_isCritical 2 = .ok (.iload_n 2, 1) := by decide +kernel
theorem dM_isCritical_3 : decode cM_isCritical 3 = .ok (.aload_n 0, 1) := by decide +kernel
theorem dM_isCritical_4 : decode cM_isCritical 4 = .ok (.getfield 47, 3) := by decide +kernel
theorem dM_isCritical_7 : decode cM_isCritical 7 = .ok (.if_icmp .ge 49, 3) := by decide +kernel
theorem dM_isCritical_10 : decode cM_isCritical 10 = .ok (.aload_n 0, 1) := by decide +kernel
theorem dM_isCritical_11 : decode cM_isCritical 11 = .ok (.getfield 35, 3) := by decide +kernel
theorem dM_isCritical_14 : decode cM_isCritical 14 = .ok (.bipush 16, 2) := by decide +kernel
theorem dM_isCritical_16 : decode cM_isCritical 16 = .ok (.iload_n 1, 1) := by decide +kernel
theorem dM_isCritical_17 : decode cM_isCritical 17 = .ok (.imul, 1) := by decide +kernel
theorem dM_isCritical_18 : decode cM_isCritical 18 = .ok (.iload_n 2, 1) := by decide +kernel
theorem dM_isCritical_19 : decode cM_isCritical 19 = .ok (.iadd, 1) := by decide +kernel
theorem dM_isCritical_20 : decode cM_isCritical 20 = .ok (.saload, 1) := by decide +kernel
theorem dM_isCritical_21 : decode cM_isCritical 21 = .ok (.istore_n 3, 1) := by decide +kernel
theorem dM_isCritical_22 : decode cM_isCritical 22 = .ok (.iload_n 3, 1) := by decide +kernel
theorem dM_isCritical_23 : decode cM_isCritical 23 = .ok (.aload_n 0, 1) := by decide +kernel
theorem dM_isCritical_24 : decode cM_isCritical 24 = .ok (.getfield 13, 3) := by decide +kernel
theorem dM_isCritical_27 : decode cM_isCritical 27 = .ok (.iload_n 2, 1) := by decide +kernel
theorem dM_isCritical_28 : decode cM_isCritical 28 = .ok (.iaload, 1) := by decide +kernel
theorem dM_isCritical_29 : decode cM_isCritical 29 = .ok (.if_icmp .ge 21, 3) := by decide +kernel
theorem dM_isCritical_32 : decode cM_isCritical 32 = .ok (.aload_n 0, 1) := by decide +kernel
theorem dM_isCritical_33 : decode cM_isCritical 33 = .ok (.iload_n 1, 1) := by decide +kernel
theorem dM_isCritical_34 : decode cM_isCritical 34 = .ok (.aload_n 0, 1) := by decide +kernel
theorem dM_isCritical_35 : decode cM_isCritical 35 = .ok (.getfield 18, 3) := by decide +kernel
theorem dM_isCritical_38 : decode cM_isCritical 38 = .ok (.iload_n 2, 1) := by decide +kernel
theorem dM_isCritical_39 : decode cM_isCritical 39 = .ok (.aaload, 1) := by decide +kernel
theorem dM_isCritical_40 : decode cM_isCritical 40 = .ok (.iload_n 3, 1) := by decide +kernel
theorem dM_isCritical_41 : decode cM_isCritical 41 = .ok (.iaload, 1) := by decide +kernel
theorem dM_isCritical_42 : decode cM_isCritical 42 = .ok (.invokevirtual 75, 3) := by decide +kernel
theorem dM_isCritical_45 : decode cM_isCritical 45 = .ok (.ifCond .ne 5, 3) := by decide +kernel
theorem dM_isCritical_48 : decode cM_isCritical 48 = .ok (.iconst 0, 1) := by decide +kernel
theorem dM_isCritical_49 : decode cM_isCritical 49 = .ok (.ireturn, 1) := by decide +kernel
theorem dM_isCritical_50 : decode cM_isCritical 50 = .ok (.iinc 2 1, 3) := by decide +kernel
theorem dM_isCritical_53 : decode cM_isCritical 53 = .ok (.goto (-51), 3) := by decide +kernel
theorem dM_isCritical_56 : decode cM_isCritical 56 = .ok (.iconst 1, 1) := by decide +kernel
theorem dM_isCritical_57 : decode cM_isCritical 57 = .ok (.ireturn, 1) := by decide +kernel
theorem dM_base_0 : decode cM_base 0 = .ok (.aload_n 0, 1) := by decide +kernel
theorem dM_base_1 : decode cM_base 1 = .ok (.iconst 0, 1) := by decide +kernel
theorem dM_base_2 : decode cM_base 2 = .ok (.putfield 113, 3) := by decide +kernel
theorem dM_base_5 : decode cM_base 5 = .ok (.aload_n 0, 1) := by decide +kernel
theorem dM_base_6 : decode cM_base 6 = .ok (.iload_n 1, 1) := by decide +kernel
theorem dM_base_7 : decode cM_base 7 = .ok (.invokevirtual 155, 3) := by decide +kernel
theorem dM_base_10 : decode cM_base 10 = .ok (.ireturn, 1) := by decide +kernel
theorem dM_base0_0 : decode cM_base0 0 = .ok (.iload_n 1, 1) := by decide +kernel
theorem dM_base0_1 : decode cM_base0 1 = .ok (.aload_n 0, 1) := by decide +kernel
theorem dM_base0_2 : decode cM_base0 2 = .ok (.getfield 55, 3) := by decide +kernel
theorem dM_base0_5 : decode cM_base0 5 = .ok (.if_icmp .ge 13, 3) := by decide +kernel
theorem dM_base0_8 : decode cM_base0 8 = .ok (.iload_n 1, 1) := by decide +kernel
theorem dM_base0_9 : decode cM_base0 9 = .ok (.iconst 0, 1) := by decide +kernel
theorem dM_base0_10 : decode cM_base0 10 = .ok (.invokestatic 105, 3) := by decide +kernel
theorem dM_base0_13 : decode cM_base0 13 = .ok (.iconst 1, 1) := by decide +kernel
theorem dM_base0_14 : decode cM_base0 14 = .ok (.isub, 1) := by decide +kernel
theorem dM_base0_15 : decode cM_base0 15 = .ok (.goto 9, 3) := by decide +kernel
theorem dM_base0_18 : decode cM_base0 18 = .ok (.aload_n 0, 1) := by decide +kernel
theorem dM_base0_19 : decode cM_base0 19 = .ok (.getfield 55, 3) := by decide +kernel
theorem dM_base0_22 : decode cM_base0 22 = .ok (.iconst 1, 1) := by decide +kernel
theorem dM_base0_23 : decode cM_base0 23 = .ok (.isub, 1) := by decide +kernel
theorem dM_base0_24 : decode cM_base0 24 = .ok (.istore_n 2, 1) := by decide +kernel
theorem dM_base0_25 : decode cM_base0 25 = .ok (.iload_n 2, 1) := by decide +kernel
theorem dM_base0_26 : decode cM_base0 26 = .ok (.ifCond .lt 19, 3) := by decide +kernel
theorem dM_base0_29 : decode cM_base0 29 = .ok (.aload_n 0, 1) := by decide +kernel
theorem dM_base0_30 : decode cM_base0 30 = .ok (.iload_n 2, 1) := by decide +kernel
theorem dM_base0_31 : decode cM_base0 31 = .ok (.invokevirtual 110, 3) := by decide +kernel
theorem dM_base0_34 : decode cM_base0 34 = .ok (.ifCond .eq 5, 3) := by decide +kernel
theorem dM_base0_37 : decode cM_base0 37 = .ok (.iload_n 2, 1) := by decide +kernel
theorem dM_base0_38 : decode cM_base0 38 = .ok (.ireturn, 1) := by decide +kernel
theorem dM_base0_39 : decode cM_base0 39 = .ok (.iinc 2 (-1), 3) := by decide +kernel
theorem dM_base0_42 : decode cM_base0 42 = .ok (.goto (-17), 3) := by decide +kernel
theorem dM_base0_45 : decode cM_base0 45 = .ok (.iconst (-1), 1) := by decide +kernel
theorem dM_base0_46 : decode cM_base0 46 = .ok (.ireturn, 1) := by decide +kernel
end
section
/-! The picture of the memory: at an address a cell, or nothing that we speak of. -/
abbrev sp_M : Type := Nat → Option va_E
/-- the numbers of the classes' objects, the first address that may be written, the array classes -/
abbrev sp_K : Type := va_G × Nat × (Nat → ClassId)
abbrev sp_X : Type := Program × Launch × Env × Room × State × MethodId × Array Value × List Frame × Method × Code
abbrev sp_A (κ : sp_K) : Nat → Prop := fun q => κ.2.1 ≤ q
def sp_c (μ : sp_M) (q : Nat) : va_E := (μ q).getD (.inr (0, []))
abbrev sp_ia (κ : sp_K) (n : Nat) (f : Nat → Int32) : va_E := .inl (κ.2.2 0, n, .inl f)
abbrev sp_sa (κ : sp_K) (n : Nat) (f : Nat → Int32) : va_E := .inl (κ.2.2 1, n, .inl f)
abbrev sp_la (κ : sp_K) (n : Nat) (f : Nat → Int64) : va_E := .inl (κ.2.2 2, n, .inr (.inl f))
abbrev sp_ra (κ : sp_K) (t : Nat) (n : Nat) (f : Nat → Option Nat) : va_E := .inl (κ.2.2 t, n, .inr (.inr (.inr (.inr f))))
abbrev sp_o (ci : Nat) (fs : List Value) : va_E := .inr (ci, fs)
def sp_B (μ : sp_M) : Prop := ∀ (q : Nat) (ca : ClassId) (y : vp_A), μ q = some (.inl (ca, y)) → y.1 < 2 ^ 31
def sp_H (κ : sp_K) (μ : sp_M) (H : Heap) : Prop := κ.2.1 ≤ H.size ∧ sp_B μ ∧ ∃ LP : List Nat, (∀ q, q ∈ LP ↔ (μ q).isSome = true) ∧ va_P κ.1 sp_cl (va_pl LP (sp_c μ)) H ∧ va_D (sp_A κ) (va_pl LP (sp_c μ))
def sp_tys (κ : sp_K) : List (ClassId × FieldType) := [(κ.2.2 0, .int), (κ.2.2 1, .short), (κ.2.2 2, .long), (κ.2.2 3, .object RA), (κ.2.2 4, .object RS), (κ.2.2 5, .array .int)]
/-- what a state holds beside the picture: the classes' numbers, the two statics of Throwable, words of the tables that go by facts -/
def sp_U (κ : sp_K) (U : State) : Prop := va_K κ.1 sp_cl (sp_tys κ) U ∧ vx_Zq Bundle.tN "UNASSIGNED_STACK" Bundle.steD (sp_A κ) U U.heap ∧ vx_Zq Bundle.tN "SUPPRESSED_SENTINEL" Bundle.listD (sp_A κ) U U.heap ∧ (∀ w ∈ sp_tw, w.before #[] U = true) ∧ (∀ q ∈ sp_nc, va_Nc q.1 q.2 U) ∧ va_AO RA U ∧ va_AO RS U ∧ (Cond.arrayOver (.array .int)).before #[] U = true
/-- a method's own frame: machine, code, words, room -/
def sp_C (κ : sp_K) (x : sp_X) (cc : ByteArray) (nL : Nat) (own : String) (ret : Option FieldType) (tb : List ExceptionTableEntry) (nm : String) (rm : Room) : Prop :=
  match x with
  | (p, l, _, R, s, m, args, _, meth, c) => CallFix p m c cc nL s args sp_wa own ∧ sp_U κ s ∧ κ.2.1 ≤ s.heap.size ∧ meth.locks = false ∧ meth.sig.returnType = ret ∧ c.exceptionTable.toList = tb ∧ meth.name = nm ∧ R = rm ∧ l.stackTraces = false
/-- the machine at pc with these locals and this stack, the memory as pictured, comes to Q -/
def sp_w (κ : sp_K) (x : sp_X) (Q : State → Prop) (k n pc : Nat) (lv : List (Nat × Value)) (st : List Value) (μ : sp_M) : Prop :=
  match x with
  | (p, l, e, R, s, m, args, below, meth, c) => ∀ (H : Heap) (locs : List Loc) (ls : Array Slot), sp_H κ μ H → va_S (sp_A κ) s.heap H locs → lv_has ls c.maxLocals lv → (∀ q ∈ lv, q.2.category = 1) → W p l e R s m args below meth c H locs k n Q (F0 m pc ls st)
/-- the same with an exception of class E thrown over the frame -/
def sp_t (κ : sp_K) (x : sp_X) (Q : State → Prop) (k n pc : Nat) (lv : List (Nat × Value)) (st : List Value) (E : String) (μ : sp_M) : Prop :=
  match x with
  | (p, l, e, R, s, m, args, below, meth, c) => ∀ (H : Heap) (locs : List Loc) (ls : Array Slot) (q : Addr) (ce : Cell), sp_H κ μ H → va_S (sp_A κ) s.heap H locs → lv_has ls c.maxLocals lv → (∀ q ∈ lv, q.2.category = 1) → H[q]? = some ce → ce.vm = .none → s.vm.findClass E = some ce.cls → vx_W p l e R s m args below meth c H locs k n Q (F0 m pc ls st) q
def sp_Q (κ : sp_K) (Rt : Option Value → sp_M → Prop) : Array Value → State → Outcome → State → Prop := fun _ st oc t => (∃ (v : Option Value) (μ : sp_M), oc = .returned v ∧ Rt v μ ∧ sp_H κ μ t.heap) ∧ va_F (sp_A κ) st t
def sp_XC (κ : sp_K) (Xt : String → sp_M → Prop) : String → State → State → Prop := fun E st t => (∃ μ : sp_M, Xt E μ ∧ sp_H κ μ t.heap) ∧ va_F (sp_A κ) st t
/-- what a body owes at its end -/
def sp_F (κ : sp_K) (x : sp_X) (Rt : Option Value → sp_M → Prop) (Xt : String → sp_M → Prop) (mc ms : Nat) : State → Prop :=
  match x with
  | (_, _, _, _, s, _, args, below, _, _) => vx_MQ below (sp_Q κ Rt) (sp_XC κ Xt) args s mc ms (sp_A κ)
abbrev sp_rm (f lo mc ms : Nat) : Room := { frames := f, cells := mc, slots := ms, locals := lo }
/-- a method's contract: from the memory μ it returns with Rt or throws with Xt; at most mc cells of ms slots are new -/
def sp_m (l : Launch) (κ : sp_K) (y : MethodName) (cw : Cond) (f lo mc ms : Nat) (as : List Value) (μ : sp_M) (Rt : Option Value → sp_M → Prop) (Xt : String → sp_M → Prop) : Prop :=
  vx_Met l y (cw :: sp_wa) (sp_rm f lo mc ms) (va_Pc as (fun U => sp_H κ μ U.heap ∧ sp_U κ U)) (sp_Q κ Rt) (sp_XC κ Xt) mc ms (sp_A κ)
theorem sp_at {μ : sp_M} {LP : List Nat} {a : Nat} {e : va_E} (hL : ∀ q, q ∈ LP ↔ (μ q).isSome = true) (ha : μ a = some e) : ∃ q0 : Nat, (va_pl LP (sp_c μ))[q0]? = some (a, e) := by
  have hm : a ∈ LP := (hL a).2 (by rw [ha]; rfl)
  obtain ⟨k, hk⟩ := va_pl_get (X := []) (f := sp_c μ) hm
  rw [List.nil_append] at hk
  refine ⟨k, ?_⟩
  rw [hk]
  simp [sp_c, ha]
theorem sp_cup {μ : sp_M} {a : Nat} {e : va_E} : sp_c (va_up μ a (some e)) = va_up (sp_c μ) a e := by
  funext q
  by_cases h : q = a
  · subst h; simp [sp_c, va_up]
  · simp [sp_c, va_up, h]
theorem sp_Bup {μ : sp_M} {a : Nat} {e : va_E} (h : sp_B μ) (he : ∀ (ca : ClassId) (y : vp_A), e = .inl (ca, y) → y.1 < 2 ^ 31) : sp_B (va_up μ a (some e)) := by
  intro q ca y hq
  by_cases h1 : q = a
  · subst h1
    rw [va_up_self] at hq
    exact he ca y (Option.some.inj hq)
  · rw [va_up_ne _ _ h1] at hq
    exact h q ca y hq
theorem sp_put {κ : sp_K} {μ : sp_M} {H0 H H1 : Heap} {locs1 : List Loc} {LP : List Nat} {a q0 : Nat} {e e' : va_E} (hN : κ.2.1 ≤ H0.size) (hS : va_S (sp_A κ) H0 H1 locs1) (hB : sp_B μ) (hL : ∀ q, q ∈ LP ↔ (μ q).isSome = true) (ha : μ a = some e) (hq : (va_pl LP (sp_c μ))[q0]? = some (a, e)) (hD : va_D (sp_A κ) (va_pl LP (sp_c μ)))
    (hP1 : va_P κ.1 sp_cl ((va_pl LP (sp_c μ)).set q0 (a, e')) H1) (hD1 : va_D (sp_A κ) ((va_pl LP (sp_c μ)).set q0 (a, e'))) (he : ∀ (ca : ClassId) (y : vp_A), e' = .inl (ca, y) → y.1 < 2 ^ 31) : sp_H κ (va_up μ a (some e')) H1 := by
  have hm : a ∈ LP := (hL a).2 (by rw [ha]; rfl)
  have hset : (va_pl LP (sp_c μ)).set q0 (a, e') = va_pl LP (sp_c (va_up μ a (some e'))) := by
    rw [sp_cup]
    have := va_pl_set (X := []) (f := sp_c μ) (k := q0) (e := e') hD hm (by rw [List.nil_append, hq]; simp [sp_c, ha])
    rw [List.nil_append, List.nil_append] at this
    exact this
  refine ⟨Nat.le_trans hN hS.1, sp_Bup hB he, LP, fun q => ?_, by rw [← hset]; exact hP1, by rw [← hset]; exact hD1⟩
  by_cases h : q = a
  · subst h
    rw [va_up_self]
    exact ⟨fun _ => rfl, fun _ => hm⟩
  · rw [va_up_ne _ _ h]
    exact hL q
theorem sp_push {κ : sp_K} {μ : sp_M} {H0 H1 : Heap} {locs1 : List Loc} {LP : List Nat} {a : Nat} {e : va_E} (hN : κ.2.1 ≤ H0.size) (hS : va_S (sp_A κ) H0 H1 locs1) (hB : sp_B μ) (hL : ∀ q, q ∈ LP ↔ (μ q).isSome = true)
    (hP1 : va_P κ.1 sp_cl (va_pl LP (sp_c μ) ++ [(a, e)]) H1) (hD1 : va_D (sp_A κ) (va_pl LP (sp_c μ) ++ [(a, e)])) (he : ∀ (ca : ClassId) (y : vp_A), e = .inl (ca, y) → y.1 < 2 ^ 31) : μ a = none ∧ sp_H κ (va_up μ a (some e)) H1 := by
  have hm : a ∉ LP := by
    intro h
    obtain ⟨k, hk⟩ := va_pl_get (X := []) (f := sp_c μ) h
    rw [List.nil_append] at hk
    have hlt := (List.getElem?_eq_some_iff.mp hk).1
    have h1 : (va_pl LP (sp_c μ) ++ [(a, e)])[k]? = some (a, sp_c μ a) := by rw [List.getElem?_append_left hlt]; exact hk
    have h2 : (va_pl LP (sp_c μ) ++ [(a, e)])[(va_pl LP (sp_c μ)).length]? = some (a, e) := by rw [List.getElem?_append_right (Nat.le_refl _), Nat.sub_self]; rfl
    have := hD1.1 k _ _ _ h1 h2 rfl
    omega
  have hz : μ a = none := by
    cases h : μ a with
    | none => rfl
    | some z => exact absurd ((hL a).2 (by rw [h]; rfl)) hm
  have hset : va_pl LP (sp_c μ) ++ [(a, e)] = va_pl (LP ++ [a]) (sp_c (va_up μ a (some e))) := by
    rw [sp_cup]
    exact va_pl_push hm
  refine ⟨hz, Nat.le_trans hN hS.1, sp_Bup hB he, LP ++ [a], fun q => ?_, by rw [← hset]; exact hP1, by rw [← hset]; exact hD1⟩
  rw [List.mem_append, List.mem_singleton]
  by_cases h : q = a
  · subst h
    rw [va_up_self]
    exact ⟨fun _ => rfl, fun _ => Or.inr rfl⟩
  · rw [va_up_ne _ _ h]
    exact ⟨fun h1 => h1.elim (hL q).1 (fun h2 => absurd h2 h), fun h1 => Or.inl ((hL q).2 h1)⟩
theorem sp_H.kept {κ : sp_K} {μ : sp_M} {H H1 : Heap} (h : sp_H κ μ H) (hz : H.size ≤ H1.size) (hk : ∀ q : Nat, q < H.size → H1[q]? = H[q]?) : sp_H κ μ H1 := by
  obtain ⟨h1, h2, LP, h3, h4, h5⟩ := h
  exact ⟨Nat.le_trans h1 hz, h2, LP, h3, fun i q hq => (h4 i q hq).kept (hk q.1 (h4 i q hq).lt), h5⟩
theorem sp_fw_moved {w : Cond} {u U : State} (hw : sp_fw w = true) (hvm : u.vm.Alike U.vm) (h : w.before #[] u = true) : w.before #[] U = true := by
  have tr : ∀ {c : Cond}, c.onTables = true → c.before #[] (u.setVm U.vm) = true → c.before #[] U = true := by
    intro c hc h
    have e := Cond.onTables_vm (A := #[]) (A' := #[]) (U := u) (U' := U) U.vm c hc
    have hU : U.setVm U.vm = U := rfl
    rw [hU] at e
    rw [← e]
    exact h
  cases w <;> first | (simp [sp_fw] at hw; done) | exact tr rfl (by rw [Cond.castable_setVm hvm]; exact h) | exact tr rfl (by rw [Cond.declares_setVm hvm]; exact h)
theorem sp_fw_any {w : Cond} {A : Array Value} {U : State} (hw : sp_fw w = true) (h : w.before #[] U = true) : w.before A U = true := by
  cases w <;> first | (simp [sp_fw] at hw; done) | exact va_any rfl h
theorem sp_U.moved {κ : sp_K} {u U : State} (hvm : u.vm.Alike U.vm) (hk : ∀ q : Nat, q < u.heap.size → ¬ sp_A κ q → U.heap[q]? = u.heap[q]?) (h : sp_U κ u) : sp_U κ U :=
  ⟨va_K.moved hvm h.1, vx_Zq.moved hvm (h.2.1.kept hk), vx_Zq.moved hvm (h.2.2.1.kept hk), fun w hw => sp_fw_moved (List.mem_filter.mp hw).2 hvm (h.2.2.2.1 w hw), fun q hq => (h.2.2.2.2.1 q hq).moved hvm, h.2.2.2.2.2.1.moved hvm, h.2.2.2.2.2.2.1.moved hvm, over_moved hvm h.2.2.2.2.2.2.2⟩
/-- a value of one word -/
theorem sp_c1i (v : Int32) : (Value.int v).category = 1 := rfl
theorem sp_c1r (v : Nat) : (Value.ref v).category = 1 := rfl
theorem sp_c1n : (Value.null).category = 1 := rfl
theorem sp_c1o (v : Option Nat) : (va_rf v).category = 1 := by cases v <;> rfl
/-- locals by rising number -/
def sp_ins (i : Nat) (v : Value) : List (Nat × Value) → List (Nat × Value)
  | [] => [(i, v)]
  | q :: r => if i < q.1 then (i, v) :: q :: r else q :: sp_ins i v r
def sp_del (i : Nat) : List (Nat × Value) → List (Nat × Value)
  | [] => []
  | q :: r => if q.1 = i then sp_del i r else q :: sp_del i r
def sp_st (lv : List (Nat × Value)) (i : Nat) (v : Value) : List (Nat × Value) := sp_ins i v (sp_del i lv)
theorem sp_ins_mem {i : Nat} {v : Value} : ∀ {l : List (Nat × Value)} {q : Nat × Value}, q ∈ sp_ins i v l → q = (i, v) ∨ q ∈ l
  | [], q, h => by simp [sp_ins] at h; exact Or.inl h
  | z :: r, q, h => by
    unfold sp_ins at h
    by_cases hz : i < z.1
    · rw [if_pos hz] at h
      rcases List.mem_cons.mp h with h1 | h1
      · exact Or.inl h1
      · exact Or.inr h1
    · rw [if_neg hz] at h
      rcases List.mem_cons.mp h with h1 | h1
      · exact Or.inr (h1 ▸ List.mem_cons_self)
      · rcases sp_ins_mem h1 with h2 | h2
        · exact Or.inl h2
        · exact Or.inr (List.mem_cons_of_mem _ h2)
theorem sp_del_mem {i : Nat} : ∀ {l : List (Nat × Value)} {q : Nat × Value}, q ∈ sp_del i l → q ∈ l ∧ q.1 ≠ i
  | [], q, h => by simp [sp_del] at h
  | z :: r, q, h => by
    unfold sp_del at h
    by_cases hz : z.1 = i
    · rw [if_pos hz] at h
      exact ⟨List.mem_cons_of_mem _ (sp_del_mem h).1, (sp_del_mem h).2⟩
    · rw [if_neg hz] at h
      rcases List.mem_cons.mp h with h1 | h1
      · subst h1
        exact ⟨List.mem_cons_self, hz⟩
      · exact ⟨List.mem_cons_of_mem _ (sp_del_mem h1).1, (sp_del_mem h1).2⟩
theorem sp_st_mem {lv : List (Nat × Value)} {i : Nat} {v : Value} {q : Nat × Value} (h : q ∈ sp_st lv i v) : q = (i, v) ∨ (q ∈ lv ∧ q.1 ≠ i) := by
  rcases sp_ins_mem h with h1 | h1
  · exact Or.inl h1
  · exact Or.inr (sp_del_mem h1)
theorem sp_st_c {lv : List (Nat × Value)} {i : Nat} {v : Value} (hv : v.category = 1) (hc : ∀ q ∈ lv, q.2.category = 1) : ∀ q ∈ sp_st lv i v, q.2.category = 1 := by
  intro q hq
  rcases sp_st_mem hq with h | h
  · subst h; exact hv
  · exact hc q h.1
theorem sp_st_has {ls : Array Slot} {nL : Nat} {lv : List (Nat × Value)} {i : Nat} {v : Value} (hc : ∀ q ∈ lv, q.2.category = 1) (h : lv_has ls nL ((i, v) :: lv.filter (fun q => !(q.1 == i) && !(q.1 + 1 == i && q.2.category == 2)))) : lv_has ls nL (sp_st lv i v) := by
  refine ⟨h.1, h.2.1, fun q hq => h.2.2 q ?_⟩
  rcases sp_st_mem hq with h1 | ⟨h1, h2⟩
  · exact h1 ▸ List.mem_cons_self
  · refine List.mem_cons_of_mem _ (List.mem_filter.mpr ⟨h1, ?_⟩)
    have := hc q h1
    simp [h2, this]
section
variable {κ : sp_K} {x : sp_X} {Q : State → Prop} {k n pc nL : Nat} {lv : List (Nat × Value)} {st : List Value} {μ : sp_M} {cc : ByteArray} {own : String} {ret : Option FieldType} {tb : List ExceptionTableEntry} {nm : String} {rm : Room}
theorem sr_iadd (h : sp_C κ x cc nL own ret tb nm rm) {a b : Int32} (d : decode cc pc = .ok (.iadd, 1)) (kk : sp_w κ x Q k n (pc + 1) lv (.int (a + b) :: st) μ) : sp_w κ x Q k n pc lv (.int b :: .int a :: st) μ := by
  obtain ⟨p, l, e, R, s, m, args, below, meth, c⟩ := x
  obtain ⟨⟨hx, hb, hml, hown, hts⟩, hU, hN, hlk, hr, htb, hnm, hR, htr⟩ := h
  intro H locs ls hH hS hl hc
  exact lv_iadd hx hb d (kk H locs ls hH hS hl hc)
theorem sr_isub (h : sp_C κ x cc nL own ret tb nm rm) {a b : Int32} (d : decode cc pc = .ok (.isub, 1)) (kk : sp_w κ x Q k n (pc + 1) lv (.int (a - b) :: st) μ) : sp_w κ x Q k n pc lv (.int b :: .int a :: st) μ := by
  obtain ⟨p, l, e, R, s, m, args, below, meth, c⟩ := x
  obtain ⟨⟨hx, hb, hml, hown, hts⟩, hU, hN, hlk, hr, htb, hnm, hR, htr⟩ := h
  intro H locs ls hH hS hl hc
  exact lv_isub hx hb d (kk H locs ls hH hS hl hc)
theorem sr_imul (h : sp_C κ x cc nL own ret tb nm rm) {a b : Int32} (d : decode cc pc = .ok (.imul, 1)) (kk : sp_w κ x Q k n (pc + 1) lv (.int (a * b) :: st) μ) : sp_w κ x Q k n pc lv (.int b :: .int a :: st) μ := by
  obtain ⟨p, l, e, R, s, m, args, below, meth, c⟩ := x
  obtain ⟨⟨hx, hb, hml, hown, hts⟩, hU, hN, hlk, hr, htb, hnm, hR, htr⟩ := h
  intro H locs ls hH hS hl hc
  exact lv_imul hx hb d (kk H locs ls hH hS hl hc)
theorem sr_iand (h : sp_C κ x cc nL own ret tb nm rm) {a b : Int32} (d : decode cc pc = .ok (.iand, 1)) (kk : sp_w κ x Q k n (pc + 1) lv (.int (a &&& b) :: st) μ) : sp_w κ x Q k n pc lv (.int b :: .int a :: st) μ := by
  obtain ⟨p, l, e, R, s, m, args, below, meth, c⟩ := x
  obtain ⟨⟨hx, hb, hml, hown, hts⟩, hU, hN, hlk, hr, htb, hnm, hR, htr⟩ := h
  intro H locs ls hH hS hl hc
  exact lv_iand hx hb d (kk H locs ls hH hS hl hc)
theorem sr_ior (h : sp_C κ x cc nL own ret tb nm rm) {a b : Int32} (d : decode cc pc = .ok (.ior, 1)) (kk : sp_w κ x Q k n (pc + 1) lv (.int (a ||| b) :: st) μ) : sp_w κ x Q k n pc lv (.int b :: .int a :: st) μ := by
  obtain ⟨p, l, e, R, s, m, args, below, meth, c⟩ := x
  obtain ⟨⟨hx, hb, hml, hown, hts⟩, hU, hN, hlk, hr, htb, hnm, hR, htr⟩ := h
  intro H locs ls hH hS hl hc
  exact lv_ior hx hb d (kk H locs ls hH hS hl hc)
theorem sr_ladd (h : sp_C κ x cc nL own ret tb nm rm) {a b : Int64} (d : decode cc pc = .ok (.ladd, 1)) (kk : sp_w κ x Q k n (pc + 1) lv (.long (a + b) :: st) μ) : sp_w κ x Q k n pc lv (.long b :: .long a :: st) μ := by
  obtain ⟨p, l, e, R, s, m, args, below, meth, c⟩ := x
  obtain ⟨⟨hx, hb, hml, hown, hts⟩, hU, hN, hlk, hr, htb, hnm, hR, htr⟩ := h
  intro H locs ls hH hS hl hc
  exact lv_ladd hx hb d (kk H locs ls hH hS hl hc)
theorem sr_lmul (h : sp_C κ x cc nL own ret tb nm rm) {a b : Int64} (d : decode cc pc = .ok (.lmul, 1)) (kk : sp_w κ x Q k n (pc + 1) lv (.long (a * b) :: st) μ) : sp_w κ x Q k n pc lv (.long b :: .long a :: st) μ := by
  obtain ⟨p, l, e, R, s, m, args, below, meth, c⟩ := x
  obtain ⟨⟨hx, hb, hml, hown, hts⟩, hU, hN, hlk, hr, htb, hnm, hR, htr⟩ := h
  intro H locs ls hH hS hl hc
  exact lv_lmul hx hb d (kk H locs ls hH hS hl hc)
theorem sr_lshl (h : sp_C κ x cc nL own ret tb nm rm) {a : Int64} {b : Int32} (d : decode cc pc = .ok (.lshl, 1)) (kk : sp_w κ x Q k n (pc + 1) lv (.long (a <<< (b.toInt64 &&& 63)) :: st) μ) : sp_w κ x Q k n pc lv (.int b :: .long a :: st) μ := by
  obtain ⟨p, l, e, R, s, m, args, below, meth, c⟩ := x
  obtain ⟨⟨hx, hb, hml, hown, hts⟩, hU, hN, hlk, hr, htb, hnm, hR, htr⟩ := h
  intro H locs ls hH hS hl hc
  exact lv_lshl hx hb d rfl (kk H locs ls hH hS hl hc)
theorem sr_i2l (h : sp_C κ x cc nL own ret tb nm rm) {a : Int32} (d : decode cc pc = .ok (.i2l, 1)) (kk : sp_w κ x Q k n (pc + 1) lv (.long a.toInt64 :: st) μ) : sp_w κ x Q k n pc lv (.int a :: st) μ := by
  obtain ⟨p, l, e, R, s, m, args, below, meth, c⟩ := x
  obtain ⟨⟨hx, hb, hml, hown, hts⟩, hU, hN, hlk, hr, htb, hnm, hR, htr⟩ := h
  intro H locs ls hH hS hl hc
  exact lv_i2l hx hb d rfl (kk H locs ls hH hS hl hc)
theorem sr_i2s (h : sp_C κ x cc nL own ret tb nm rm) {a : Int32} (d : decode cc pc = .ok (.i2s, 1)) (kk : sp_w κ x Q k n (pc + 1) lv (.int a.toInt16.toInt32 :: st) μ) : sp_w κ x Q k n pc lv (.int a :: st) μ := by
  obtain ⟨p, l, e, R, s, m, args, below, meth, c⟩ := x
  obtain ⟨⟨hx, hb, hml, hown, hts⟩, hU, hN, hlk, hr, htb, hnm, hR, htr⟩ := h
  intro H locs ls hH hS hl hc
  exact lv_i2s hx hb d rfl (kk H locs ls hH hS hl hc)
theorem sr_lcmp (h : sp_C κ x cc nL own ret tb nm rm) {a b : Int64} (d : decode cc pc = .ok (.lcmp, 1)) (kk : sp_w κ x Q k n (pc + 1) lv (.int (lg_cmp a b) :: st) μ) : sp_w κ x Q k n pc lv (.long b :: .long a :: st) μ := by
  obtain ⟨p, l, e, R, s, m, args, below, meth, c⟩ := x
  obtain ⟨⟨hx, hb, hml, hown, hts⟩, hU, hN, hlk, hr, htb, hnm, hR, htr⟩ := h
  intro H locs ls hH hS hl hc
  exact W.lcmp hx hb d (kk H locs ls hH hS hl hc)
theorem sr_iconst (h : sp_C κ x cc nL own ret tb nm rm) {a : Int} {v : Int32} (d : decode cc pc = .ok (.iconst a, 1)) (hv : Int32.ofInt a = v) (kk : sp_w κ x Q k n (pc + 1) lv (.int v :: st) μ) : sp_w κ x Q k n pc lv (st) μ := by
  obtain ⟨p, l, e, R, s, m, args, below, meth, c⟩ := x
  obtain ⟨⟨hx, hb, hml, hown, hts⟩, hU, hN, hlk, hr, htb, hnm, hR, htr⟩ := h
  intro H locs ls hH hS hl hc
  exact lv_iconst hx hb d hv (kk H locs ls hH hS hl hc)
theorem sr_bipush (h : sp_C κ x cc nL own ret tb nm rm) {a : Int} {v : Int32} (d : decode cc pc = .ok (.bipush a, 2)) (hv : (Int8.ofInt a).toInt32 = v) (kk : sp_w κ x Q k n (pc + 2) lv (.int v :: st) μ) : sp_w κ x Q k n pc lv (st) μ := by
  obtain ⟨p, l, e, R, s, m, args, below, meth, c⟩ := x
  obtain ⟨⟨hx, hb, hml, hown, hts⟩, hU, hN, hlk, hr, htb, hnm, hR, htr⟩ := h
  intro H locs ls hH hS hl hc
  exact lv_bipush hx hb d hv (kk H locs ls hH hS hl hc)
theorem sr_sipush (h : sp_C κ x cc nL own ret tb nm rm) {a : Int} {v : Int32} (d : decode cc pc = .ok (.sipush a, 3)) (hv : (Int16.ofInt a).toInt32 = v) (kk : sp_w κ x Q k n (pc + 3) lv (.int v :: st) μ) : sp_w κ x Q k n pc lv (st) μ := by
  obtain ⟨p, l, e, R, s, m, args, below, meth, c⟩ := x
  obtain ⟨⟨hx, hb, hml, hown, hts⟩, hU, hN, hlk, hr, htb, hnm, hR, htr⟩ := h
  intro H locs ls hH hS hl hc
  exact lv_sipush hx hb d hv (kk H locs ls hH hS hl hc)
theorem sr_lconst (h : sp_C κ x cc nL own ret tb nm rm) {a : Fin 2} {v : Int64} (d : decode cc pc = .ok (.lconst a, 1)) (hv : Int64.ofNat (a : Nat) = v) (kk : sp_w κ x Q k n (pc + 1) lv (.long v :: st) μ) : sp_w κ x Q k n pc lv (st) μ := by
  obtain ⟨p, l, e, R, s, m, args, below, meth, c⟩ := x
  obtain ⟨⟨hx, hb, hml, hown, hts⟩, hU, hN, hlk, hr, htb, hnm, hR, htr⟩ := h
  intro H locs ls hH hS hl hc
  exact lv_lconst hx hb d hv (kk H locs ls hH hS hl hc)
theorem sr_null (h : sp_C κ x cc nL own ret tb nm rm)  (d : decode cc pc = .ok (.aconst_null, 1)) (kk : sp_w κ x Q k n (pc + 1) lv (.null :: st) μ) : sp_w κ x Q k n pc lv (st) μ := by
  obtain ⟨p, l, e, R, s, m, args, below, meth, c⟩ := x
  obtain ⟨⟨hx, hb, hml, hown, hts⟩, hU, hN, hlk, hr, htb, hnm, hR, htr⟩ := h
  intro H locs ls hH hS hl hc
  exact lv_null hx hb d (kk H locs ls hH hS hl hc)
theorem sr_ldc (h : sp_C κ x cc nL own ret tb nm rm) {ix : Nat} {v : Int32} (d : decode cc pc = .ok (.ldc ix, 2)) (hw : Jvm.Cond.constant own ix v ∈ sp_wa) (kk : sp_w κ x Q k n (pc + 2) lv (.int v :: st) μ) : sp_w κ x Q k n pc lv (st) μ := by
  obtain ⟨p, l, e, R, s, m, args, below, meth, c⟩ := x
  obtain ⟨⟨hx, hb, hml, hown, hts⟩, hU, hN, hlk, hr, htb, hnm, hR, htr⟩ := h
  intro H locs ls hH hS hl hc
  exact lv_ldc hx hb hown (hts _ hw) d (kk H locs ls hH hS hl hc)
theorem sr_ldc2 (h : sp_C κ x cc nL own ret tb nm rm) {ix : Nat} {v : Int64} (d : decode cc pc = .ok (.ldc2_w ix, 3)) (hw : Jvm.Cond.constantLong own ix v ∈ sp_wa) (kk : sp_w κ x Q k n (pc + 3) lv (.long v :: st) μ) : sp_w κ x Q k n pc lv (st) μ := by
  obtain ⟨p, l, e, R, s, m, args, below, meth, c⟩ := x
  obtain ⟨⟨hx, hb, hml, hown, hts⟩, hU, hN, hlk, hr, htb, hnm, hR, htr⟩ := h
  intro H locs ls hH hS hl hc
  exact lv_ldc2 hx hb hown (hts _ hw) d (kk H locs ls hH hS hl hc)
theorem sr_dup (h : sp_C κ x cc nL own ret tb nm rm) {v : Value} (d : decode cc pc = .ok (.dup, 1)) (hv : v.category = 1) (kk : sp_w κ x Q k n (pc + 1) lv (v :: v :: st) μ) : sp_w κ x Q k n pc lv (v :: st) μ := by
  obtain ⟨p, l, e, R, s, m, args, below, meth, c⟩ := x
  obtain ⟨⟨hx, hb, hml, hown, hts⟩, hU, hN, hlk, hr, htb, hnm, hR, htr⟩ := h
  intro H locs ls hH hS hl hc
  exact lv_dup hx hb d hv (kk H locs ls hH hS hl hc)
theorem sr_pop (h : sp_C κ x cc nL own ret tb nm rm) {v : Value} (d : decode cc pc = .ok (.pop, 1)) (hv : v.category = 1) (kk : sp_w κ x Q k n (pc + 1) lv (st) μ) : sp_w κ x Q k n pc lv (v :: st) μ := by
  obtain ⟨p, l, e, R, s, m, args, below, meth, c⟩ := x
  obtain ⟨⟨hx, hb, hml, hown, hts⟩, hU, hN, hlk, hr, htb, hnm, hR, htr⟩ := h
  intro H locs ls hH hS hl hc
  exact lv_pop hx hb d hv (kk H locs ls hH hS hl hc)
theorem sr_dup_x1 (h : sp_C κ x cc nL own ret tb nm rm) {v v2 : Value} (d : decode cc pc = .ok (.dup_x1, 1)) (hv : v.category = 1) (hv2 : v2.category = 1) (kk : sp_w κ x Q k n (pc + 1) lv (v :: v2 :: v :: st) μ) : sp_w κ x Q k n pc lv (v :: v2 :: st) μ := by
  obtain ⟨p, l, e, R, s, m, args, below, meth, c⟩ := x
  obtain ⟨⟨hx, hb, hml, hown, hts⟩, hU, hN, hlk, hr, htb, hnm, hR, htr⟩ := h
  intro H locs ls hH hS hl hc
  exact lv_dup_x1 hx hb d hv hv2 (kk H locs ls hH hS hl hc)
theorem sr_dup_x2 (h : sp_C κ x cc nL own ret tb nm rm) {v v2 v3 : Value} (d : decode cc pc = .ok (.dup_x2, 1)) (hv : v.category = 1) (hv2 : v2.category = 1) (hv3 : v3.category = 1) (kk : sp_w κ x Q k n (pc + 1) lv (v :: v2 :: v3 :: v :: st) μ) : sp_w κ x Q k n pc lv (v :: v2 :: v3 :: st) μ := by
  obtain ⟨p, l, e, R, s, m, args, below, meth, c⟩ := x
  obtain ⟨⟨hx, hb, hml, hown, hts⟩, hU, hN, hlk, hr, htb, hnm, hR, htr⟩ := h
  intro H locs ls hH hS hl hc
  exact lv_dup_x2 hx hb d hv hv2 hv3 (kk H locs ls hH hS hl hc)
theorem sr_dup2 (h : sp_C κ x cc nL own ret tb nm rm) {v v2 : Value} (d : decode cc pc = .ok (.dup2, 1)) (hv : v.category = 1) (hv2 : v2.category = 1) (kk : sp_w κ x Q k n (pc + 1) lv (v :: v2 :: v :: v2 :: st) μ) : sp_w κ x Q k n pc lv (v :: v2 :: st) μ := by
  obtain ⟨p, l, e, R, s, m, args, below, meth, c⟩ := x
  obtain ⟨⟨hx, hb, hml, hown, hts⟩, hU, hN, hlk, hr, htb, hnm, hR, htr⟩ := h
  intro H locs ls hH hS hl hc
  exact lv_dup2_11 hx hb d hv hv2 (kk H locs ls hH hS hl hc)
theorem sr_iload_n (h : sp_C κ x cc nL own ret tb nm rm) {i : Fin 4} {ix : Nat} {v : Int32} (d : decode cc pc = .ok (.iload_n i, 1)) (hi : (i : Nat) = ix) (j : Nat) (hv : lv[j]? = some (ix, .int v)) (kk : sp_w κ x Q k n (pc + 1) lv (.int v :: st) μ) : sp_w κ x Q k n pc lv (st) μ := by
  obtain ⟨p, l, e, R, s, m, args, below, meth, c⟩ := x
  obtain ⟨⟨hx, hb, hml, hown, hts⟩, hU, hN, hlk, hr, htb, hnm, hR, htr⟩ := h
  intro H locs ls hH hS hl hc
  exact lv_iload_n hx hb d hi (lv_at hl j hv) (kk H locs ls hH hS hl hc)
theorem sr_iload (h : sp_C κ x cc nL own ret tb nm rm) {ix : Nat} {v : Int32} (d : decode cc pc = .ok (.iload ix, 2)) (j : Nat) (hv : lv[j]? = some (ix, .int v)) (kk : sp_w κ x Q k n (pc + 2) lv (.int v :: st) μ) : sp_w κ x Q k n pc lv (st) μ := by
  obtain ⟨p, l, e, R, s, m, args, below, meth, c⟩ := x
  obtain ⟨⟨hx, hb, hml, hown, hts⟩, hU, hN, hlk, hr, htb, hnm, hR, htr⟩ := h
  intro H locs ls hH hS hl hc
  exact lv_iload hx hb d (lv_at hl j hv) (kk H locs ls hH hS hl hc)
theorem sr_aload_n (h : sp_C κ x cc nL own ret tb nm rm) {i : Fin 4} {ix : Nat} {v : Nat} (d : decode cc pc = .ok (.aload_n i, 1)) (hi : (i : Nat) = ix) (j : Nat) (hv : lv[j]? = some (ix, .ref v)) (kk : sp_w κ x Q k n (pc + 1) lv (.ref v :: st) μ) : sp_w κ x Q k n pc lv (st) μ := by
  obtain ⟨p, l, e, R, s, m, args, below, meth, c⟩ := x
  obtain ⟨⟨hx, hb, hml, hown, hts⟩, hU, hN, hlk, hr, htb, hnm, hR, htr⟩ := h
  intro H locs ls hH hS hl hc
  exact lv_aload_n hx hb d hi (lv_at hl j hv) (kk H locs ls hH hS hl hc)
theorem sr_aload (h : sp_C κ x cc nL own ret tb nm rm) {ix : Nat} {v : Nat} (d : decode cc pc = .ok (.aload ix, 2)) (j : Nat) (hv : lv[j]? = some (ix, .ref v)) (kk : sp_w κ x Q k n (pc + 2) lv (.ref v :: st) μ) : sp_w κ x Q k n pc lv (st) μ := by
  obtain ⟨p, l, e, R, s, m, args, below, meth, c⟩ := x
  obtain ⟨⟨hx, hb, hml, hown, hts⟩, hU, hN, hlk, hr, htb, hnm, hR, htr⟩ := h
  intro H locs ls hH hS hl hc
  exact lv_aload hx hb d (lv_at hl j hv) (kk H locs ls hH hS hl hc)
theorem sr_aloadN_n (h : sp_C κ x cc nL own ret tb nm rm) {i : Fin 4} {ix : Nat}  (d : decode cc pc = .ok (.aload_n i, 1)) (hi : (i : Nat) = ix) (j : Nat) (hv : lv[j]? = some (ix, .null)) (kk : sp_w κ x Q k n (pc + 1) lv (.null :: st) μ) : sp_w κ x Q k n pc lv (st) μ := by
  obtain ⟨p, l, e, R, s, m, args, below, meth, c⟩ := x
  obtain ⟨⟨hx, hb, hml, hown, hts⟩, hU, hN, hlk, hr, htb, hnm, hR, htr⟩ := h
  intro H locs ls hH hS hl hc
  exact lv_aload_nN hx hb d hi (lv_at hl j hv) (kk H locs ls hH hS hl hc)
theorem sr_aloadN (h : sp_C κ x cc nL own ret tb nm rm) {ix : Nat}  (d : decode cc pc = .ok (.aload ix, 2)) (j : Nat) (hv : lv[j]? = some (ix, .null)) (kk : sp_w κ x Q k n (pc + 2) lv (.null :: st) μ) : sp_w κ x Q k n pc lv (st) μ := by
  obtain ⟨p, l, e, R, s, m, args, below, meth, c⟩ := x
  obtain ⟨⟨hx, hb, hml, hown, hts⟩, hU, hN, hlk, hr, htb, hnm, hR, htr⟩ := h
  intro H locs ls hH hS hl hc
  exact lv_aloadN hx hb d (lv_at hl j hv) (kk H locs ls hH hS hl hc)
theorem sr_aloadO_n (h : sp_C κ x cc nL own ret tb nm rm) {i : Fin 4} {ix : Nat} {r : Option Nat} (d : decode cc pc = .ok (.aload_n i, 1)) (hi : (i : Nat) = ix) (j : Nat) (hv : lv[j]? = some (ix, va_rf r)) (kk : sp_w κ x Q k n (pc + 1) lv (va_rf r :: st) μ) : sp_w κ x Q k n pc lv st μ := by
  cases r with
  | none => exact sr_aloadN_n h d hi j hv kk
  | some a => exact sr_aload_n h d hi j hv kk
theorem sr_aloadO (h : sp_C κ x cc nL own ret tb nm rm) {ix : Nat} {r : Option Nat} (d : decode cc pc = .ok (.aload ix, 2)) (j : Nat) (hv : lv[j]? = some (ix, va_rf r)) (kk : sp_w κ x Q k n (pc + 2) lv (va_rf r :: st) μ) : sp_w κ x Q k n pc lv st μ := by
  cases r with
  | none => exact sr_aloadN h d j hv kk
  | some a => exact sr_aload h d j hv kk
theorem sr_istore_n (h : sp_C κ x cc nL own ret tb nm rm) {i : Fin 4} {ix : Nat} {v : Int32} (d : decode cc pc = .ok (.istore_n i, 1)) (hi : (i : Nat) = ix) (hn : ix < nL) {lv' : List (Nat × Value)} (e' : sp_st lv ix (.int v) = lv') (kk : sp_w κ x Q k n (pc + 1) lv' st μ) : sp_w κ x Q k n pc lv (.int v :: st) μ := by
  subst e'
  obtain ⟨p, l, e, R, s, m, args, below, meth, c⟩ := x
  obtain ⟨⟨hx, hb, hml, hown, hts⟩, hU, hN, hlk, hr, htb, hnm, hR, htr⟩ := h
  intro H locs ls hH hS hl hc
  exact lv_istore_n hx hb d hi (hml ▸ hl) hn rfl (fun ls' hl' => kk H locs ls' hH hS (hml ▸ sp_st_has hc hl') (sp_st_c (sp_c1i _) hc))
theorem sr_istore (h : sp_C κ x cc nL own ret tb nm rm) {ix : Nat} {v : Int32} (d : decode cc pc = .ok (.istore ix, 2)) (hn : ix < nL) {lv' : List (Nat × Value)} (e' : sp_st lv ix (.int v) = lv') (kk : sp_w κ x Q k n (pc + 2) lv' st μ) : sp_w κ x Q k n pc lv (.int v :: st) μ := by
  subst e'
  obtain ⟨p, l, e, R, s, m, args, below, meth, c⟩ := x
  obtain ⟨⟨hx, hb, hml, hown, hts⟩, hU, hN, hlk, hr, htb, hnm, hR, htr⟩ := h
  intro H locs ls hH hS hl hc
  exact lv_istore hx hb d (hml ▸ hl) hn rfl (fun ls' hl' => kk H locs ls' hH hS (hml ▸ sp_st_has hc hl') (sp_st_c (sp_c1i _) hc))
theorem sr_astore_n (h : sp_C κ x cc nL own ret tb nm rm) {i : Fin 4} {ix : Nat} {v : Nat} (d : decode cc pc = .ok (.astore_n i, 1)) (hi : (i : Nat) = ix) (hn : ix < nL) {lv' : List (Nat × Value)} (e' : sp_st lv ix (.ref v) = lv') (kk : sp_w κ x Q k n (pc + 1) lv' st μ) : sp_w κ x Q k n pc lv (.ref v :: st) μ := by
  subst e'
  obtain ⟨p, l, e, R, s, m, args, below, meth, c⟩ := x
  obtain ⟨⟨hx, hb, hml, hown, hts⟩, hU, hN, hlk, hr, htb, hnm, hR, htr⟩ := h
  intro H locs ls hH hS hl hc
  exact lv_astore_n hx hb d hi (hml ▸ hl) hn rfl (fun ls' hl' => kk H locs ls' hH hS (hml ▸ sp_st_has hc hl') (sp_st_c (sp_c1r _) hc))
theorem sr_astore (h : sp_C κ x cc nL own ret tb nm rm) {ix : Nat} {v : Nat} (d : decode cc pc = .ok (.astore ix, 2)) (hn : ix < nL) {lv' : List (Nat × Value)} (e' : sp_st lv ix (.ref v) = lv') (kk : sp_w κ x Q k n (pc + 2) lv' st μ) : sp_w κ x Q k n pc lv (.ref v :: st) μ := by
  subst e'
  obtain ⟨p, l, e, R, s, m, args, below, meth, c⟩ := x
  obtain ⟨⟨hx, hb, hml, hown, hts⟩, hU, hN, hlk, hr, htb, hnm, hR, htr⟩ := h
  intro H locs ls hH hS hl hc
  exact lv_astore hx hb d (hml ▸ hl) hn rfl (fun ls' hl' => kk H locs ls' hH hS (hml ▸ sp_st_has hc hl') (sp_st_c (sp_c1r _) hc))
theorem sr_astoreN_n (h : sp_C κ x cc nL own ret tb nm rm) {i : Fin 4} {ix : Nat} (d : decode cc pc = .ok (.astore_n i, 1)) (hi : (i : Nat) = ix) (hn : ix < nL) {lv' : List (Nat × Value)} (e' : sp_st lv ix (.null) = lv') (kk : sp_w κ x Q k n (pc + 1) lv' st μ) : sp_w κ x Q k n pc lv (.null :: st) μ := by
  subst e'
  obtain ⟨p, l, e, R, s, m, args, below, meth, c⟩ := x
  obtain ⟨⟨hx, hb, hml, hown, hts⟩, hU, hN, hlk, hr, htb, hnm, hR, htr⟩ := h
  intro H locs ls hH hS hl hc
  exact lv_astore_nN hx hb d hi (hml ▸ hl) hn rfl (fun ls' hl' => kk H locs ls' hH hS (hml ▸ sp_st_has hc hl') (sp_st_c sp_c1n hc))
theorem sr_astoreN (h : sp_C κ x cc nL own ret tb nm rm) {ix : Nat} (d : decode cc pc = .ok (.astore ix, 2)) (hn : ix < nL) {lv' : List (Nat × Value)} (e' : sp_st lv ix (.null) = lv') (kk : sp_w κ x Q k n (pc + 2) lv' st μ) : sp_w κ x Q k n pc lv (.null :: st) μ := by
  subst e'
  obtain ⟨p, l, e, R, s, m, args, below, meth, c⟩ := x
  obtain ⟨⟨hx, hb, hml, hown, hts⟩, hU, hN, hlk, hr, htb, hnm, hR, htr⟩ := h
  intro H locs ls hH hS hl hc
  exact lv_astoreN hx hb d (hml ▸ hl) hn rfl (fun ls' hl' => kk H locs ls' hH hS (hml ▸ sp_st_has hc hl') (sp_st_c sp_c1n hc))
theorem sr_astoreO_n (h : sp_C κ x cc nL own ret tb nm rm) {i : Fin 4} {ix : Nat} {r : Option Nat} (d : decode cc pc = .ok (.astore_n i, 1)) (hi : (i : Nat) = ix) (hn : ix < nL) {lv' : List (Nat × Value)} (e' : sp_st lv ix (va_rf r) = lv') (kk : sp_w κ x Q k n (pc + 1) lv' st μ) : sp_w κ x Q k n pc lv (va_rf r :: st) μ := by
  cases r with
  | none => exact sr_astoreN_n h d hi hn e' kk
  | some a => exact sr_astore_n h d hi hn e' kk
theorem sr_astoreO (h : sp_C κ x cc nL own ret tb nm rm) {ix : Nat} {r : Option Nat} (d : decode cc pc = .ok (.astore ix, 2)) (hn : ix < nL) {lv' : List (Nat × Value)} (e' : sp_st lv ix (va_rf r) = lv') (kk : sp_w κ x Q k n (pc + 2) lv' st μ) : sp_w κ x Q k n pc lv (va_rf r :: st) μ := by
  cases r with
  | none => exact sr_astoreN h d hn e' kk
  | some a => exact sr_astore h d hn e' kk
theorem sr_iinc (h : sp_C κ x cc nL own ret tb nm rm) {ix : Nat} {a : Int} {v u : Int32} (d : decode cc pc = .ok (.iinc ix a, 3)) (j : Nat) (hv : lv[j]? = some (ix, .int v)) (hu : v + Int32.ofInt a = u) (hn : ix < nL) {lv' : List (Nat × Value)} (e' : sp_st lv ix (.int u) = lv') (kk : sp_w κ x Q k n (pc + 3) lv' st μ) : sp_w κ x Q k n pc lv st μ := by
  subst e'
  obtain ⟨p, l, e, R, s, m, args, below, meth, c⟩ := x
  obtain ⟨⟨hx, hb, hml, hown, hts⟩, hU, hN, hlk, hr, htb, hnm, hR, htr⟩ := h
  intro H locs ls hH hS hl hc
  exact lv_iinc hx hb d (hml ▸ hl) hv hu hn rfl (fun ls' hl' => kk H locs ls' hH hS (hml ▸ sp_st_has hc hl') (sp_st_c (sp_c1i _) hc))
theorem sr_if_eq (h : sp_C κ x cc nL own ret tb nm rm) {a : Int32} {off : Int} {tgt : Nat} (d : decode cc pc = .ok (.ifCond .eq off, 3)) (ht : (pc : Int) + off = (tgt : Int)) (kt : a = 0 → sp_w κ x Q k n tgt lv st μ) (kf : ¬ a = 0 → sp_w κ x Q k n (pc + 3) lv st μ) : sp_w κ x Q k n pc lv (.int a :: st) μ := by
  obtain ⟨p, l, e, R, s, m, args, below, meth, c⟩ := x
  obtain ⟨⟨hx, hb, hml, hown, hts⟩, hU, hN, hlk, hr, htb, hnm, hR, htr⟩ := h
  intro H locs ls hH hS hl hc
  exact lv_if_eq hx hb d ht (fun z => kt z H locs ls hH hS hl hc) (fun z => kf z H locs ls hH hS hl hc)
theorem sr_if_ne (h : sp_C κ x cc nL own ret tb nm rm) {a : Int32} {off : Int} {tgt : Nat} (d : decode cc pc = .ok (.ifCond .ne off, 3)) (ht : (pc : Int) + off = (tgt : Int)) (kt : ¬ a = 0 → sp_w κ x Q k n tgt lv st μ) (kf : a = 0 → sp_w κ x Q k n (pc + 3) lv st μ) : sp_w κ x Q k n pc lv (.int a :: st) μ := by
  obtain ⟨p, l, e, R, s, m, args, below, meth, c⟩ := x
  obtain ⟨⟨hx, hb, hml, hown, hts⟩, hU, hN, hlk, hr, htb, hnm, hR, htr⟩ := h
  intro H locs ls hH hS hl hc
  exact lv_if_ne hx hb d ht (fun z => kt z H locs ls hH hS hl hc) (fun z => kf z H locs ls hH hS hl hc)
theorem sr_if_lt (h : sp_C κ x cc nL own ret tb nm rm) {a : Int32} {off : Int} {tgt : Nat} (d : decode cc pc = .ok (.ifCond .lt off, 3)) (ht : (pc : Int) + off = (tgt : Int)) (kt : a < 0 → sp_w κ x Q k n tgt lv st μ) (kf : ¬ a < 0 → sp_w κ x Q k n (pc + 3) lv st μ) : sp_w κ x Q k n pc lv (.int a :: st) μ := by
  obtain ⟨p, l, e, R, s, m, args, below, meth, c⟩ := x
  obtain ⟨⟨hx, hb, hml, hown, hts⟩, hU, hN, hlk, hr, htb, hnm, hR, htr⟩ := h
  intro H locs ls hH hS hl hc
  exact lv_if_lt hx hb d ht (fun z => kt z H locs ls hH hS hl hc) (fun z => kf z H locs ls hH hS hl hc)
theorem sr_if_ge (h : sp_C κ x cc nL own ret tb nm rm) {a : Int32} {off : Int} {tgt : Nat} (d : decode cc pc = .ok (.ifCond .ge off, 3)) (ht : (pc : Int) + off = (tgt : Int)) (kt : 0 ≤ a → sp_w κ x Q k n tgt lv st μ) (kf : ¬ 0 ≤ a → sp_w κ x Q k n (pc + 3) lv st μ) : sp_w κ x Q k n pc lv (.int a :: st) μ := by
  obtain ⟨p, l, e, R, s, m, args, below, meth, c⟩ := x
  obtain ⟨⟨hx, hb, hml, hown, hts⟩, hU, hN, hlk, hr, htb, hnm, hR, htr⟩ := h
  intro H locs ls hH hS hl hc
  exact lv_if_ge hx hb d ht (fun z => kt z H locs ls hH hS hl hc) (fun z => kf z H locs ls hH hS hl hc)
theorem sr_if_gt (h : sp_C κ x cc nL own ret tb nm rm) {a : Int32} {off : Int} {tgt : Nat} (d : decode cc pc = .ok (.ifCond .gt off, 3)) (ht : (pc : Int) + off = (tgt : Int)) (kt : 0 < a → sp_w κ x Q k n tgt lv st μ) (kf : ¬ 0 < a → sp_w κ x Q k n (pc + 3) lv st μ) : sp_w κ x Q k n pc lv (.int a :: st) μ := by
  obtain ⟨p, l, e, R, s, m, args, below, meth, c⟩ := x
  obtain ⟨⟨hx, hb, hml, hown, hts⟩, hU, hN, hlk, hr, htb, hnm, hR, htr⟩ := h
  intro H locs ls hH hS hl hc
  exact lv_if_gt hx hb d ht (fun z => kt z H locs ls hH hS hl hc) (fun z => kf z H locs ls hH hS hl hc)
theorem sr_if_le (h : sp_C κ x cc nL own ret tb nm rm) {a : Int32} {off : Int} {tgt : Nat} (d : decode cc pc = .ok (.ifCond .le off, 3)) (ht : (pc : Int) + off = (tgt : Int)) (kt : a ≤ 0 → sp_w κ x Q k n tgt lv st μ) (kf : ¬ a ≤ 0 → sp_w κ x Q k n (pc + 3) lv st μ) : sp_w κ x Q k n pc lv (.int a :: st) μ := by
  obtain ⟨p, l, e, R, s, m, args, below, meth, c⟩ := x
  obtain ⟨⟨hx, hb, hml, hown, hts⟩, hU, hN, hlk, hr, htb, hnm, hR, htr⟩ := h
  intro H locs ls hH hS hl hc
  exact lv_if_le hx hb d ht (fun z => kt z H locs ls hH hS hl hc) (fun z => kf z H locs ls hH hS hl hc)
theorem sr_icmp_eq (h : sp_C κ x cc nL own ret tb nm rm) {a b : Int32} {off : Int} {tgt : Nat} (d : decode cc pc = .ok (.if_icmp .eq off, 3)) (ht : (pc : Int) + off = (tgt : Int)) (kt : a = b → sp_w κ x Q k n tgt lv st μ) (kf : ¬ a = b → sp_w κ x Q k n (pc + 3) lv st μ) : sp_w κ x Q k n pc lv (.int b :: .int a :: st) μ := by
  obtain ⟨p, l, e, R, s, m, args, below, meth, c⟩ := x
  obtain ⟨⟨hx, hb, hml, hown, hts⟩, hU, hN, hlk, hr, htb, hnm, hR, htr⟩ := h
  intro H locs ls hH hS hl hc
  exact lv_icmp_eq hx hb d ht (fun z => kt z H locs ls hH hS hl hc) (fun z => kf z H locs ls hH hS hl hc)
theorem sr_icmp_ne (h : sp_C κ x cc nL own ret tb nm rm) {a b : Int32} {off : Int} {tgt : Nat} (d : decode cc pc = .ok (.if_icmp .ne off, 3)) (ht : (pc : Int) + off = (tgt : Int)) (kt : ¬ a = b → sp_w κ x Q k n tgt lv st μ) (kf : a = b → sp_w κ x Q k n (pc + 3) lv st μ) : sp_w κ x Q k n pc lv (.int b :: .int a :: st) μ := by
  obtain ⟨p, l, e, R, s, m, args, below, meth, c⟩ := x
  obtain ⟨⟨hx, hb, hml, hown, hts⟩, hU, hN, hlk, hr, htb, hnm, hR, htr⟩ := h
  intro H locs ls hH hS hl hc
  exact lv_icmp_ne hx hb d ht (fun z => kt z H locs ls hH hS hl hc) (fun z => kf z H locs ls hH hS hl hc)
theorem sr_icmp_lt (h : sp_C κ x cc nL own ret tb nm rm) {a b : Int32} {off : Int} {tgt : Nat} (d : decode cc pc = .ok (.if_icmp .lt off, 3)) (ht : (pc : Int) + off = (tgt : Int)) (kt : a < b → sp_w κ x Q k n tgt lv st μ) (kf : ¬ a < b → sp_w κ x Q k n (pc + 3) lv st μ) : sp_w κ x Q k n pc lv (.int b :: .int a :: st) μ := by
  obtain ⟨p, l, e, R, s, m, args, below, meth, c⟩ := x
  obtain ⟨⟨hx, hb, hml, hown, hts⟩, hU, hN, hlk, hr, htb, hnm, hR, htr⟩ := h
  intro H locs ls hH hS hl hc
  exact lv_icmp_lt hx hb d ht (fun z => kt z H locs ls hH hS hl hc) (fun z => kf z H locs ls hH hS hl hc)
theorem sr_icmp_ge (h : sp_C κ x cc nL own ret tb nm rm) {a b : Int32} {off : Int} {tgt : Nat} (d : decode cc pc = .ok (.if_icmp .ge off, 3)) (ht : (pc : Int) + off = (tgt : Int)) (kt : b ≤ a → sp_w κ x Q k n tgt lv st μ) (kf : ¬ b ≤ a → sp_w κ x Q k n (pc + 3) lv st μ) : sp_w κ x Q k n pc lv (.int b :: .int a :: st) μ := by
  obtain ⟨p, l, e, R, s, m, args, below, meth, c⟩ := x
  obtain ⟨⟨hx, hb, hml, hown, hts⟩, hU, hN, hlk, hr, htb, hnm, hR, htr⟩ := h
  intro H locs ls hH hS hl hc
  exact lv_icmp_ge hx hb d ht (fun z => kt z H locs ls hH hS hl hc) (fun z => kf z H locs ls hH hS hl hc)
theorem sr_icmp_gt (h : sp_C κ x cc nL own ret tb nm rm) {a b : Int32} {off : Int} {tgt : Nat} (d : decode cc pc = .ok (.if_icmp .gt off, 3)) (ht : (pc : Int) + off = (tgt : Int)) (kt : b < a → sp_w κ x Q k n tgt lv st μ) (kf : ¬ b < a → sp_w κ x Q k n (pc + 3) lv st μ) : sp_w κ x Q k n pc lv (.int b :: .int a :: st) μ := by
  obtain ⟨p, l, e, R, s, m, args, below, meth, c⟩ := x
  obtain ⟨⟨hx, hb, hml, hown, hts⟩, hU, hN, hlk, hr, htb, hnm, hR, htr⟩ := h
  intro H locs ls hH hS hl hc
  exact lv_icmp_gt hx hb d ht (fun z => kt z H locs ls hH hS hl hc) (fun z => kf z H locs ls hH hS hl hc)
theorem sr_icmp_le (h : sp_C κ x cc nL own ret tb nm rm) {a b : Int32} {off : Int} {tgt : Nat} (d : decode cc pc = .ok (.if_icmp .le off, 3)) (ht : (pc : Int) + off = (tgt : Int)) (kt : a ≤ b → sp_w κ x Q k n tgt lv st μ) (kf : ¬ a ≤ b → sp_w κ x Q k n (pc + 3) lv st μ) : sp_w κ x Q k n pc lv (.int b :: .int a :: st) μ := by
  obtain ⟨p, l, e, R, s, m, args, below, meth, c⟩ := x
  obtain ⟨⟨hx, hb, hml, hown, hts⟩, hU, hN, hlk, hr, htb, hnm, hR, htr⟩ := h
  intro H locs ls hH hS hl hc
  exact lv_icmp_le hx hb d ht (fun z => kt z H locs ls hH hS hl hc) (fun z => kf z H locs ls hH hS hl hc)
theorem sr_goto (h : sp_C κ x cc nL own ret tb nm rm) {off : Int} {tgt : Nat} (d : decode cc pc = .ok (.goto off, 3)) (ht : (pc : Int) + off = (tgt : Int)) (kk : sp_w κ x Q k n tgt lv st μ) : sp_w κ x Q k n pc lv st μ := by
  obtain ⟨p, l, e, R, s, m, args, below, meth, c⟩ := x
  obtain ⟨⟨hx, hb, hml, hown, hts⟩, hU, hN, hlk, hr, htb, hnm, hR, htr⟩ := h
  intro H locs ls hH hS hl hc
  exact lv_goto hx hb d ht (kk H locs ls hH hS hl hc)
theorem sr_ifnull_s (h : sp_C κ x cc nL own ret tb nm rm) {a : Nat} {off : Int} (d : decode cc pc = .ok (.ifnull off, 3)) (kk : sp_w κ x Q k n (pc + 3) lv st μ) : sp_w κ x Q k n pc lv (va_rf (some a) :: st) μ := by
  obtain ⟨p, l, e, R, s, m, args, below, meth, c⟩ := x
  obtain ⟨⟨hx, hb, hml, hown, hts⟩, hU, hN, hlk, hr, htb, hnm, hR, htr⟩ := h
  intro H locs ls hH hS hl hc
  exact lv_ifnull hx hb d (kk H locs ls hH hS hl hc)
theorem sr_ifnull_n (h : sp_C κ x cc nL own ret tb nm rm) {off : Int} {tgt : Nat} (d : decode cc pc = .ok (.ifnull off, 3)) (ht : (pc : Int) + off = (tgt : Int)) (kk : sp_w κ x Q k n tgt lv st μ) : sp_w κ x Q k n pc lv (va_rf none :: st) μ := by
  obtain ⟨p, l, e, R, s, m, args, below, meth, c⟩ := x
  obtain ⟨⟨hx, hb, hml, hown, hts⟩, hU, hN, hlk, hr, htb, hnm, hR, htr⟩ := h
  intro H locs ls hH hS hl hc
  exact lv_ifnullN hx hb d ht (kk H locs ls hH hS hl hc)
theorem sr_ifnonnull_s (h : sp_C κ x cc nL own ret tb nm rm) {a : Nat} {off : Int} {tgt : Nat} (d : decode cc pc = .ok (.ifnonnull off, 3)) (ht : (pc : Int) + off = (tgt : Int)) (kk : sp_w κ x Q k n tgt lv st μ) : sp_w κ x Q k n pc lv (va_rf (some a) :: st) μ := by
  obtain ⟨p, l, e, R, s, m, args, below, meth, c⟩ := x
  obtain ⟨⟨hx, hb, hml, hown, hts⟩, hU, hN, hlk, hr, htb, hnm, hR, htr⟩ := h
  intro H locs ls hH hS hl hc
  exact lv_ifnonnull hx hb d ht (kk H locs ls hH hS hl hc)
theorem sr_ifnonnull_n (h : sp_C κ x cc nL own ret tb nm rm) {off : Int} (d : decode cc pc = .ok (.ifnonnull off, 3)) (kk : sp_w κ x Q k n (pc + 3) lv st μ) : sp_w κ x Q k n pc lv (va_rf none :: st) μ := by
  obtain ⟨p, l, e, R, s, m, args, below, meth, c⟩ := x
  obtain ⟨⟨hx, hb, hml, hown, hts⟩, hU, hN, hlk, hr, htb, hnm, hR, htr⟩ := h
  intro H locs ls hH hS hl hc
  exact lv_ifnonnullN hx hb d (kk H locs ls hH hS hl hc)
/-- fewer locals -/
theorem sr_sub (ks : List Nat) {lv' : List (Nat × Value)} (e' : lv_pick lv ks = lv') (kk : sp_w κ x Q k n pc lv' st μ) : sp_w κ x Q k n pc lv st μ := by
  obtain ⟨p, l, e, R, s, m, args, below, meth, c⟩ := x
  intro H locs ls hH hS hl hc
  refine kk H locs ls hH hS (lv_sub hl ks e') (fun q hq => ?_)
  rw [← e'] at hq
  obtain ⟨i, -, hi⟩ := List.mem_filterMap.mp hq
  exact hc q (List.mem_of_getElem? hi)
theorem sr_widen {k' n' : Nat} (h1 : k ≤ k') (h2 : n ≤ n') (kk : sp_w κ x Q k' n' pc lv st μ) : sp_w κ x Q k n pc lv st μ := by
  obtain ⟨p, l, e, R, s, m, args, below, meth, c⟩ := x
  intro H locs ls hH hS hl hc
  exact W.widen h1 h2 (kk H locs ls hH hS hl hc)
theorem sr_get (h : sp_C κ x cc nL own ret tb nm rm) {C : String} {T : u_T} {N ci ix : Nat} (hin : ∀ w ∈ u_ws C T N, w ∈ sp_wa) (hc0 : sp_cl[ci]? = some (C, T, N)) (fk : Nat) (hk : fk < N) (hlink : Cond.fieldLink own ix (T fk).1 (T fk).2.1 (T fk).2.2.1 ∈ sp_wa) (d : decode cc pc = .ok (.getfield ix, 3)) {a : Nat} {fs : List Value} (ho : μ a = some (.inr (ci, fs))) {v : Value} (hv : fs[fk]? = some v) (kk : sp_w κ x Q k n (pc + 3) lv (v :: st) μ) : sp_w κ x Q k n pc lv (.ref a :: st) μ := by
  obtain ⟨p, l, e, R, s, m, args, below, meth, c⟩ := x
  obtain ⟨⟨hx, hb, hml, hown, hts⟩, hU, hN, hlk, hr, htb, hnm, hR, htr⟩ := h
  intro H locs ls hH hS hl hc
  have kk' := kk H locs ls hH hS hl hc
  obtain ⟨h1, h2, LP, h3, h4, h5⟩ := hH
  obtain ⟨q0, hq0⟩ := sp_at h3 ho
  exact va_get hx hb hts hin hown hU.1 h4 q0 hq0 hc0 fk hk (hts _ hlink) (fun _ h9 => h9) hv d kk'
theorem sr_put (h : sp_C κ x cc nL own ret tb nm rm) {C : String} {T : u_T} {N ci ix : Nat} (hin : ∀ w ∈ u_ws C T N, w ∈ sp_wa) (ty0 : Nat → FieldType) (hty : ∀ k, k < N → parseFieldDescriptor (T k).2.2.1 = some (ty0 k)) (hnn : ∀ a, a < N → ∀ b, b < N → a ≠ b → (T a).2.1 ≠ (T b).2.1) (hc0 : sp_cl[ci]? = some (C, T, N)) (fk : Nat) (hk : fk < N) (hlink : Cond.fieldLink own ix (T fk).1 (T fk).2.1 (T fk).2.2.1 ∈ sp_wa) (hfin : (T fk).2.2.2 = false) (d : decode cc pc = .ok (.putfield ix, 3)) {a : Nat} {fs : List Value} (ho : μ a = some (.inr (ci, fs))) {v : Value} (hn : narrow (ty0 fk) v = v) (hfit : fits (ty0 fk) v = true) (hfl : fk < fs.length) (kk : sp_w κ x Q k n (pc + 3) lv st (va_up μ a (some (.inr (ci, fs.set fk v))))) : sp_w κ x Q k n pc lv (v :: .ref a :: st) μ := by
  obtain ⟨p, l, e, R, s, m, args, below, meth, c⟩ := x
  obtain ⟨⟨hx, hb, hml, hown, hts⟩, hU, hN, hlk, hr, htb, hnm, hR, htr⟩ := h
  intro H locs ls hH hS hl hc
  obtain ⟨h1, h2, LP, h3, h4, h5⟩ := hH
  obtain ⟨q0, hq0⟩ := sp_at h3 ho
  exact va_put hx hb hts hin ty0 hty hnn hown hU.1 h4 h5 hS q0 hq0 hc0 fk hk (hts _ hlink) (fun _ h9 => h9) hfin (hty fk hk) hn hfit hfl d (fun H1 locs1 hP1 hD1 hS1 => kk H1 locs1 ls (sp_put (H := H) hN hS1 h2 h3 ho hq0 h5 hP1 hD1 (fun ca y z => by cases z)) hS1 hl hc)
theorem sr_putF (h : sp_C κ x cc nL own ret tb nm rm) (hini : nm = "<init>") {C : String} {T : u_T} {N ci ix : Nat} (hin : ∀ w ∈ u_ws C T N, w ∈ sp_wa) (ty0 : Nat → FieldType) (hty : ∀ k, k < N → parseFieldDescriptor (T k).2.2.1 = some (ty0 k)) (hnn : ∀ a, a < N → ∀ b, b < N → a ≠ b → (T a).2.1 ≠ (T b).2.1) (hc0 : sp_cl[ci]? = some (C, T, N)) (fk : Nat) (hk : fk < N) (hlink : Cond.fieldLink own ix (T fk).1 (T fk).2.1 (T fk).2.2.1 ∈ sp_wa) (hfin : (T fk).2.2.2 = true) (hde : (T fk).1 = own) (d : decode cc pc = .ok (.putfield ix, 3)) {a : Nat} {fs : List Value} (ho : μ a = some (.inr (ci, fs))) {v : Value} (hn : narrow (ty0 fk) v = v) (hfit : fits (ty0 fk) v = true) (hfl : fk < fs.length) (kk : sp_w κ x Q k n (pc + 3) lv st (va_up μ a (some (.inr (ci, fs.set fk v))))) : sp_w κ x Q k n pc lv (v :: .ref a :: st) μ := by
  obtain ⟨p, l, e, R, s, m, args, below, meth, c⟩ := x
  obtain ⟨⟨hx, hb, hml, hown, hts⟩, hU, hN, hlk, hr, htb, hnm, hR, htr⟩ := h
  intro H locs ls hH hS hl hc
  obtain ⟨h1, h2, LP, h3, h4, h5⟩ := hH
  obtain ⟨q0, hq0⟩ := sp_at h3 ho
  exact va_putF hx hb hts hin ty0 hty hnn hown hU.1 h4 h5 hS q0 hq0 hc0 fk hk (hts _ hlink) (fun _ h9 => h9) hfin (hnm.trans hini) hde (hty fk hk) hn hfit hfl d (fun H1 locs1 hP1 hD1 hS1 => kk H1 locs1 ls (sp_put (H := H) hN hS1 h2 h3 ho hq0 h5 hP1 hD1 (fun ca y z => by cases z)) hS1 hl hc)
theorem sr_iald (h : sp_C κ x cc nL own ret tb nm rm) (d : decode cc pc = .ok (.iaload, 1)) {a N j : Nat} {f : Nat → Int32} {i : Int32} (ho : μ a = some (sp_ia κ N f)) (hi : i = nI j) (hj : j < N) (kk : sp_w κ x Q k n (pc + 1) lv (.int (f j) :: st) μ) : sp_w κ x Q k n pc lv (.int i :: .ref a :: st) μ := by
  subst hi
  obtain ⟨p, l, e, R, s, m, args, below, meth, c⟩ := x
  obtain ⟨⟨hx, hb, hml, hown, hts⟩, hU, hN, hlk, hr, htb, hnm, hR, htr⟩ := h
  intro H locs ls hH hS hl hc
  have kk' := kk H locs ls hH hS hl hc
  obtain ⟨h1, h2, LP, h3, h4, h5⟩ := hH
  obtain ⟨q0, hq0⟩ := sp_at h3 ho
  have hb3 : N < 2 ^ 31 := h2 a _ _ ho
  rw [← nI_clamp (Nat.lt_trans hj hb3)] at kk'
  exact va_iald hx hb hU.1 h4 q0 0 hq0 rfl (vp_in_nI hj hb3) d kk'
theorem sr_sald (h : sp_C κ x cc nL own ret tb nm rm) (d : decode cc pc = .ok (.saload, 1)) {a N j : Nat} {f : Nat → Int32} {i : Int32} (ho : μ a = some (sp_sa κ N f)) (hi : i = nI j) (hj : j < N) (kk : sp_w κ x Q k n (pc + 1) lv (.int (f j) :: st) μ) : sp_w κ x Q k n pc lv (.int i :: .ref a :: st) μ := by
  subst hi
  obtain ⟨p, l, e, R, s, m, args, below, meth, c⟩ := x
  obtain ⟨⟨hx, hb, hml, hown, hts⟩, hU, hN, hlk, hr, htb, hnm, hR, htr⟩ := h
  intro H locs ls hH hS hl hc
  have kk' := kk H locs ls hH hS hl hc
  obtain ⟨h1, h2, LP, h3, h4, h5⟩ := hH
  obtain ⟨q0, hq0⟩ := sp_at h3 ho
  have hb3 : N < 2 ^ 31 := h2 a _ _ ho
  rw [← nI_clamp (Nat.lt_trans hj hb3)] at kk'
  exact va_sald hx hb hU.1 h4 q0 1 hq0 rfl (vp_in_nI hj hb3) d kk'
theorem sr_lald (h : sp_C κ x cc nL own ret tb nm rm) (d : decode cc pc = .ok (.laload, 1)) {a N j : Nat} {f : Nat → Int64} {i : Int32} (ho : μ a = some (sp_la κ N f)) (hi : i = nI j) (hj : j < N) (kk : sp_w κ x Q k n (pc + 1) lv (.long (f j) :: st) μ) : sp_w κ x Q k n pc lv (.int i :: .ref a :: st) μ := by
  subst hi
  obtain ⟨p, l, e, R, s, m, args, below, meth, c⟩ := x
  obtain ⟨⟨hx, hb, hml, hown, hts⟩, hU, hN, hlk, hr, htb, hnm, hR, htr⟩ := h
  intro H locs ls hH hS hl hc
  have kk' := kk H locs ls hH hS hl hc
  obtain ⟨h1, h2, LP, h3, h4, h5⟩ := hH
  obtain ⟨q0, hq0⟩ := sp_at h3 ho
  have hb3 : N < 2 ^ 31 := h2 a _ _ ho
  rw [← nI_clamp (Nat.lt_trans hj hb3)] at kk'
  exact va_lald hx hb hU.1 h4 q0 2 hq0 rfl (vp_in_nI hj hb3) d kk'
theorem sr_iast (h : sp_C κ x cc nL own ret tb nm rm) (d : decode cc pc = .ok (.iastore, 1)) {a N j : Nat} {f : Nat → Int32} {i : Int32} {v : Int32} (ho : μ a = some (sp_ia κ N f)) (hi : i = nI j) (hj : j < N) (kk : sp_w κ x Q k n (pc + 1) lv st (va_up μ a (some (sp_ia κ N (upd f j v))))) : sp_w κ x Q k n pc lv (.int v :: .int i :: .ref a :: st) μ := by
  subst hi
  obtain ⟨p, l, e, R, s, m, args, below, meth, c⟩ := x
  obtain ⟨⟨hx, hb, hml, hown, hts⟩, hU, hN, hlk, hr, htb, hnm, hR, htr⟩ := h
  intro H locs ls hH hS hl hc
  obtain ⟨h1, h2, LP, h3, h4, h5⟩ := hH
  obtain ⟨q0, hq0⟩ := sp_at h3 ho
  have hb3 : N < 2 ^ 31 := h2 a _ _ ho
  have hcl : (nI j).toNatClampNeg = j := nI_clamp (Nat.lt_trans hj hb3)
  refine va_iast hx hb hU.1 h4 h5 hS q0 0 hq0 rfl (vp_in_nI hj hb3) d (fun H1 locs1 hP1 hD1 hS1 => ?_)
  rw [hcl] at hP1 hD1
  exact kk H1 locs1 ls (sp_put (H := H) hN hS1 h2 h3 ho hq0 h5 hP1 hD1 (fun ca y z => by cases z; exact hb3)) hS1 hl hc
theorem sr_sast (h : sp_C κ x cc nL own ret tb nm rm) (d : decode cc pc = .ok (.sastore, 1)) {a N j : Nat} {f : Nat → Int32} {i : Int32} {v : Int32} (ho : μ a = some (sp_sa κ N f)) (hi : i = nI j) (hj : j < N) (kk : sp_w κ x Q k n (pc + 1) lv st (va_up μ a (some (sp_sa κ N (upd f j (vp_nar .short v)))))) : sp_w κ x Q k n pc lv (.int v :: .int i :: .ref a :: st) μ := by
  subst hi
  obtain ⟨p, l, e, R, s, m, args, below, meth, c⟩ := x
  obtain ⟨⟨hx, hb, hml, hown, hts⟩, hU, hN, hlk, hr, htb, hnm, hR, htr⟩ := h
  intro H locs ls hH hS hl hc
  obtain ⟨h1, h2, LP, h3, h4, h5⟩ := hH
  obtain ⟨q0, hq0⟩ := sp_at h3 ho
  have hb3 : N < 2 ^ 31 := h2 a _ _ ho
  have hcl : (nI j).toNatClampNeg = j := nI_clamp (Nat.lt_trans hj hb3)
  refine va_sast hx hb hU.1 h4 h5 hS q0 1 hq0 rfl (vp_in_nI hj hb3) d (fun H1 locs1 hP1 hD1 hS1 => ?_)
  rw [hcl] at hP1 hD1
  exact kk H1 locs1 ls (sp_put (H := H) hN hS1 h2 h3 ho hq0 h5 hP1 hD1 (fun ca y z => by cases z; exact hb3)) hS1 hl hc
theorem sr_last (h : sp_C κ x cc nL own ret tb nm rm) (d : decode cc pc = .ok (.lastore, 1)) {a N j : Nat} {f : Nat → Int64} {i : Int32} {v : Int64} (ho : μ a = some (sp_la κ N f)) (hi : i = nI j) (hj : j < N) (kk : sp_w κ x Q k n (pc + 1) lv st (va_up μ a (some (sp_la κ N (vp_updL f j v))))) : sp_w κ x Q k n pc lv (.long v :: .int i :: .ref a :: st) μ := by
  subst hi
  obtain ⟨p, l, e, R, s, m, args, below, meth, c⟩ := x
  obtain ⟨⟨hx, hb, hml, hown, hts⟩, hU, hN, hlk, hr, htb, hnm, hR, htr⟩ := h
  intro H locs ls hH hS hl hc
  obtain ⟨h1, h2, LP, h3, h4, h5⟩ := hH
  obtain ⟨q0, hq0⟩ := sp_at h3 ho
  have hb3 : N < 2 ^ 31 := h2 a _ _ ho
  have hcl : (nI j).toNatClampNeg = j := nI_clamp (Nat.lt_trans hj hb3)
  refine va_last hx hb hU.1 h4 h5 hS q0 2 hq0 rfl (vp_in_nI hj hb3) d (fun H1 locs1 hP1 hD1 hS1 => ?_)
  rw [hcl] at hP1 hD1
  exact kk H1 locs1 ls (sp_put (H := H) hN hS1 h2 h3 ho hq0 h5 hP1 hD1 (fun ca y z => by cases z; exact hb3)) hS1 hl hc
theorem sr_alen (h : sp_C κ x cc nL own ret tb nm rm) (d : decode cc pc = .ok (.arraylength, 1)) {a t : Nat} {y : vp_A} {ty : FieldType} (ho : μ a = some (.inl (κ.2.2 t, y))) (hty : (sp_tys κ)[t]? = some (κ.2.2 t, ty)) (kk : sp_w κ x Q k n (pc + 1) lv (.int (nI y.1) :: st) μ) : sp_w κ x Q k n pc lv (.ref a :: st) μ := by
  obtain ⟨p, l, e, R, s, m, args, below, meth, c⟩ := x
  obtain ⟨⟨hx, hb, hml, hown, hts⟩, hU, hN, hlk, hr, htb, hnm, hR, htr⟩ := h
  intro H locs ls hH hS hl hc
  have kk' := kk H locs ls hH hS hl hc
  obtain ⟨h1, h2, LP, h3, h4, h5⟩ := hH
  obtain ⟨q0, hq0⟩ := sp_at h3 ho
  exact va_alen hx hb hU.1 h4 q0 t hq0 hty rfl d kk'
theorem sr_newa (h : sp_C κ x cc nL own ret tb nm rm) {atype : ArrayType} {ty : FieldType} {t : Nat} (hty : newarray.typeOf atype = ty) (hno : ∀ C, ty ≠ .object C) (harr : Cond.arrayClass (newarray.typeOf atype) ∈ sp_wa) (htt : (sp_tys κ)[t]? = some (κ.2.2 t, ty)) (d : decode cc pc = .ok (.newarray atype, 2)) {N : Nat} {y : vp_A} {i : Int32} (ha : ∀ cA : ClassId, vp_cell cA y = arrV cA N (fun _ => defaultValue ty)) (hyN : y.1 = N) (hi : i = nI N) (hN2 : N < 2 ^ 31) (hbytes : N * componentBytes ty ≤ 536870912) (hcells : k + 1 ≤ rm.cells) (hslots : n + N ≤ rm.slots)
    (kk : ∀ q : Nat, μ q = none → sp_w κ x Q (k + 1) (n + N) (pc + 2) lv (.ref q :: st) (va_up μ q (some (.inl (κ.2.2 t, y))))) : sp_w κ x Q k n pc lv (.int i :: st) μ := by
  subst hi
  obtain ⟨p, l, e, R, s, m, args, below, meth, c⟩ := x
  obtain ⟨⟨hx, hb, hml, hown, hts⟩, hU, hN, hlk, hr, htb, hnm, hR, htr⟩ := h
  intro H locs ls hH hS hl hc
  obtain ⟨h1, h2, LP, h3, h4, h5⟩ := hH
  subst hR
  refine va_newa hx hb (hts _ harr) hty hU.1 h4 h5 hS (fun q hq => Nat.le_trans hN hq) ha (nI_pos hN2) (nI_clamp hN2) hbytes hcells hslots d (fun q cA H1 hK1 hP1 hD1 hS1 => ?_)
  have e1 : cA = κ.2.2 t := by
    have g1 := (hK1.2 (sp_tys κ).length (cA, ty) (by rw [List.getElem?_append_right (Nat.le_refl _), Nat.sub_self]; rfl)).2
    have g2 := (hU.1.2 t _ htt).2
    cases ty with
    | object C => exact absurd rfl (hno C)
    | _ => exact Option.some.inj (Eq.trans (Eq.symm g1) g2)
  subst e1
  obtain ⟨hz, hH1⟩ := sp_push hN hS1 h2 h3 hP1 hD1 (fun ca y' z => by cases z; rw [hyN]; exact hN2)
  exact kk q hz H1 locs ls hH1 hS1 hl hc
theorem sr_new (h : sp_C κ x cc nL own ret tb nm rm) {C : String} {T : u_T} {N ci ix : Nat} (hin : ∀ w ∈ u_ws C T N, w ∈ sp_wa) (ty0 : Nat → FieldType) (hty : ∀ k, k < N → parseFieldDescriptor (T k).2.2.1 = some (ty0 k)) (hc0 : sp_cl[ci]? = some (C, T, N)) (hcl : Cond.classLink own ix C ∈ sp_wa) (hins : Cond.instantiable C N ∈ sp_wa) (hini : Cond.initialized C ∈ sp_wa) {fs : List Value} (hfs : ∀ j, j < N → defaultValue (ty0 j) = vp_V fs j) (d : decode cc pc = .ok (.new ix, 3)) (hcells : k + 1 ≤ rm.cells) (hslots : n + N ≤ rm.slots)
    (kk : ∀ q : Nat, μ q = none → sp_w κ x Q (k + 1) (n + N) (pc + 3) lv (.ref q :: st) (va_up μ q (some (.inr (ci, fs))))) : sp_w κ x Q k n pc lv st μ := by
  obtain ⟨p, l, e, R, s, m, args, below, meth, c⟩ := x
  obtain ⟨⟨hx, hb, hml, hown, hts⟩, hU, hN, hlk, hr, htb, hnm, hR, htr⟩ := h
  intro H locs ls hH hS hl hc
  obtain ⟨h1, h2, LP, h3, h4, h5⟩ := hH
  subst hR
  refine va_new hx hb hts hin ty0 hty hown (hts _ hcl) (hts _ hins) (hts _ hini) hU.1 h4 h5 hS (fun q hq => Nat.le_trans hN hq) hc0 hfs hcells hslots d (fun q H1 hP1 hD1 hS1 => ?_)
  obtain ⟨hz, hH1⟩ := sp_push hN hS1 h2 h3 hP1 hD1 (fun ca y' z => by cases z)
  exact kk q hz H1 locs ls hH1 hS1 hl hc
theorem sr_objInit (h : sp_C κ x cc nL own ret tb nm rm) {ix : Nat} (hl1 : Cond.methodLink own ix Lib.objectInit ∈ sp_wa) (hl2 : Cond.instanceMethod Lib.objectInit ∈ sp_wa) (hl3 : Cond.code Lib.objectInit ⟨#[0xb1]⟩ 1 none ∈ sp_wa) (d : decode cc pc = .ok (.invokespecial ix, 3)) (hf1 : 1 ≤ rm.frames) (hf2 : (st.map fun v => v.category).sum + 12 ≤ rm.locals) {a : Nat} (kk : sp_w κ x Q k n (pc + 3) lv st μ) : sp_w κ x Q k n pc lv (.ref a :: st) μ := by
  obtain ⟨p, l, e, R, s, m, args, below, meth, c⟩ := x
  obtain ⟨⟨hx, hb, hml, hown, hts⟩, hU, hN, hlk, hr, htb, hnm, hR, htr⟩ := h
  intro H locs ls hH hS hl hc
  subst hR
  refine W.objInit hx hb hown (hts _ hl1) (hts _ hl2) (hts _ hl3) rfl hl.1 rfl d hf1 (by show 2 * 0 + _ + 12 ≤ _; omega) ?_
  exact kk H locs ls hH hS hl hc
theorem sr_mmax (h : sp_C κ x cc nL own ret tb nm rm) {ix : Nat} (hl1 : Cond.methodLink own ix Lib.Math.max.name ∈ sp_wa) (hl2 : Cond.static Lib.Math.max.name ∈ sp_wa) (hl3 : Cond.initialized "java/lang/Math" ∈ sp_wa) (hl4 : Cond.code Lib.Math.max.name Lib.Math.max.code 2 (some .int) ∈ sp_wa) (d : decode cc pc = .ok (.invokestatic ix, 3)) (hf1 : 1 ≤ rm.frames) (hf2 : (st.map fun v => v.category).sum + 13 ≤ rm.locals) (hk1 : k ≤ rm.cells) (hk2 : n ≤ rm.slots) {a b : Int32} (kk : sp_w κ x Q k n (pc + 3) lv (.int (if a < b then b else a) :: st) μ) : sp_w κ x Q k n pc lv (.int b :: .int a :: st) μ := by
  obtain ⟨p, l, e, R, s, m, args, below, meth, c⟩ := x
  obtain ⟨⟨hx, hb, hml, hown, hts⟩, hU, hN, hlk, hr, htb, hnm, hR, htr⟩ := h
  intro H locs ls hH hS hl hc
  subst hR
  exact va_mmax hx hb hl.1.symm hown (hts _ hl1) (hts _ hl2) (hts _ hl3) (hts _ hl4) hf1 hf2 hk1 hk2 d (kk H locs ls hH hS hl hc)
theorem sr_mmin (h : sp_C κ x cc nL own ret tb nm rm) {ix : Nat} (hl1 : Cond.methodLink own ix Lib.Math.min.name ∈ sp_wa) (hl2 : Cond.static Lib.Math.min.name ∈ sp_wa) (hl3 : Cond.initialized "java/lang/Math" ∈ sp_wa) (hl4 : Cond.code Lib.Math.min.name Lib.Math.min.code 2 (some .int) ∈ sp_wa) (d : decode cc pc = .ok (.invokestatic ix, 3)) (hf1 : 1 ≤ rm.frames) (hf2 : (st.map fun v => v.category).sum + 13 ≤ rm.locals) (hk1 : k ≤ rm.cells) (hk2 : n ≤ rm.slots) {a b : Int32} (kk : sp_w κ x Q k n (pc + 3) lv (.int (if b < a then b else a) :: st) μ) : sp_w κ x Q k n pc lv (.int b :: .int a :: st) μ := by
  obtain ⟨p, l, e, R, s, m, args, below, meth, c⟩ := x
  obtain ⟨⟨hx, hb, hml, hown, hts⟩, hU, hN, hlk, hr, htb, hnm, hR, htr⟩ := h
  intro H locs ls hH hS hl hc
  subst hR
  exact va_mmin hx hb hl.1.symm hown (hts _ hl1) (hts _ hl2) (hts _ hl3) (hts _ hl4) hf1 hf2 hk1 hk2 d (kk H locs ls hH hS hl hc)
theorem sr_aald (h : sp_C κ x cc nL own ret tb nm rm) (d : decode cc pc = .ok (.aaload, 1)) {a N j t : Nat} {C : String} (hty : (sp_tys κ)[t]? = some (κ.2.2 t, .object C)) {f : Nat → Option Nat} {i : Int32} (ho : μ a = some (sp_ra κ t N f)) (hi : i = nI j) (hj : j < N) {r : Option Nat} (hr0 : f j = r) (kk : sp_w κ x Q k n (pc + 1) lv (va_rf r :: st) μ) : sp_w κ x Q k n pc lv (.int i :: .ref a :: st) μ := by
  subst hi
  subst hr0
  obtain ⟨p, l, e, R, s, m, args, below, meth, c⟩ := x
  obtain ⟨⟨hx, hb, hml, hown, hts⟩, hU, hN, hlk, hr, htb, hnm, hR, htr⟩ := h
  intro H locs ls hH hS hl hc
  have kk' := kk H locs ls hH hS hl hc
  obtain ⟨h1, h2, LP, h3, h4, h5⟩ := hH
  obtain ⟨q0, hq0⟩ := sp_at h3 ho
  have hb3 : N < 2 ^ 31 := h2 a _ _ ho
  rw [← nI_clamp (Nat.lt_trans hj hb3)] at kk'
  exact va_aldq hx hb hU.1 h4 q0 t hq0 hty (vp_in_nI hj hb3) d kk'
theorem sr_aast (h : sp_C κ x cc nL own ret tb nm rm) (d : decode cc pc = .ok (.aastore, 1)) {a N j t ci v : Nat} {rC : vw_C} (hty : (sp_tys κ)[t]? = some (κ.2.2 t, .object rC.1)) (hc0 : sp_cl[ci]? = some rC) {f : Nat → Option Nat} {i : Int32} {vs : List Value} (ho : μ a = some (sp_ra κ t N f)) (hi : i = nI j) (hj : j < N) (hv : μ v = some (.inr (ci, vs))) (kk : sp_w κ x Q k n (pc + 1) lv st (va_up μ a (some (sp_ra κ t N (va_up f j (some v)))))) : sp_w κ x Q k n pc lv (.ref v :: .int i :: .ref a :: st) μ := by
  subst hi
  obtain ⟨p, l, e, R, s, m, args, below, meth, c⟩ := x
  obtain ⟨⟨hx, hb, hml, hown, hts⟩, hU, hN, hlk, hr, htb, hnm, hR, htr⟩ := h
  intro H locs ls hH hS hl hc
  obtain ⟨h1, h2, LP, h3, h4, h5⟩ := hH
  obtain ⟨q0, hq0⟩ := sp_at h3 ho
  obtain ⟨qk, hqk⟩ := sp_at h3 hv
  have hb3 : N < 2 ^ 31 := h2 a _ _ ho
  have hcl : (nI j).toNatClampNeg = j := nI_clamp (Nat.lt_trans hj hb3)
  refine va_astq hx hb hU.1 h4 h5 hS q0 t qk ci hq0 hty hqk hc0 (vp_in_nI hj hb3) d (fun H1 locs1 hP1 hD1 hS1 => ?_)
  rw [hcl] at hP1 hD1
  exact kk H1 locs1 ls (sp_put (H := H) hN hS1 h2 h3 ho hq0 h5 hP1 hD1 (fun ca y z => by cases z; exact hb3)) hS1 hl hc
end
end
section
section
theorem sp_call {p : Program} {l : Launch} {e : Env} {R : Room} {s : State} {m : MethodId} {args : Array Value} {below : List Frame} {meth : Method} {c : Code} {H : Heap} {locs : List Loc} {k n mc ms pc : Nat} {ls : Array Slot} {st0 rest : List Value} {a : Array Value} {κ : sp_K} {Rt : Option Value → sp_M → Prop} {Xt : String → sp_M → Prop} {Q : State → Prop} {lv : List (Nat × Value)}
    (hr : vx_Run p l e R s m args below meth c H locs k n mc ms (F0 m pc ls st0) rest (sp_Q κ Rt a) (sp_XC κ Xt) (sp_A κ)) (hS : va_S (sp_A κ) s.heap H locs) (hl : lv_has ls c.maxLocals lv) (hc : ∀ q ∈ lv, q.2.category = 1)
    (kk : ∀ (v : Option Value) (μ : sp_M), Rt v μ → sp_w κ (p, l, e, R, s, m, args, below, meth, c) Q (k + mc) (n + ms) (pc + 3) lv (v.toList ++ rest) μ)
    (kx : ∀ (E : String) (μ : sp_M), Xt E μ → sp_t κ (p, l, e, R, s, m, args, below, meth, c) Q (k + mc) (n + ms) pc lv rest E μ) : W p l e R s m args below meth c H locs k n Q (F0 m pc ls st0) := by
  intro T hT X
  rcases hr T hT X with ⟨v, st₀, t, T', L, h0, X', hL, e1, e2, ⟨⟨v', μ', hv, hp, hH⟩, hF⟩, st⟩ | ⟨q, st₀, t, T', L, E, ce, h0, X', hL, e1, e2, ⟨⟨μ', hp, hH⟩, hF⟩, hce, hcv, hcl, st⟩
  · cases hv
    obtain ⟨k1, k2, k3⟩ := vx_keep h0 e1 hS (fun _ _ z => z) (fun _ z => z) hL hF
    obtain ⟨t2, a1, b1⟩ := kk v μ' hp T'.heap (locs ++ L) ls (by rw [e1]; exact hH) k3 hl hc T' rfl X'
    exact ⟨t2, st t2 a1, b1⟩
  · obtain ⟨k1, k2, k3⟩ := vx_keep h0 e1 hS (fun _ _ z => z) (fun _ z => z) hL hF
    obtain ⟨t2, a1, b1⟩ := kx E μ' hp T'.heap (locs ++ L) ls q ce (by rw [e1]; exact hH) k3 hl hc (by rw [e1]; exact hce) hcv hcl T' rfl X'
    exact ⟨t2, st.trans a1, b1⟩
theorem sp_blind {κ : sp_K} {μ : sp_M} {as : List Value} : FrameBlind (va_Pc as (fun U => sp_H κ μ U.heap ∧ sp_U κ U)) := fun a U g mk q => ⟨q.1, q.2.1, sp_U.moved (u := U) (U := U.calling g mk a) (Vm.Alike.refl U.vm) (fun _ _ _ => rfl) q.2.2⟩
theorem sp_preS {κ : sp_K} {μ : sp_M} {s : State} {H : Heap} {locs : List Loc} {as : List Value} (hU : sp_U κ s) (hS : va_S (sp_A κ) s.heap H locs) (hH : sp_H κ μ H) : PreS s H (va_Pc as (fun U => sp_H κ μ U.heap ∧ sp_U κ U)) as :=
  ⟨sp_blind, fun U hU' hW => ⟨rfl, by rw [hU']; exact hH, sp_U.moved hW.alike (by rw [hU']; exact hS.2.1) hU⟩⟩
theorem sp_preV {κ : sp_K} {μ : sp_M} {s : State} {H : Heap} {locs : List Loc} {as : List Value} {b ci : Nat} {fs : List Value} {rC : vw_C} (hU : sp_U κ s) (hS : va_S (sp_A κ) s.heap H locs) (hH : sp_H κ μ H) (ho : μ b = some (.inr (ci, fs))) (hc0 : sp_cl[ci]? = some rC) : PreV s H rC.1 b (va_Pc (.ref b :: as) (fun U => sp_H κ μ U.heap ∧ sp_U κ U)) as := by
  refine ⟨sp_blind, ?_, fun U hU' hW => ⟨rfl, by rw [hU']; exact hH, sp_U.moved hW.alike (by rw [hU']; exact hS.2.1) hU⟩⟩
  obtain ⟨h1, h2, LP, h3, h4, h5⟩ := hH
  obtain ⟨q0, hq0⟩ := sp_at h3 ho
  exact va_recv hU.1 h4 hc0 hq0
/-- a contract that never throws, for a constructor's call -/
theorem sp_noX {l : Launch} {κ : sp_K} {y : MethodName} {cw : Cond} {f lo mc ms : Nat} {as : List Value} {μ : sp_M} {Rt : Option Value → sp_M → Prop} {Xt : String → sp_M → Prop} (h : sp_m l κ y cw f lo mc ms as μ Rt Xt) (hX : ∀ E μ, ¬ Xt E μ) : Met l y (cw :: sp_wa) (sp_rm f lo mc ms) (va_Pc as (fun U => sp_H κ μ U.heap ∧ sp_U κ U)) (sp_Q κ Rt) mc ms (sp_A κ) := by
  intro p e ha hc hk s m args below hf happ hP hK
  obtain ⟨n, o, h1, h2, h3, h4⟩ := h p e ha hc hk s m args below hf happ hP hK
  refine ⟨n, o, h1, h2, h3, ?_⟩
  rcases h4 with h5 | ⟨q, -, E, ce, L, ⟨⟨μ', hx, -⟩, -⟩, -⟩
  · exact h5
  · exact absurd hx (hX E μ')
theorem sp_ofRun {p : Program} {l : Launch} {e : Env} {R : Room} {s : State} {m : MethodId} {args : Array Value} {below : List Frame} {meth : Method} {c : Code} {H : Heap} {locs : List Loc} {k n mc ms : Nat} {g : JFrame} {rest : List Value} {Qa : State → Outcome → State → Prop} {XC : String → State → State → Prop} {free : Addr → Prop}
    (h : va_Run p l e R s m args below meth c H locs k n mc ms g rest Qa free) : vx_Run p l e R s m args below meth c H locs k n mc ms g rest Qa XC free := fun T hT X => Or.inl (h T hT X)
end
section
variable {κ : sp_K} {x : sp_X} {Q : State → Prop} {k n pc nL : Nat} {lv : List (Nat × Value)} {st : List Value} {μ : sp_M} {cc : ByteArray} {own : String} {ret : Option FieldType} {tb : List ExceptionTableEntry} {nm : String} {rm : Room}
variable {y : MethodName} {bytes : ByteArray} {maxL ix n0 mc' ms' f' lo' : Nat} {ret' : Option FieldType} {cw : Cond} {As stk : List Value} {Rt : Option Value → sp_M → Prop} {Xt : String → sp_M → Prop} {hh : List (Nat × Nat × Nat × Nat)}
theorem sr_callV (h : sp_C κ x cc nL own ret tb nm rm) {ci : Nat} {rC : vw_C} (hg : GoodIn sp_wa (wsV own ix rC.1 y (cw :: sp_wa))) (hw : cw = Cond.code y bytes maxL ret') (hd : y.cls = rC.1 ∧ y.cls ≠ "java/lang/invoke/MethodHandle" ∧ y.cls ≠ "java/lang/invoke/VarHandle" ∧ (parseMethodDescriptor y.desc).map (fun d => d.parameters.length) = some n0) (hroom : f' + 1 ≤ rm.frames ∧ 8 + (maxL + 11) + lo' ≤ rm.locals) (hc0 : sp_cl[ci]? = some rC) (d : decode cc pc = .ok (.invokevirtual ix, 3)) (hlen : As.length = n0) {b : Nat} (hst : stk = As.reverse ++ .ref b :: st) (hcat : (st.map fun v => v.category).sum ≤ 8) (hcells : k + mc' ≤ rm.cells ∧ n + ms' ≤ rm.slots) {fs : List Value} (ho : μ b = some (.inr (ci, fs))) (hM : sp_m x.2.1 κ y cw f' lo' mc' ms' (.ref b :: As) μ Rt Xt)
    (kk : ∀ (v : Option Value) (μ' : sp_M), Rt v μ' → sp_w κ x Q (k + mc') (n + ms') (pc + 3) lv (v.toList ++ st) μ') (kx : ∀ (E : String) (μ' : sp_M), Xt E μ' → sp_t κ x Q (k + mc') (n + ms') pc lv st E μ') : sp_w κ x Q k n pc lv stk μ := by
  subst hst
  obtain ⟨p, l, e, R, s, m, args, below, meth, c⟩ := x
  obtain ⟨⟨hx, hb, hml, hown, hts⟩, hU, hN, hlk, hr, htb, hnm, hR, htr⟩ := h
  intro H locs ls hH hS hl hc
  subst hR
  exact sp_call (vx_runV (As := As) (rest := st) ⟨hx, hb, hml, hown, hts⟩ hM (cwV n0 hts hg (by rw [hw]) rfl rfl hd hroom) (sp_preV hU hS hH ho hc0) rfl hlen (hml ▸ hl.1) rfl (lv_room hcat) d hcells) hS hl hc kk kx
theorem sr_callVH (h : sp_C κ x cc nL own ret tb nm rm) {ci : Nat} {rC : vw_C} (hg : GoodIn sp_wa (wsV own ix rC.1 y (cw :: sp_wa))) (hw : cw = Cond.codeWith y bytes maxL ret' hh) (hd : y.cls = rC.1 ∧ y.cls ≠ "java/lang/invoke/MethodHandle" ∧ y.cls ≠ "java/lang/invoke/VarHandle" ∧ (parseMethodDescriptor y.desc).map (fun d => d.parameters.length) = some n0) (hroom : f' + 1 ≤ rm.frames ∧ 8 + (maxL + 11) + lo' ≤ rm.locals) (hc0 : sp_cl[ci]? = some rC) (d : decode cc pc = .ok (.invokevirtual ix, 3)) (hlen : As.length = n0) {b : Nat} (hst : stk = As.reverse ++ .ref b :: st) (hcat : (st.map fun v => v.category).sum ≤ 8) (hcells : k + mc' ≤ rm.cells ∧ n + ms' ≤ rm.slots) {fs : List Value} (ho : μ b = some (.inr (ci, fs))) (hM : sp_m x.2.1 κ y cw f' lo' mc' ms' (.ref b :: As) μ Rt Xt)
    (kk : ∀ (v : Option Value) (μ' : sp_M), Rt v μ' → sp_w κ x Q (k + mc') (n + ms') (pc + 3) lv (v.toList ++ st) μ') (kx : ∀ (E : String) (μ' : sp_M), Xt E μ' → sp_t κ x Q (k + mc') (n + ms') pc lv st E μ') : sp_w κ x Q k n pc lv stk μ := by
  subst hst
  obtain ⟨p, l, e, R, s, m, args, below, meth, c⟩ := x
  obtain ⟨⟨hx, hb, hml, hown, hts⟩, hU, hN, hlk, hr, htb, hnm, hR, htr⟩ := h
  intro H locs ls hH hS hl hc
  subst hR
  exact sp_call (vx_runVX (As := As) (rest := st) ⟨hx, hb, hml, hown, hts⟩ hM (vx_cwVW n0 hts hg (by rw [hw]) rfl rfl hd hroom) (sp_preV hU hS hH ho hc0) rfl hlen (hml ▸ hl.1) rfl (lv_room hcat) d hcells) hS hl hc kk kx
theorem sr_callS (h : sp_C κ x cc nL own ret tb nm rm) (hg : GoodIn sp_wa (va_wsS own ix y (cw :: sp_wa))) (hw : cw = Cond.code y bytes maxL ret') (hd : y.cls ≠ "java/lang/invoke/MethodHandle" ∧ y.cls ≠ "java/lang/invoke/VarHandle" ∧ (parseMethodDescriptor y.desc).map (fun d => d.parameters.length) = some n0) (hroom : f' + 1 ≤ rm.frames ∧ 8 + (maxL + 11) + lo' ≤ rm.locals) (d : decode cc pc = .ok (.invokestatic ix, 3)) (hlen : As.length = n0) (hst : stk = As.reverse ++ st) (hcat : (st.map fun v => v.category).sum ≤ 8) (hcells : k + mc' ≤ rm.cells ∧ n + ms' ≤ rm.slots) (hM : sp_m x.2.1 κ y cw f' lo' mc' ms' As μ Rt Xt)
    (kk : ∀ (v : Option Value) (μ' : sp_M), Rt v μ' → sp_w κ x Q (k + mc') (n + ms') (pc + 3) lv (v.toList ++ st) μ') (kx : ∀ (E : String) (μ' : sp_M), Xt E μ' → sp_t κ x Q (k + mc') (n + ms') pc lv st E μ') : sp_w κ x Q k n pc lv stk μ := by
  subst hst
  obtain ⟨p, l, e, R, s, m, args, below, meth, c⟩ := x
  obtain ⟨⟨hx, hb, hml, hown, hts⟩, hU, hN, hlk, hr, htb, hnm, hR, htr⟩ := h
  intro H locs ls hH hS hl hc
  subst hR
  exact sp_call (vx_runS (As := As) (rest := st) ⟨hx, hb, hml, hown, hts⟩ hM (va_cwS n0 hts hg (by rw [hw]) rfl rfl hd hroom) (sp_preS hU hS hH) rfl hlen (hml ▸ hl.1) rfl (lv_room hcat) d hcells) hS hl hc kk kx
theorem sr_callSH (h : sp_C κ x cc nL own ret tb nm rm) (hg : GoodIn sp_wa (va_wsS own ix y (cw :: sp_wa))) (hw : cw = Cond.codeWith y bytes maxL ret' hh) (hd : y.cls ≠ "java/lang/invoke/MethodHandle" ∧ y.cls ≠ "java/lang/invoke/VarHandle" ∧ (parseMethodDescriptor y.desc).map (fun d => d.parameters.length) = some n0) (hroom : f' + 1 ≤ rm.frames ∧ 8 + (maxL + 11) + lo' ≤ rm.locals) (d : decode cc pc = .ok (.invokestatic ix, 3)) (hlen : As.length = n0) (hst : stk = As.reverse ++ st) (hcat : (st.map fun v => v.category).sum ≤ 8) (hcells : k + mc' ≤ rm.cells ∧ n + ms' ≤ rm.slots) (hM : sp_m x.2.1 κ y cw f' lo' mc' ms' As μ Rt Xt)
    (kk : ∀ (v : Option Value) (μ' : sp_M), Rt v μ' → sp_w κ x Q (k + mc') (n + ms') (pc + 3) lv (v.toList ++ st) μ') (kx : ∀ (E : String) (μ' : sp_M), Xt E μ' → sp_t κ x Q (k + mc') (n + ms') pc lv st E μ') : sp_w κ x Q k n pc lv stk μ := by
  subst hst
  obtain ⟨p, l, e, R, s, m, args, below, meth, c⟩ := x
  obtain ⟨⟨hx, hb, hml, hown, hts⟩, hU, hN, hlk, hr, htb, hnm, hR, htr⟩ := h
  intro H locs ls hH hS hl hc
  subst hR
  exact sp_call (vx_runSX (As := As) (rest := st) ⟨hx, hb, hml, hown, hts⟩ hM (vx_cwSW n0 hts hg (by rw [hw]) rfl rfl hd hroom) (sp_preS hU hS hH) rfl hlen (hml ▸ hl.1) rfl (lv_room hcat) d hcells) hS hl hc kk kx
theorem sr_callI (h : sp_C κ x cc nL own ret tb nm rm) (hg : GoodIn sp_wa (cw :: sp_wa)) (hw : cw = Cond.code y bytes maxL none) (hy1 : y.name = "<init>") (hl1 : Cond.initialized y.cls ∈ sp_wa) (hl2 : Cond.methodLink own ix y ∈ sp_wa) (hl3 : Cond.instanceMethod y ∈ sp_wa) (hd : y.cls ≠ "java/lang/invoke/MethodHandle" ∧ y.cls ≠ "java/lang/invoke/VarHandle" ∧ (parseMethodDescriptor y.desc).map (fun d => d.parameters.length) = some n0) (hroom : f' + 1 ≤ rm.frames ∧ 8 + (maxL + 11) + lo' ≤ rm.locals) (d : decode cc pc = .ok (.invokespecial ix, 3)) (hlen : As.length = n0) {b : Nat} (hst : stk = As.reverse ++ .ref b :: st) (hcat : (st.map fun v => v.category).sum ≤ 8) (hcells : k + mc' ≤ rm.cells ∧ n + ms' ≤ rm.slots) (hM : sp_m x.2.1 κ y cw f' lo' mc' ms' (.ref b :: As) μ Rt (fun _ _ => False))
    (kk : ∀ (v : Option Value) (μ' : sp_M), Rt v μ' → sp_w κ x Q (k + mc') (n + ms') (pc + 3) lv (v.toList ++ st) μ') : sp_w κ x Q k n pc lv stk μ := by
  subst hst
  obtain ⟨p, l, e, R, s, m, args, below, meth, c⟩ := x
  obtain ⟨⟨hx, hb, hml, hown, hts⟩, hU, hN, hlk, hr, htb, hnm, hR, htr⟩ := h
  intro H locs ls hH hS hl hc
  subst hR
  exact sp_call (Xt := fun _ _ => False) (sp_ofRun (va_runI (As := As) (rest := st) ⟨hx, hb, hml, hown, hts⟩ (sp_noX hM (fun _ _ z => z)) (cwI n0 hts hg (by rw [hw]) rfl rfl (hts _ hl1) (hts _ hl2) (hts _ hl3) hy1 hd hroom) (sp_preS hU hS hH) rfl hlen (hml ▸ hl.1) rfl (lv_room hcat) d hcells)) hS hl hc kk (fun E μ' z => z.elim)
end
theorem sp_args_aux : ∀ (as : List Value) (i : Nat), (∀ v ∈ as, v.category = 1) → ∀ q ∈ lv_args i as, q.2.category = 1
  | [], i, _, q, hq => by simp [lv_args] at hq
  | v :: r, i, h, q, hq => by
    simp only [lv_args, List.mem_cons] at hq
    rcases hq with hq | hq
    · subst hq; exact h v List.mem_cons_self
    · exact sp_args_aux r _ (fun z hz => h z (List.mem_cons_of_mem _ hz)) q hq
theorem sp_args {as : List Value} (h : ∀ v ∈ as, v.category = 1) : ∀ q ∈ lv_args 0 as, q.2.category = 1 := sp_args_aux as 0 h
section
variable {κ : sp_K} {x : sp_X} {Q : State → Prop} {k n pc nL : Nat} {lv : List (Nat × Value)} {st : List Value} {μ : sp_M} {cc : ByteArray} {own : String} {ret : Option FieldType} {tb : List ExceptionTableEntry} {nm : String} {rm : Room}
variable {Rt : Option Value → sp_M → Prop} {Xt : String → sp_M → Prop} {mc ms : Nat}
theorem sr_iret (h : sp_C κ x cc nL own (some .int) tb nm rm) (d : decode cc pc = .ok (.ireturn, 1)) {v : Int32} (h1 : k ≤ mc) (h2 : n ≤ ms) (hq : Rt (some (.int v)) μ) : sp_w κ x (sp_F κ x Rt Xt mc ms) k n pc lv [.int v] μ := by
  obtain ⟨p, l, e, R, s, m, args, below, meth, c⟩ := x
  obtain ⟨⟨hx, hb, hml, hown, hts⟩, hU, hN, hlk, hr, htb, hnm, hR, htr⟩ := h
  intro H locs ls hH hS hl hc
  refine W.widen h1 h2 (vx_ret ?_)
  exact W.iret hx hb hr (fun t ht hW => ⟨⟨_, μ, rfl, hq, by rw [ht]; exact hH⟩, hS.F ht⟩) hS.2.2 d hlk
theorem sr_zret (h : sp_C κ x cc nL own (some .boolean) tb nm rm) (d : decode cc pc = .ok (.ireturn, 1)) {v : Int32} (hv : narrow .boolean (.int v) = .int v) (h1 : k ≤ mc) (h2 : n ≤ ms) (hq : Rt (some (.int v)) μ) : sp_w κ x (sp_F κ x Rt Xt mc ms) k n pc lv [.int v] μ := by
  obtain ⟨p, l, e, R, s, m, args, below, meth, c⟩ := x
  obtain ⟨⟨hx, hb, hml, hown, hts⟩, hU, hN, hlk, hr, htb, hnm, hR, htr⟩ := h
  intro H locs ls hH hS hl hc
  refine W.widen h1 h2 (vx_ret ?_)
  exact W.zret hx hb hr hv (fun t ht hW => ⟨⟨_, μ, rfl, hq, by rw [ht]; exact hH⟩, hS.F ht⟩) hS.2.2 d hlk
theorem sr_lret (h : sp_C κ x cc nL own (some .long) tb nm rm) (d : decode cc pc = .ok (.lreturn, 1)) {v : Int64} (h1 : k ≤ mc) (h2 : n ≤ ms) (hq : Rt (some (.long v)) μ) : sp_w κ x (sp_F κ x Rt Xt mc ms) k n pc lv [.long v] μ := by
  obtain ⟨p, l, e, R, s, m, args, below, meth, c⟩ := x
  obtain ⟨⟨hx, hb, hml, hown, hts⟩, hU, hN, hlk, hr, htb, hnm, hR, htr⟩ := h
  intro H locs ls hH hS hl hc
  refine W.widen h1 h2 (vx_ret ?_)
  exact W.lret hx hb hr (fun t ht hW => ⟨⟨_, μ, rfl, hq, by rw [ht]; exact hH⟩, hS.F ht⟩) hS.2.2 d hlk
theorem sr_vret (h : sp_C κ x cc nL own none tb nm rm) (d : decode cc pc = .ok (.return_, 1)) (h1 : k ≤ mc) (h2 : n ≤ ms) (hq : Rt none μ) : sp_w κ x (sp_F κ x Rt Xt mc ms) k n pc lv [] μ := by
  obtain ⟨p, l, e, R, s, m, args, below, meth, c⟩ := x
  obtain ⟨⟨hx, hb, hml, hown, hts⟩, hU, hN, hlk, hr, htb, hnm, hR, htr⟩ := h
  intro H locs ls hH hS hl hc
  refine W.widen h1 h2 (vx_ret ?_)
  exact W.vret hx hb hr (fun t ht hW => ⟨⟨_, μ, rfl, hq, by rw [ht]; exact hH⟩, hS.F ht⟩) hS.2.2 d hlk
theorem sr_aret {rt : FieldType} (h : sp_C κ x cc nL own (some rt) tb nm rm) (hrt : (∃ n, rt = .object n) ∨ ∃ t, rt = .array t) (d : decode cc pc = .ok (.areturn, 1)) {r : Option Nat} (h1 : k ≤ mc) (h2 : n ≤ ms) (hq : Rt (some (va_rf r)) μ) : sp_w κ x (sp_F κ x Rt Xt mc ms) k n pc lv [va_rf r] μ := by
  obtain ⟨p, l, e, R, s, m, args, below, meth, c⟩ := x
  obtain ⟨⟨hx, hb, hml, hown, hts⟩, hU, hN, hlk, hr, htb, hnm, hR, htr⟩ := h
  intro H locs ls hH hS hl hc
  refine W.widen h1 h2 (vx_ret ?_)
  exact W.aret hx hb hr hrt (by cases r with | none => exact Or.inl rfl | some a => exact Or.inr ⟨a, rfl⟩) (fun t ht hW => ⟨⟨_, μ, rfl, hq, by rw [ht]; exact hH⟩, hS.F ht⟩) hS.2.2 d hlk
/-- 'throw new E()' that leaves the method -/
theorem sr_throw0 (h : sp_C κ x cc nL own ret tb nm rm) {cls : String} {names : List String} {ik ic : Nat} (hcls : Bundle.fit cls = true) (hnames : ∀ n ∈ names, Bundle.fit n = true) (hk0 : Cond.classLink own ik cls ∈ sp_wa) (hini : Cond.initialized cls ∈ sp_wa) (hat : ∀ w ∈ vx_at0 own ic cls names, w ∈ sp_wa ∨ w ∈ sp_tw) (hgood : ∀ w ∈ Cond.classLink own ik cls :: Cond.initialized cls :: vx_at0 own ic cls names, vx_ot w = true)
    (d0 : decode cc pc = .ok (.new ik, 3)) (d3 : decode cc (pc + 3) = .ok (.dup, 1)) (d4 : decode cc (pc + 4) = .ok (.invokespecial ic, 3)) (d7 : decode cc (pc + 7) = .ok (.athrow, 1)) (hout : ∀ z ∈ tb, covers z (pc + 7) = false)
    (hf : names.length + 3 < rm.frames) (hlo : (st.map fun v => v.category).sum + (13 * (names.length + 1) + 42) ≤ rm.locals) (hcells : k + 1 ≤ rm.cells) (hslots : n + 6 ≤ rm.slots) (h1 : k + 1 ≤ mc) (h2 : n + 6 ≤ ms) (hq : Xt cls μ) : sp_w κ x (sp_F κ x Rt Xt mc ms) k n pc lv st μ := by
  obtain ⟨p, l, e, R, s, m, args, below, meth, c⟩ := x
  obtain ⟨⟨hx, hb, hml, hown, hts⟩, hU, hN, hlk, hr, htb, hnm, hR, htr⟩ := h
  intro H locs ls hH hS hl hc
  subst hR
  exact vx_throw0 hx hb htr hown hcls hnames (hts _ hk0) (hts _ hini) (fun w hw => (hat w hw).elim (hts w) (fun g => sp_fw_any (List.mem_filter.mp g).2 (hU.2.2.2.1 w g))) hgood hU.2.1 hU.2.2.1 hS hl.1 d0 d3 d4 d7 (by rw [htb]; exact hout) hf hlo hcells hslots hlk
    (fun t ht hz hk => ⟨⟨μ, hq, hH.kept hz hk⟩, Nat.le_trans hS.1 hz, fun q g1 g2 => (hk q (Nat.lt_of_lt_of_le g1 hS.1)).trans (hS.2.1 q g1 g2)⟩) hS.2.2 h1 h2
/-- a callee's exception that leaves the method -/
theorem st_out (h : sp_C κ x cc nL own ret tb nm rm) (hout : ∀ z ∈ tb, covers z pc = false) {E : String} (h1 : k ≤ mc) (h2 : n ≤ ms) (hq : Xt E μ) : sp_t κ x (sp_F κ x Rt Xt mc ms) k n pc lv st E μ := by
  obtain ⟨p, l, e, R, s, m, args, below, meth, c⟩ := x
  obtain ⟨⟨hx, hb, hml, hown, hts⟩, hU, hN, hlk, hr, htb, hnm, hR, htr⟩ := h
  intro H locs ls q ce hH hS hl hc hce hcv hcl
  exact vx_out (by rw [htb]; exact hout) hlk hce hcv hcl (fun t ht hW => ⟨⟨μ, hq, by rw [ht]; exact hH⟩, hS.F ht⟩) hS.2.2 h1 h2
/-- a callee's exception that is caught here -/
theorem st_catch (h : sp_C κ x cc nL own ret tb nm rm) {E : String} (pre : List ExceptionTableEntry) (z : ExceptionTableEntry) (suf : List ExceptionTableEntry) (hsp : tb = pre ++ z :: suf) (hpass : ∀ w ∈ pre, covers w pc = false ∨ (w.catchType ≠ 0 ∧ ∃ nm : String, Cond.classLink own w.catchType nm ∈ sp_wa ∧ (E, nm) ∈ sp_nc)) (hcov : covers z pc = true) (h0 : z.catchType ≠ 0) {name : String} (hlink : Cond.classLink own z.catchType name ∈ sp_wa) (hcast : Cond.castable E name ∈ sp_tw)
    (kk : ∀ q : Nat, sp_w κ x Q k n z.handlerPc lv [.ref q] μ) : sp_t κ x Q k n pc lv st E μ := by
  obtain ⟨p, l, e, R, s, m, args, below, meth, c⟩ := x
  obtain ⟨⟨hx, hb, hml, hown, hts⟩, hU, hN, hlk, hr, htb, hnm, hR, htr⟩ := h
  intro H locs ls q ce hH hS hl hc hce hcv hcl
  exact vx_catch hown pre z suf (htb.trans hsp) (fun w hw => (hpass w hw).imp id (fun g => ⟨g.1, g.2.choose, hts _ g.2.choose_spec.1, hU.2.2.2.2.1 _ g.2.choose_spec.2⟩)) hcov h0 (hts _ hlink) (sp_fw_any (List.mem_filter.mp hcast).2 (hU.2.2.2.1 _ hcast)) hce hcv hcl (kk q H locs ls hH hS hl hc)
/-- the opening of a contract -/
theorem sp_open {l : Launch} {y : MethodName} {cw : Cond} {f lo : Nat} {as : List Value} {maxL : Nat} (htr : l.stackTraces = false) (hy : plainName y.cls = true) (hw : cw = Cond.code y cc maxL ret) (hsz : (lg_sl as).length ≤ maxL) (hcat : ∀ v ∈ as, v.category = 1)
    (body : ∀ x : sp_X, x.2.1 = l → sp_C κ x cc maxL y.cls ret [] y.name (sp_rm f lo mc ms) → sp_w κ x (sp_F κ x Rt Xt mc ms) 0 0 0 (lv_args 0 as) [] μ) : sp_m l κ y cw f lo mc ms as μ Rt Xt := by
  refine vx_ofW (cc := cc) (maxL := maxL) (ret := ret) hy (by rw [hw]) ?_
  intro p e s m args below meth c s₁ B hml htb hv
  obtain ⟨rfl, hH, hU⟩ := hv
  have key := body (p, l, e, sp_rm f lo mc ms, s, m, as.toArray, below, meth, c) rfl ⟨⟨B.exec, B.bytes, hml, findClass_of_methodNamed B.named, fun w hw' => atoms_spec (ws := cw :: sp_wa) B.pre w (List.mem_cons_of_mem _ hw')⟩, hU, hH.1, B.notSynchronized, B.returns, List.eq_nil_iff_forall_not_mem.mpr (fun z hz => htb z hz), (name_of_methodNamed B.named B.method).1, rfl, htr⟩
  rw [lg_entry_eq]
  exact key s.heap [] _ hH va_S.rf (by rw [hml]; exact lv_entry as hsz) (sp_args hcat)
theorem sp_openH {l : Launch} {y : MethodName} {cw : Cond} {f lo : Nat} {as : List Value} {maxL : Nat} {hh : List (Nat × Nat × Nat × Nat)} (htr : l.stackTraces = false) (hy : plainName y.cls = true) (hw : cw = Cond.codeWith y cc maxL ret hh) (hsz : (lg_sl as).length ≤ maxL) (hcat : ∀ v ∈ as, v.category = 1)
    (body : ∀ x : sp_X, x.2.1 = l → sp_C κ x cc maxL y.cls ret (tableOf hh) y.name (sp_rm f lo mc ms) → sp_w κ x (sp_F κ x Rt Xt mc ms) 0 0 0 (lv_args 0 as) [] μ) : sp_m l κ y cw f lo mc ms as μ Rt Xt := by
  refine vx_ofWH (cc := cc) (maxL := maxL) (ret := ret) (hh := hh) hy (by rw [hw]) ?_
  intro p e s m args below meth c s₁ B hml hv
  obtain ⟨rfl, hH, hU⟩ := hv
  have hts := atoms_spec (ws := cw :: sp_wa) B.pre
  have key := body (p, l, e, sp_rm f lo mc ms, s, m, as.toArray, below, meth, c) rfl ⟨⟨B.exec, B.bytes, hml, findClass_of_methodNamed B.named, fun w hw' => hts w (List.mem_cons_of_mem _ hw')⟩, hU, hH.1, B.notSynchronized, B.returns, vx_table (x := y) B (by rw [← hw]; exact hts _ List.mem_cons_self), (name_of_methodNamed B.named B.method).1, rfl, htr⟩
  rw [lg_entry_eq]
  exact key s.heap [] _ hH va_S.rf (by rw [hml]; exact lv_entry as hsz) (sp_args hcat)
end
end
section
/-! arrays of references: new ones; arrays of arrays -/
section
variable {κ : sp_K} {x : sp_X} {Q : State → Prop} {k n pc nL : Nat} {lv : List (Nat × Value)} {st : List Value} {μ : sp_M} {cc : ByteArray} {own : String} {ret : Option FieldType} {tb : List ExceptionTableEntry} {nm : String} {rm : Room}
theorem sr_aaldA (h : sp_C κ x cc nL own ret tb nm rm) (d : decode cc pc = .ok (.aaload, 1)) {a N j : Nat} {f : Nat → Option Nat} {i : Int32} (ho : μ a = some (sp_ra κ 5 N f)) (hi : i = nI j) (hj : j < N) {r : Option Nat} (hr0 : f j = r) (kk : sp_w κ x Q k n (pc + 1) lv (va_rf r :: st) μ) : sp_w κ x Q k n pc lv (.int i :: .ref a :: st) μ := by
  subst hi
  subst hr0
  obtain ⟨p, l, e, R, s, m, args, below, meth, c⟩ := x
  obtain ⟨⟨hx, hb, hml, hown, hts⟩, hU, hN, hlk, hr, htb, hnm, hR, htr⟩ := h
  intro H locs ls hH hS hl hc
  have kk' := kk H locs ls hH hS hl hc
  obtain ⟨h1, h2, LP, h3, h4, h5⟩ := hH
  obtain ⟨q0, hq0⟩ := sp_at h3 ho
  have hb3 : N < 2 ^ 31 := h2 a _ _ ho
  have hcl : (nI j).toNatClampNeg = j := nI_clamp (Nat.lt_trans hj hb3)
  exact W.aald (v := va_rf (f j)) (ty := .array .int) hx hb (h4 q0 _ hq0) ((hU.1.2 5 _ rfl).1 N (fun j => va_rf (f j))) rfl (fun q => by cases q) (by show ¬ (nI j < 0 ∨ (arrV _ _ _).slots.size ≤ _); rw [arrV_size]; exact vp_in_nI hj hb3) (by show (arrV _ _ _).slots[_]? = _; rw [hcl, arrV_read _ _ hj]) rfl rfl d kk'
theorem sr_newq (h : sp_C κ x cc nL own ret tb nm rm) {C : String} {ix t : Nat} (hcl : Cond.classLink own ix C ∈ sp_wa) (hC : C = RA ∧ t = 3 ∨ C = RS ∧ t = 4) (d : decode cc pc = .ok (.anewarray ix, 3)) {N : Nat} {i : Int32} (hi : i = nI N) (hN2 : N ≤ 1000000) (hcells : k + 1 ≤ rm.cells) (hslots : n + N ≤ rm.slots)
    (kk : ∀ q : Nat, μ q = none → sp_w κ x Q (k + 1) (n + N) (pc + 3) lv (.ref q :: st) (va_up μ q (some (sp_ra κ t N (fun _ => none))))) : sp_w κ x Q k n pc lv (.int i :: st) μ := by
  subst hi
  obtain ⟨p, l, e, R, s, m, args, below, meth, c⟩ := x
  obtain ⟨⟨hx, hb, hml, hown, hts⟩, hU, hN, hlk, hr, htb, hnm, hR, htr⟩ := h
  intro H locs ls hH hS hl hc
  obtain ⟨h1, h2, LP, h3, h4, h5⟩ := hH
  subst hR
  have hover : va_AO C s := by
    rcases hC with ⟨rfl, -⟩ | ⟨rfl, -⟩
    · exact hU.2.2.2.2.2.1
    · exact hU.2.2.2.2.2.2.1
  have htt : (sp_tys κ)[t]? = some (κ.2.2 t, .object C) := by
    rcases hC with ⟨rfl, rfl⟩ | ⟨rfl, rfl⟩ <;> rfl
  refine va_newq hx hb hown (hts _ hcl) hover hU.1 h4 h5 hS (fun q hq => Nat.le_trans hN hq) (nI_pos (by omega)) (nI_clamp (by omega)) (by omega) hcells hslots d (fun q cA H1 hK1 hP1 hD1 hS1 => ?_)
  have e1 : cA = κ.2.2 t := by
    obtain ⟨-, -, -, -, -, g1⟩ := (hK1.2 (sp_tys κ).length (cA, .object C) (by rw [List.getElem?_append_right (Nat.le_refl _), Nat.sub_self]; rfl)).2
    obtain ⟨-, -, -, -, -, g2⟩ := (hU.1.2 t _ htt).2
    exact Option.some.inj (Eq.trans (Eq.symm g1) g2)
  subst e1
  obtain ⟨hz, hH1⟩ := sp_push hN hS1 h2 h3 hP1 hD1 (fun ca y' z => by cases z; show N < 2 ^ 31; omega)
  exact kk q hz H1 locs ls hH1 hS1 hl hc
theorem sr_aastA (h : sp_C κ x cc nL own ret tb nm rm) (d : decode cc pc = .ok (.aastore, 1)) {a N j v M : Nat} {f : Nat → Option Nat} {fv : Nat → Int32} {i : Int32} (ho : μ a = some (sp_ra κ 5 N f)) (hi : i = nI j) (hj : j < N) (hv : μ v = some (sp_ia κ M fv)) (kk : sp_w κ x Q k n (pc + 1) lv st (va_up μ a (some (sp_ra κ 5 N (va_up f j (some v)))))) : sp_w κ x Q k n pc lv (.ref v :: .int i :: .ref a :: st) μ := by
  subst hi
  obtain ⟨p, l, e, R, s, m, args, below, meth, c⟩ := x
  obtain ⟨⟨hx, hb, hml, hown, hts⟩, hU, hN, hlk, hr, htb, hnm, hR, htr⟩ := h
  intro H locs ls hH hS hl hc
  obtain ⟨h1, h2, LP, h3, h4, h5⟩ := hH
  obtain ⟨q0, hq0⟩ := sp_at h3 ho
  obtain ⟨qk, hqk⟩ := sp_at h3 hv
  have hb3 : N < 2 ^ 31 := h2 a _ _ ho
  have hcl : (nI j).toNatClampNeg = j := nI_clamp (Nat.lt_trans hj hb3)
  have g1 : H[v]? = some (vp_cell (κ.2.2 0) (M, .inl fv)) := h4 qk _ hqk
  obtain ⟨comp, cA2, kA, k3, -, k1, k2, k4⟩ := arrayOverA_spec hU.2.2.2.2.2.2.2
  have e5 : κ.2.2 5 = cA2 := Option.some.inj (Eq.trans (Eq.symm ((hU.1.2 5 _ rfl).2 : s.vm.findClass ("[" ++ (FieldType.array .int).toString) = some (κ.2.2 5))) k4)
  have e0 : κ.2.2 0 = comp := Option.some.inj (Eq.trans (Eq.symm ((hU.1.2 0 _ rfl).2 : s.vm.findClass ("[" ++ FieldType.int.toString) = some (κ.2.2 0))) k3)
  obtain ⟨kE, hkE, -⟩ := Vm.findClass_spec k3
  have hc5 : (vp_cell (κ.2.2 5) (N, .inr (.inr (.inr (.inr f))))).cls = cA2 := e5
  have hc0 : (vp_cell (κ.2.2 0) (M, .inl fv)).cls = comp := e0
  refine W.aast hx hb (h4 q0 _ hq0) (fun q h => by cases h) (fun h => by cases h) (by rw [hc5]; exact k1) k2 rfl hkE ⟨nI_pos (Nat.lt_trans hj hb3), by show _ < (arrV _ _ _).slots.size; rw [arrV_size, hcl]; exact hj⟩ g1 (fun q h => by cases h) (by rw [hc0]; exact hkE) (by rw [hc0]; exact va_asg _ _) rfl rfl d fun H1 e z oq => ?_
  have hP1 := h4.set h5 hq0 (e := .inl (κ.2.2 5, N, .inr (.inr (.inr (.inr (va_up f j (some v))))))) (H1 := H1) (by
    show H1[a]? = some (vp_cell _ _)
    rw [e, hcl]
    rw [vp_cell_q, vp_cell_q, arrV_store]
    congr 2
    funext q
    by_cases hq : q = j
    · subst hq
      simp [updV, va_up, va_rf]
    · simp [updV, va_up, hq]) oq
  have hS1 := hS.put (k := (nI j).toNatClampNeg) z oq (h5.2 q0 _ hq0)
  exact kk H1 _ ls (sp_put (H := H) hN hS1 h2 h3 ho hq0 h5 hP1 (h5.set hq0) (fun ca y z => by cases z; exact hb3)) hS1 hl hc
end
end
section
/-! words of the tables, by their places (laid by wip/whole/gen.py) -/
theorem sp_gG : GoodIn sp_wa sp_wa := fun w h => ⟨h, good_of_word (List.mem_filter.mp h).2⟩
theorem sp_gI {cw : Cond} (h : cw ∈ sp_wa) : GoodIn sp_wa (cw :: sp_wa) := fun w hw => (List.mem_cons.mp hw).elim (fun e => e ▸ sp_gG cw h) (sp_gG w)
theorem sp_gV {own C : String} {ix : Nat} {y : MethodName} {cw : Cond} (h1 : Cond.methodLink own ix y ∈ sp_wa) (h2 : Cond.instanceMethod y ∈ sp_wa) (h3 : Cond.selects C y y ∈ sp_wa) (h4 : Cond.initialized C ∈ sp_wa) (h5 : cw ∈ sp_wa) : GoodIn sp_wa (wsV own ix C y (cw :: sp_wa)) := by
  intro w hw
  rcases List.mem_append.mp hw with h | h
  · simp only [List.mem_cons, List.not_mem_nil, or_false] at h
    rcases h with rfl | rfl | rfl | rfl
    · exact sp_gG _ h1
    · exact sp_gG _ h2
    · exact sp_gG _ h3
    · exact sp_gG _ h4
  · exact sp_gI h5 w h
theorem sp_gS {own : String} {ix : Nat} {y : MethodName} {cw : Cond} (h1 : Cond.methodLink own ix y ∈ sp_wa) (h2 : Cond.static y ∈ sp_wa) (h3 : Cond.initialized y.cls ∈ sp_wa) (h5 : cw ∈ sp_wa) : GoodIn sp_wa (va_wsS own ix y (cw :: sp_wa)) := by
  intro w hw
  rcases List.mem_append.mp hw with h | h
  · simp only [List.mem_cons, List.not_mem_nil, or_false] at h
    rcases h with rfl | rfl | rfl
    · exact sp_gG _ h1
    · exact sp_gG _ h2
    · exact sp_gG _ h3
  · exact sp_gI h5 w h
theorem kw_oi : Cond.code Lib.objectInit ⟨#[0xb1]⟩ 1 none ∈ sp_wa := sp_in (i := 55) (by decide +kernel) (by decide +kernel)
theorem kw_mmax : Cond.code Lib.Math.max.name Lib.Math.max.code 2 (some .int) ∈ sp_wa := sp_in (i := 111) (by decide +kernel) (by decide +kernel)
theorem kw_mmin : Cond.code Lib.Math.min.name Lib.Math.min.code 2 (some .int) ∈ sp_wa := sp_in (i := 97) (by decide +kernel) (by decide +kernel)
theorem kw_0 : (Jvm.Cond.selects "EventSpans" ({ cls := "EventSpans", name := "putOnList", desc := "(I)V" } : Jvm.MethodName) ({ cls := "EventSpans", name := "putOnList", desc := "(I)V" } : Jvm.MethodName)) ∈ sp_wa := sp_in (i := 0) (by decide +kernel) (by decide +kernel)
theorem kw_1 : (Jvm.Cond.selects "EventSpans" ({ cls := "EventSpans", name := "find", desc := "(II)I" } : Jvm.MethodName) ({ cls := "EventSpans", name := "find", desc := "(II)I" } : Jvm.MethodName)) ∈ sp_wa := sp_in (i := 1) (by decide +kernel) (by decide +kernel)
theorem kw_3 : (Jvm.Cond.selects "EventSpans" ({ cls := "EventSpans", name := "isListed", desc := "(I)Z" } : Jvm.MethodName) ({ cls := "EventSpans", name := "isListed", desc := "(I)Z" } : Jvm.MethodName)) ∈ sp_wa := sp_in (i := 3) (by decide +kernel) (by decide +kernel)
theorem kw_4 : (Jvm.Cond.selects "EventSpans" ({ cls := "EventSpans", name := "takeList", desc := "()[I" } : Jvm.MethodName) ({ cls := "EventSpans", name := "takeList", desc := "()[I" } : Jvm.MethodName)) ∈ sp_wa := sp_in (i := 4) (by decide +kernel) (by decide +kernel)
theorem kw_5 : (Jvm.Cond.selects "EventSpans" ({ cls := "EventSpans", name := "seenFrom", desc := "([I)[I" } : Jvm.MethodName) ({ cls := "EventSpans", name := "seenFrom", desc := "([I)[I" } : Jvm.MethodName)) ∈ sp_wa := sp_in (i := 5) (by decide +kernel) (by decide +kernel)
theorem kw_6 : (Jvm.Cond.selects "EventSpans" ({ cls := "EventSpans", name := "spanOf", desc := "(I)LEventSpans$Span;" } : Jvm.MethodName) ({ cls := "EventSpans", name := "spanOf", desc := "(I)LEventSpans$Span;" } : Jvm.MethodName)) ∈ sp_wa := sp_in (i := 6) (by decide +kernel) (by decide +kernel)
theorem kw_7 : (Jvm.Cond.selects "EventSpans" ({ cls := "EventSpans", name := "holdsAncestor", desc := "([I)Z" } : Jvm.MethodName) ({ cls := "EventSpans", name := "holdsAncestor", desc := "([I)Z" } : Jvm.MethodName)) ∈ sp_wa := sp_in (i := 7) (by decide +kernel) (by decide +kernel)
theorem kw_8 : (Jvm.Cond.selects "EventSpans" ({ cls := "EventSpans", name := "isAncestor", desc := "(II)Z" } : Jvm.MethodName) ({ cls := "EventSpans", name := "isAncestor", desc := "(II)Z" } : Jvm.MethodName)) ∈ sp_wa := sp_in (i := 8) (by decide +kernel) (by decide +kernel)
theorem kw_9 : (Jvm.Cond.selects "EventSpans" ({ cls := "EventSpans", name := "endHeads", desc := "([I)V" } : Jvm.MethodName) ({ cls := "EventSpans", name := "endHeads", desc := "([I)V" } : Jvm.MethodName)) ∈ sp_wa := sp_in (i := 9) (by decide +kernel) (by decide +kernel)
theorem kw_10 : (Jvm.Cond.selects "EventSpans" ({ cls := "EventSpans", name := "newAgent", desc := "(I)LEventSpans$Agent;" } : Jvm.MethodName) ({ cls := "EventSpans", name := "newAgent", desc := "(I)LEventSpans$Agent;" } : Jvm.MethodName)) ∈ sp_wa := sp_in (i := 10) (by decide +kernel) (by decide +kernel)
theorem kw_11 : (Jvm.Cond.selects "EventSpans" ({ cls := "EventSpans", name := "append", desc := "(LEventSpans$Agent;I[I[I)V" } : Jvm.MethodName) ({ cls := "EventSpans", name := "append", desc := "(LEventSpans$Agent;I[I[I)V" } : Jvm.MethodName)) ∈ sp_wa := sp_in (i := 11) (by decide +kernel) (by decide +kernel)
theorem kw_12 : (Jvm.Cond.selects "EventSpansModel" ({ cls := "EventSpansModel", name := "parent0", desc := "(II)I" } : Jvm.MethodName) ({ cls := "EventSpansModel", name := "parent0", desc := "(II)I" } : Jvm.MethodName)) ∈ sp_wa := sp_in (i := 12) (by decide +kernel) (by decide +kernel)
theorem kw_13 : (Jvm.Cond.selects "EventSpansModel" ({ cls := "EventSpansModel", name := "find", desc := "(II)I" } : Jvm.MethodName) ({ cls := "EventSpansModel", name := "find", desc := "(II)I" } : Jvm.MethodName)) ∈ sp_wa := sp_in (i := 13) (by decide +kernel) (by decide +kernel)
theorem kw_14 : (Jvm.Cond.selects "EventSpansModel" ({ cls := "EventSpansModel", name := "slotOf", desc := "(I)I" } : Jvm.MethodName) ({ cls := "EventSpansModel", name := "slotOf", desc := "(I)I" } : Jvm.MethodName)) ∈ sp_wa := sp_in (i := 14) (by decide +kernel) (by decide +kernel)
theorem kw_15 : (Jvm.Cond.selects "EventSpansModel" ({ cls := "EventSpansModel", name := "heads0", desc := "()I" } : Jvm.MethodName) ({ cls := "EventSpansModel", name := "heads0", desc := "()I" } : Jvm.MethodName)) ∈ sp_wa := sp_in (i := 15) (by decide +kernel) (by decide +kernel)
theorem kw_16 : (Jvm.Cond.selects "EventSpansModel" ({ cls := "EventSpansModel", name := "headsTo", desc := "([I)I" } : Jvm.MethodName) ({ cls := "EventSpansModel", name := "headsTo", desc := "([I)I" } : Jvm.MethodName)) ∈ sp_wa := sp_in (i := 16) (by decide +kernel) (by decide +kernel)
theorem kw_17 : (Jvm.Cond.selects "EventSpansModel" ({ cls := "EventSpansModel", name := "isHead", desc := "(I)Z" } : Jvm.MethodName) ({ cls := "EventSpansModel", name := "isHead", desc := "(I)Z" } : Jvm.MethodName)) ∈ sp_wa := sp_in (i := 17) (by decide +kernel) (by decide +kernel)
theorem kw_18 : (Jvm.Cond.selects "EventSpansModel" ({ cls := "EventSpansModel", name := "isIn", desc := "(II)Z" } : Jvm.MethodName) ({ cls := "EventSpansModel", name := "isIn", desc := "(II)Z" } : Jvm.MethodName)) ∈ sp_wa := sp_in (i := 18) (by decide +kernel) (by decide +kernel)
theorem kw_19 : (Jvm.Cond.selects "EventSpansModel" ({ cls := "EventSpansModel", name := "add0", desc := "(II)I" } : Jvm.MethodName) ({ cls := "EventSpansModel", name := "add0", desc := "(II)I" } : Jvm.MethodName)) ∈ sp_wa := sp_in (i := 19) (by decide +kernel) (by decide +kernel)
theorem kw_20 : (Jvm.Cond.selects "EventSpansModel" ({ cls := "EventSpansModel", name := "come", desc := "(IIZ)V" } : Jvm.MethodName) ({ cls := "EventSpansModel", name := "come", desc := "(IIZ)V" } : Jvm.MethodName)) ∈ sp_wa := sp_in (i := 20) (by decide +kernel) (by decide +kernel)
theorem kw_21 : (Jvm.Cond.selects "EventSpansModel" ({ cls := "EventSpansModel", name := "events0", desc := "(I)I" } : Jvm.MethodName) ({ cls := "EventSpansModel", name := "events0", desc := "(I)I" } : Jvm.MethodName)) ∈ sp_wa := sp_in (i := 21) (by decide +kernel) (by decide +kernel)
theorem kw_22 : (Jvm.Cond.selects "EventSpansModel" ({ cls := "EventSpansModel", name := "place0", desc := "(II)I" } : Jvm.MethodName) ({ cls := "EventSpansModel", name := "place0", desc := "(II)I" } : Jvm.MethodName)) ∈ sp_wa := sp_in (i := 22) (by decide +kernel) (by decide +kernel)
theorem kw_23 : (Jvm.Cond.selects "EventSpansModel" ({ cls := "EventSpansModel", name := "id0", desc := "(I)J" } : Jvm.MethodName) ({ cls := "EventSpansModel", name := "id0", desc := "(I)J" } : Jvm.MethodName)) ∈ sp_wa := sp_in (i := 23) (by decide +kernel) (by decide +kernel)
theorem kw_24 : (Jvm.Cond.selects "EventSpansModel" ({ cls := "EventSpansModel", name := "isPlace", desc := "(I)Z" } : Jvm.MethodName) ({ cls := "EventSpansModel", name := "isPlace", desc := "(I)Z" } : Jvm.MethodName)) ∈ sp_wa := sp_in (i := 24) (by decide +kernel) (by decide +kernel)
theorem kw_25 : (Jvm.Cond.selects "EventSpansModel" ({ cls := "EventSpansModel", name := "parentOf0", desc := "(II)I" } : Jvm.MethodName) ({ cls := "EventSpansModel", name := "parentOf0", desc := "(II)I" } : Jvm.MethodName)) ∈ sp_wa := sp_in (i := 25) (by decide +kernel) (by decide +kernel)
theorem kw_26 : (Jvm.Cond.selects "EventSpansModel" ({ cls := "EventSpansModel", name := "related0", desc := "(II)I" } : Jvm.MethodName) ({ cls := "EventSpansModel", name := "related0", desc := "(II)I" } : Jvm.MethodName)) ∈ sp_wa := sp_in (i := 26) (by decide +kernel) (by decide +kernel)
theorem kw_27 : (Jvm.Cond.selects "EventSpansModel" ({ cls := "EventSpansModel", name := "apart0", desc := "(II)I" } : Jvm.MethodName) ({ cls := "EventSpansModel", name := "apart0", desc := "(II)I" } : Jvm.MethodName)) ∈ sp_wa := sp_in (i := 27) (by decide +kernel) (by decide +kernel)
theorem kw_28 : (Jvm.Cond.selects "EventSpansModel" ({ cls := "EventSpansModel", name := "latest0", desc := "(III)I" } : Jvm.MethodName) ({ cls := "EventSpansModel", name := "latest0", desc := "(III)I" } : Jvm.MethodName)) ∈ sp_wa := sp_in (i := 28) (by decide +kernel) (by decide +kernel)
theorem kw_29 : (Jvm.Cond.selects "EventSpansModel" ({ cls := "EventSpansModel", name := "head0", desc := "(I)I" } : Jvm.MethodName) ({ cls := "EventSpansModel", name := "head0", desc := "(I)I" } : Jvm.MethodName)) ∈ sp_wa := sp_in (i := 29) (by decide +kernel) (by decide +kernel)
theorem kw_30 : (Jvm.Cond.selects "EventSpansModel" ({ cls := "EventSpansModel", name := "critical0", desc := "()I" } : Jvm.MethodName) ({ cls := "EventSpansModel", name := "critical0", desc := "()I" } : Jvm.MethodName)) ∈ sp_wa := sp_in (i := 30) (by decide +kernel) (by decide +kernel)
theorem kw_31 : (Jvm.Cond.selects "EventSpansModel" ({ cls := "EventSpansModel", name := "isCritical", desc := "(I)Z" } : Jvm.MethodName) ({ cls := "EventSpansModel", name := "isCritical", desc := "(I)Z" } : Jvm.MethodName)) ∈ sp_wa := sp_in (i := 31) (by decide +kernel) (by decide +kernel)
theorem kw_32 : (Jvm.Cond.selects "EventSpansModel" ({ cls := "EventSpansModel", name := "base0", desc := "(I)I" } : Jvm.MethodName) ({ cls := "EventSpansModel", name := "base0", desc := "(I)I" } : Jvm.MethodName)) ∈ sp_wa := sp_in (i := 32) (by decide +kernel) (by decide +kernel)
theorem kw_34 : (Jvm.Cond.initialized "EventSpans") ∈ sp_wa := sp_in (i := 34) (by decide +kernel) (by decide +kernel)
theorem kw_35 : (Jvm.Cond.initialized "EventSpansModel") ∈ sp_wa := sp_in (i := 35) (by decide +kernel) (by decide +kernel)
theorem kw_39 : (Jvm.Cond.initialized "java/util/NoSuchElementException") ∈ sp_wa := sp_in (i := 39) (by decide +kernel) (by decide +kernel)
theorem kw_40 : (Jvm.Cond.initialized "java/lang/UnsupportedOperationException") ∈ sp_wa := sp_in (i := 40) (by decide +kernel) (by decide +kernel)
theorem kw_41 : (Jvm.Cond.initialized "java/lang/IllegalStateException") ∈ sp_wa := sp_in (i := 41) (by decide +kernel) (by decide +kernel)
theorem kw_42 : (Jvm.Cond.initialized "java/lang/IllegalArgumentException") ∈ sp_wa := sp_in (i := 42) (by decide +kernel) (by decide +kernel)
theorem kw_43 : (Jvm.Cond.initialized "java/util/Arrays") ∈ sp_wa := sp_in (i := 43) (by decide +kernel) (by decide +kernel)
theorem kw_44 : (Jvm.Cond.initialized "java/lang/Math") ∈ sp_wa := sp_in (i := 44) (by decide +kernel) (by decide +kernel)
theorem kw_46 : (Jvm.Cond.initialized "EventSpans$Agent") ∈ sp_wa := sp_in (i := 46) (by decide +kernel) (by decide +kernel)
theorem kw_47 : (Jvm.Cond.initialized "EventSpans$Span") ∈ sp_wa := sp_in (i := 47) (by decide +kernel) (by decide +kernel)
theorem kw_53 : (Jvm.Cond.methodLink "EventSpans" (1 : Nat) ({ cls := "java/lang/Object", name := "<init>", desc := "()V" } : Jvm.MethodName)) ∈ sp_wa := sp_in (i := 53) (by decide +kernel) (by decide +kernel)
theorem kw_54 : (Jvm.Cond.instanceMethod ({ cls := "java/lang/Object", name := "<init>", desc := "()V" } : Jvm.MethodName)) ∈ sp_wa := sp_in (i := 54) (by decide +kernel) (by decide +kernel)
theorem kw_56 : (Jvm.Cond.classLink "EventSpans" (9 : Nat) "EventSpans$Agent") ∈ sp_wa := sp_in (i := 56) (by decide +kernel) (by decide +kernel)
theorem kw_58 : (Jvm.Cond.classLink "EventSpans" (19 : Nat) "EventSpans$Span") ∈ sp_wa := sp_in (i := 58) (by decide +kernel) (by decide +kernel)
theorem kw_60 : (Jvm.Cond.fieldLink "EventSpans" (11 : Nat) "EventSpans" "agents" "[LEventSpans$Agent;") ∈ sp_wa := sp_in (i := 60) (by decide +kernel) (by decide +kernel)
theorem kw_61 : (Jvm.Cond.fieldLink "EventSpans" (15 : Nat) "EventSpans" "agentCount" "I") ∈ sp_wa := sp_in (i := 61) (by decide +kernel) (by decide +kernel)
theorem kw_62 : (Jvm.Cond.fieldLink "EventSpans" (21 : Nat) "EventSpans" "spans" "[LEventSpans$Span;") ∈ sp_wa := sp_in (i := 62) (by decide +kernel) (by decide +kernel)
theorem kw_63 : (Jvm.Cond.fieldLink "EventSpans" (25 : Nat) "EventSpans" "eventCount" "I") ∈ sp_wa := sp_in (i := 63) (by decide +kernel) (by decide +kernel)
theorem kw_64 : (Jvm.Cond.fieldLink "EventSpans" (28 : Nat) "EventSpans" "newestSpan" "LEventSpans$Span;") ∈ sp_wa := sp_in (i := 64) (by decide +kernel) (by decide +kernel)
theorem kw_65 : (Jvm.Cond.fieldLink "EventSpans" (32 : Nat) "EventSpans" "listed" "[I") ∈ sp_wa := sp_in (i := 65) (by decide +kernel) (by decide +kernel)
theorem kw_66 : (Jvm.Cond.fieldLink "EventSpans" (36 : Nat) "EventSpans" "listSize" "I") ∈ sp_wa := sp_in (i := 66) (by decide +kernel) (by decide +kernel)
theorem kw_82 : (Jvm.Cond.arrayClass Jvm.ClassFile.FieldType.int) ∈ sp_wa := sp_in (i := 82) (by decide +kernel) (by decide +kernel)
theorem kw_87 : (Jvm.Cond.methodLink "EventSpans" (53 : Nat) ({ cls := "EventSpans", name := "putOnList", desc := "(I)V" } : Jvm.MethodName)) ∈ sp_wa := sp_in (i := 87) (by decide +kernel) (by decide +kernel)
theorem kw_89 : (Jvm.Cond.instanceMethod ({ cls := "EventSpans", name := "putOnList", desc := "(I)V" } : Jvm.MethodName)) ∈ sp_wa := sp_in (i := 89) (by decide +kernel) (by decide +kernel)
theorem kw_90 : (Jvm.Cond.code ({ cls := "EventSpans", name := "putOnList", desc := "(I)V" } : Jvm.MethodName) prog_1_method_21_code (3 : Nat) (Option.none : Option Jvm.ClassFile.FieldType)) ∈ sp_wa := sp_in (i := 90) (by decide +kernel) (by decide +kernel)
theorem kw_95 : (Jvm.Cond.methodLink "EventSpans" (145 : Nat) ({ cls := "java/lang/Math", name := "min", desc := "(II)I" } : Jvm.MethodName)) ∈ sp_wa := sp_in (i := 95) (by decide +kernel) (by decide +kernel)
theorem kw_96 : (Jvm.Cond.static ({ cls := "java/lang/Math", name := "min", desc := "(II)I" } : Jvm.MethodName)) ∈ sp_wa := sp_in (i := 96) (by decide +kernel) (by decide +kernel)
theorem kw_98 : (Jvm.Cond.methodLink "EventSpans" (154 : Nat) ({ cls := "EventSpans$Span", name := "newestParent", desc := "()I" } : Jvm.MethodName)) ∈ sp_wa := sp_in (i := 98) (by decide +kernel) (by decide +kernel)
theorem kw_99 : (Jvm.Cond.instanceMethod ({ cls := "EventSpans$Span", name := "newestParent", desc := "()I" } : Jvm.MethodName)) ∈ sp_wa := sp_in (i := 99) (by decide +kernel) (by decide +kernel)
theorem kw_100 : (Jvm.Cond.selects "EventSpans$Span" ({ cls := "EventSpans$Span", name := "newestParent", desc := "()I" } : Jvm.MethodName) ({ cls := "EventSpans$Span", name := "newestParent", desc := "()I" } : Jvm.MethodName)) ∈ sp_wa := sp_in (i := 100) (by decide +kernel) (by decide +kernel)
theorem kw_101 : (Jvm.Cond.code ({ cls := "EventSpans$Span", name := "newestParent", desc := "()I" } : Jvm.MethodName) prog_3_method_7_code (1 : Nat) (Option.some Jvm.ClassFile.FieldType.int)) ∈ sp_wa := sp_in (i := 101) (by decide +kernel) (by decide +kernel)
theorem kw_106 : (Jvm.Cond.methodLink "EventSpans" (136 : Nat) ({ cls := "EventSpans", name := "highestBelow", desc := "(I)I" } : Jvm.MethodName)) ∈ sp_wa := sp_in (i := 106) (by decide +kernel) (by decide +kernel)
theorem kw_107 : (Jvm.Cond.static ({ cls := "EventSpans", name := "highestBelow", desc := "(I)I" } : Jvm.MethodName)) ∈ sp_wa := sp_in (i := 107) (by decide +kernel) (by decide +kernel)
theorem kw_108 : (Jvm.Cond.code ({ cls := "EventSpans", name := "highestBelow", desc := "(I)I" } : Jvm.MethodName) prog_1_method_16_code (1 : Nat) (Option.some Jvm.ClassFile.FieldType.int)) ∈ sp_wa := sp_in (i := 108) (by decide +kernel) (by decide +kernel)
theorem kw_109 : (Jvm.Cond.methodLink "EventSpans" (131 : Nat) ({ cls := "java/lang/Math", name := "max", desc := "(II)I" } : Jvm.MethodName)) ∈ sp_wa := sp_in (i := 109) (by decide +kernel) (by decide +kernel)
theorem kw_110 : (Jvm.Cond.static ({ cls := "java/lang/Math", name := "max", desc := "(II)I" } : Jvm.MethodName)) ∈ sp_wa := sp_in (i := 110) (by decide +kernel) (by decide +kernel)
theorem kw_115 : (Jvm.Cond.classLink "EventSpansLaw" (13 : Nat) "java/util/NoSuchElementException") ∈ sp_wa := sp_in (i := 115) (by decide +kernel) (by decide +kernel)
theorem kw_116 : (Jvm.Cond.classLink "EventSpansLaw" (15 : Nat) "java/lang/UnsupportedOperationException") ∈ sp_wa := sp_in (i := 116) (by decide +kernel) (by decide +kernel)
theorem kw_117 : (Jvm.Cond.classLink "EventSpansLaw" (17 : Nat) "java/lang/IllegalStateException") ∈ sp_wa := sp_in (i := 117) (by decide +kernel) (by decide +kernel)
theorem kw_118 : (Jvm.Cond.methodLink "EventSpansLaw" (7 : Nat) ({ cls := "EventSpans", name := "parent", desc := "(II)I" } : Jvm.MethodName)) ∈ sp_wa := sp_in (i := 118) (by decide +kernel) (by decide +kernel)
theorem kw_119 : (Jvm.Cond.instanceMethod ({ cls := "EventSpans", name := "parent", desc := "(II)I" } : Jvm.MethodName)) ∈ sp_wa := sp_in (i := 119) (by decide +kernel) (by decide +kernel)
theorem kw_120 : (Jvm.Cond.selects "EventSpans" ({ cls := "EventSpans", name := "parent", desc := "(II)I" } : Jvm.MethodName) ({ cls := "EventSpans", name := "parent", desc := "(II)I" } : Jvm.MethodName)) ∈ sp_wa := sp_in (i := 120) (by decide +kernel) (by decide +kernel)
theorem kw_121 : (Jvm.Cond.code ({ cls := "EventSpans", name := "parent", desc := "(II)I" } : Jvm.MethodName) prog_1_method_2_code (4 : Nat) (Option.some Jvm.ClassFile.FieldType.int)) ∈ sp_wa := sp_in (i := 121) (by decide +kernel) (by decide +kernel)
theorem kw_122 : (Jvm.Cond.methodLink "EventSpans" (39 : Nat) ({ cls := "EventSpans", name := "find", desc := "(II)I" } : Jvm.MethodName)) ∈ sp_wa := sp_in (i := 122) (by decide +kernel) (by decide +kernel)
theorem kw_124 : (Jvm.Cond.instanceMethod ({ cls := "EventSpans", name := "find", desc := "(II)I" } : Jvm.MethodName)) ∈ sp_wa := sp_in (i := 124) (by decide +kernel) (by decide +kernel)
theorem kw_125 : (Jvm.Cond.code ({ cls := "EventSpans", name := "find", desc := "(II)I" } : Jvm.MethodName) prog_1_method_18_code (4 : Nat) (Option.some Jvm.ClassFile.FieldType.int)) ∈ sp_wa := sp_in (i := 125) (by decide +kernel) (by decide +kernel)
theorem kw_126 : (Jvm.Cond.methodLink "EventSpans" (64 : Nat) ({ cls := "EventSpans", name := "isAgentName", desc := "(I)Z" } : Jvm.MethodName)) ∈ sp_wa := sp_in (i := 126) (by decide +kernel) (by decide +kernel)
theorem kw_127 : (Jvm.Cond.static ({ cls := "EventSpans", name := "isAgentName", desc := "(I)Z" } : Jvm.MethodName)) ∈ sp_wa := sp_in (i := 127) (by decide +kernel) (by decide +kernel)
theorem kw_128 : (Jvm.Cond.code ({ cls := "EventSpans", name := "isAgentName", desc := "(I)Z" } : Jvm.MethodName) prog_1_method_15_code (1 : Nat) (Option.some Jvm.ClassFile.FieldType.boolean)) ∈ sp_wa := sp_in (i := 128) (by decide +kernel) (by decide +kernel)
theorem kw_129 : (Jvm.Cond.classLink "EventSpans" (121 : Nat) "java/util/NoSuchElementException") ∈ sp_wa := sp_in (i := 129) (by decide +kernel) (by decide +kernel)
theorem kw_193 : (Jvm.Cond.methodLink "EventSpans" (159 : Nat) ({ cls := "EventSpans$Span", name := "hasNumber", desc := "(I)Z" } : Jvm.MethodName)) ∈ sp_wa := sp_in (i := 193) (by decide +kernel) (by decide +kernel)
theorem kw_194 : (Jvm.Cond.instanceMethod ({ cls := "EventSpans$Span", name := "hasNumber", desc := "(I)Z" } : Jvm.MethodName)) ∈ sp_wa := sp_in (i := 194) (by decide +kernel) (by decide +kernel)
theorem kw_195 : (Jvm.Cond.selects "EventSpans$Span" ({ cls := "EventSpans$Span", name := "hasNumber", desc := "(I)Z" } : Jvm.MethodName) ({ cls := "EventSpans$Span", name := "hasNumber", desc := "(I)Z" } : Jvm.MethodName)) ∈ sp_wa := sp_in (i := 195) (by decide +kernel) (by decide +kernel)
theorem kw_196 : (Jvm.Cond.code ({ cls := "EventSpans$Span", name := "hasNumber", desc := "(I)Z" } : Jvm.MethodName) prog_3_method_5_code (2 : Nat) (Option.some Jvm.ClassFile.FieldType.boolean)) ∈ sp_wa := sp_in (i := 196) (by decide +kernel) (by decide +kernel)
theorem kw_197 : (Jvm.Cond.methodLink "EventSpans$Span" (53 : Nat) ({ cls := "EventSpans$Span", name := "numberAt", desc := "(I)I" } : Jvm.MethodName)) ∈ sp_wa := sp_in (i := 197) (by decide +kernel) (by decide +kernel)
theorem kw_198 : (Jvm.Cond.instanceMethod ({ cls := "EventSpans$Span", name := "numberAt", desc := "(I)I" } : Jvm.MethodName)) ∈ sp_wa := sp_in (i := 198) (by decide +kernel) (by decide +kernel)
theorem kw_199 : (Jvm.Cond.selects "EventSpans$Span" ({ cls := "EventSpans$Span", name := "numberAt", desc := "(I)I" } : Jvm.MethodName) ({ cls := "EventSpans$Span", name := "numberAt", desc := "(I)I" } : Jvm.MethodName)) ∈ sp_wa := sp_in (i := 199) (by decide +kernel) (by decide +kernel)
theorem kw_200 : (Jvm.Cond.code ({ cls := "EventSpans$Span", name := "numberAt", desc := "(I)I" } : Jvm.MethodName) prog_3_method_3_code (2 : Nat) (Option.some Jvm.ClassFile.FieldType.int)) ∈ sp_wa := sp_in (i := 200) (by decide +kernel) (by decide +kernel)
theorem kw_201 : (Jvm.Cond.methodLink "EventSpans" (139 : Nat) ({ cls := "EventSpans$Span", name := "placeOfNumber", desc := "(I)I" } : Jvm.MethodName)) ∈ sp_wa := sp_in (i := 201) (by decide +kernel) (by decide +kernel)
theorem kw_202 : (Jvm.Cond.instanceMethod ({ cls := "EventSpans$Span", name := "placeOfNumber", desc := "(I)I" } : Jvm.MethodName)) ∈ sp_wa := sp_in (i := 202) (by decide +kernel) (by decide +kernel)
theorem kw_203 : (Jvm.Cond.selects "EventSpans$Span" ({ cls := "EventSpans$Span", name := "placeOfNumber", desc := "(I)I" } : Jvm.MethodName) ({ cls := "EventSpans$Span", name := "placeOfNumber", desc := "(I)I" } : Jvm.MethodName)) ∈ sp_wa := sp_in (i := 203) (by decide +kernel) (by decide +kernel)
theorem kw_204 : (Jvm.Cond.code ({ cls := "EventSpans$Span", name := "placeOfNumber", desc := "(I)I" } : Jvm.MethodName) prog_3_method_4_code (2 : Nat) (Option.some Jvm.ClassFile.FieldType.int)) ∈ sp_wa := sp_in (i := 204) (by decide +kernel) (by decide +kernel)
theorem kw_205 : (Jvm.Cond.methodLink "EventSpans" (43 : Nat) ({ cls := "EventSpans", name := "isListed", desc := "(I)Z" } : Jvm.MethodName)) ∈ sp_wa := sp_in (i := 205) (by decide +kernel) (by decide +kernel)
theorem kw_207 : (Jvm.Cond.instanceMethod ({ cls := "EventSpans", name := "isListed", desc := "(I)Z" } : Jvm.MethodName)) ∈ sp_wa := sp_in (i := 207) (by decide +kernel) (by decide +kernel)
theorem kw_208 : (Jvm.Cond.code ({ cls := "EventSpans", name := "isListed", desc := "(I)Z" } : Jvm.MethodName) prog_1_method_20_code (3 : Nat) (Option.some Jvm.ClassFile.FieldType.boolean)) ∈ sp_wa := sp_in (i := 208) (by decide +kernel) (by decide +kernel)
theorem kw_209 : (Jvm.Cond.classLink "EventSpans" (47 : Nat) "java/lang/UnsupportedOperationException") ∈ sp_wa := sp_in (i := 209) (by decide +kernel) (by decide +kernel)
theorem kw_224 : (Jvm.Cond.classLink "EventSpans" (50 : Nat) "java/lang/IllegalStateException") ∈ sp_wa := sp_in (i := 224) (by decide +kernel) (by decide +kernel)
theorem kw_242 : (Jvm.Cond.classLink "EventSpansLaw" (22 : Nat) "java/lang/IllegalArgumentException") ∈ sp_wa := sp_in (i := 242) (by decide +kernel) (by decide +kernel)
theorem kw_243 : (Jvm.Cond.methodLink "EventSpansLaw" (19 : Nat) ({ cls := "EventSpans", name := "add", desc := "(II)I" } : Jvm.MethodName)) ∈ sp_wa := sp_in (i := 243) (by decide +kernel) (by decide +kernel)
theorem kw_244 : (Jvm.Cond.instanceMethod ({ cls := "EventSpans", name := "add", desc := "(II)I" } : Jvm.MethodName)) ∈ sp_wa := sp_in (i := 244) (by decide +kernel) (by decide +kernel)
theorem kw_245 : (Jvm.Cond.selects "EventSpans" ({ cls := "EventSpans", name := "add", desc := "(II)I" } : Jvm.MethodName) ({ cls := "EventSpans", name := "add", desc := "(II)I" } : Jvm.MethodName)) ∈ sp_wa := sp_in (i := 245) (by decide +kernel) (by decide +kernel)
theorem kw_246 : (Jvm.Cond.code ({ cls := "EventSpans", name := "add", desc := "(II)I" } : Jvm.MethodName) prog_1_method_4_code (6 : Nat) (Option.some Jvm.ClassFile.FieldType.int)) ∈ sp_wa := sp_in (i := 246) (by decide +kernel) (by decide +kernel)
theorem kw_247 : (Jvm.Cond.classLink "EventSpans" (67 : Nat) "java/lang/IllegalArgumentException") ∈ sp_wa := sp_in (i := 247) (by decide +kernel) (by decide +kernel)
theorem kw_262 : (Jvm.Cond.methodLink "EventSpans" (70 : Nat) ({ cls := "EventSpans", name := "takeList", desc := "()[I" } : Jvm.MethodName)) ∈ sp_wa := sp_in (i := 262) (by decide +kernel) (by decide +kernel)
theorem kw_264 : (Jvm.Cond.instanceMethod ({ cls := "EventSpans", name := "takeList", desc := "()[I" } : Jvm.MethodName)) ∈ sp_wa := sp_in (i := 264) (by decide +kernel) (by decide +kernel)
theorem kw_265 : (Jvm.Cond.code ({ cls := "EventSpans", name := "takeList", desc := "()[I" } : Jvm.MethodName) prog_1_method_22_code (2 : Nat) (Option.some (Jvm.ClassFile.FieldType.array Jvm.ClassFile.FieldType.int))) ∈ sp_wa := sp_in (i := 265) (by decide +kernel) (by decide +kernel)
theorem kw_266 : (Jvm.Cond.methodLink "EventSpans" (165 : Nat) ({ cls := "java/util/Arrays", name := "copyOf", desc := "([II)[I" } : Jvm.MethodName)) ∈ sp_wa := sp_in (i := 266) (by decide +kernel) (by decide +kernel)
theorem kw_267 : (Jvm.Cond.static ({ cls := "java/util/Arrays", name := "copyOf", desc := "([II)[I" } : Jvm.MethodName)) ∈ sp_wa := sp_in (i := 267) (by decide +kernel) (by decide +kernel)
theorem kw_268 : (Jvm.Cond.code ({ cls := "java/util/Arrays", name := "copyOf", desc := "([II)[I" } : Jvm.MethodName) prog_15_method_123_code (3 : Nat) (Option.some (Jvm.ClassFile.FieldType.array Jvm.ClassFile.FieldType.int))) ∈ sp_wa := sp_in (i := 268) (by decide +kernel) (by decide +kernel)
theorem kw_280 : (Jvm.Cond.methodLink "EventSpans" (74 : Nat) ({ cls := "EventSpans", name := "seenFrom", desc := "([I)[I" } : Jvm.MethodName)) ∈ sp_wa := sp_in (i := 280) (by decide +kernel) (by decide +kernel)
theorem kw_282 : (Jvm.Cond.instanceMethod ({ cls := "EventSpans", name := "seenFrom", desc := "([I)[I" } : Jvm.MethodName)) ∈ sp_wa := sp_in (i := 282) (by decide +kernel) (by decide +kernel)
theorem kw_283 : (Jvm.Cond.code ({ cls := "EventSpans", name := "seenFrom", desc := "([I)[I" } : Jvm.MethodName) prog_1_method_23_code (9 : Nat) (Option.some (Jvm.ClassFile.FieldType.array Jvm.ClassFile.FieldType.int))) ∈ sp_wa := sp_in (i := 283) (by decide +kernel) (by decide +kernel)
theorem kw_284 : (Jvm.Cond.methodLink "EventSpans" (100 : Nat) ({ cls := "EventSpans", name := "spanOf", desc := "(I)LEventSpans$Span;" } : Jvm.MethodName)) ∈ sp_wa := sp_in (i := 284) (by decide +kernel) (by decide +kernel)
theorem kw_286 : (Jvm.Cond.instanceMethod ({ cls := "EventSpans", name := "spanOf", desc := "(I)LEventSpans$Span;" } : Jvm.MethodName)) ∈ sp_wa := sp_in (i := 286) (by decide +kernel) (by decide +kernel)
theorem kw_287 : (Jvm.Cond.code ({ cls := "EventSpans", name := "spanOf", desc := "(I)LEventSpans$Span;" } : Jvm.MethodName) prog_1_method_17_code (2 : Nat) (Option.some (Jvm.ClassFile.FieldType.object "EventSpans$Span"))) ∈ sp_wa := sp_in (i := 287) (by decide +kernel) (by decide +kernel)
theorem kw_288 : (Jvm.Cond.methodLink "EventSpans" (128 : Nat) ({ cls := "EventSpans$Span", name := "seenAt", desc := "(II)I" } : Jvm.MethodName)) ∈ sp_wa := sp_in (i := 288) (by decide +kernel) (by decide +kernel)
theorem kw_289 : (Jvm.Cond.instanceMethod ({ cls := "EventSpans$Span", name := "seenAt", desc := "(II)I" } : Jvm.MethodName)) ∈ sp_wa := sp_in (i := 289) (by decide +kernel) (by decide +kernel)
theorem kw_290 : (Jvm.Cond.selects "EventSpans$Span" ({ cls := "EventSpans$Span", name := "seenAt", desc := "(II)I" } : Jvm.MethodName) ({ cls := "EventSpans$Span", name := "seenAt", desc := "(II)I" } : Jvm.MethodName)) ∈ sp_wa := sp_in (i := 290) (by decide +kernel) (by decide +kernel)
theorem kw_291 : (Jvm.Cond.code ({ cls := "EventSpans$Span", name := "seenAt", desc := "(II)I" } : Jvm.MethodName) prog_3_method_6_code (3 : Nat) (Option.some Jvm.ClassFile.FieldType.int)) ∈ sp_wa := sp_in (i := 291) (by decide +kernel) (by decide +kernel)
theorem kw_292 : (Jvm.Cond.methodLink "EventSpans" (78 : Nat) ({ cls := "EventSpans", name := "holdsAncestor", desc := "([I)Z" } : Jvm.MethodName)) ∈ sp_wa := sp_in (i := 292) (by decide +kernel) (by decide +kernel)
theorem kw_294 : (Jvm.Cond.instanceMethod ({ cls := "EventSpans", name := "holdsAncestor", desc := "([I)Z" } : Jvm.MethodName)) ∈ sp_wa := sp_in (i := 294) (by decide +kernel) (by decide +kernel)
theorem kw_295 : (Jvm.Cond.code ({ cls := "EventSpans", name := "holdsAncestor", desc := "([I)Z" } : Jvm.MethodName) prog_1_method_24_code (10 : Nat) (Option.some Jvm.ClassFile.FieldType.boolean)) ∈ sp_wa := sp_in (i := 295) (by decide +kernel) (by decide +kernel)
theorem kw_296 : (Jvm.Cond.methodLink "EventSpans" (124 : Nat) ({ cls := "EventSpans", name := "isAncestor", desc := "(II)Z" } : Jvm.MethodName)) ∈ sp_wa := sp_in (i := 296) (by decide +kernel) (by decide +kernel)
theorem kw_298 : (Jvm.Cond.instanceMethod ({ cls := "EventSpans", name := "isAncestor", desc := "(II)Z" } : Jvm.MethodName)) ∈ sp_wa := sp_in (i := 298) (by decide +kernel) (by decide +kernel)
theorem kw_299 : (Jvm.Cond.code ({ cls := "EventSpans", name := "isAncestor", desc := "(II)Z" } : Jvm.MethodName) prog_1_method_19_code (5 : Nat) (Option.some Jvm.ClassFile.FieldType.boolean)) ∈ sp_wa := sp_in (i := 299) (by decide +kernel) (by decide +kernel)
theorem kw_300 : (Jvm.Cond.methodLink "EventSpans" (111 : Nat) ({ cls := "EventSpans$Span", name := "numberAt", desc := "(I)I" } : Jvm.MethodName)) ∈ sp_wa := sp_in (i := 300) (by decide +kernel) (by decide +kernel)
theorem kw_301 : (Jvm.Cond.methodLink "EventSpans" (88 : Nat) ({ cls := "EventSpans", name := "endHeads", desc := "([I)V" } : Jvm.MethodName)) ∈ sp_wa := sp_in (i := 301) (by decide +kernel) (by decide +kernel)
theorem kw_303 : (Jvm.Cond.instanceMethod ({ cls := "EventSpans", name := "endHeads", desc := "([I)V" } : Jvm.MethodName)) ∈ sp_wa := sp_in (i := 303) (by decide +kernel) (by decide +kernel)
theorem kw_304 : (Jvm.Cond.code ({ cls := "EventSpans", name := "endHeads", desc := "([I)V" } : Jvm.MethodName) prog_1_method_25_code (7 : Nat) (Option.none : Option Jvm.ClassFile.FieldType)) ∈ sp_wa := sp_in (i := 304) (by decide +kernel) (by decide +kernel)
theorem kw_305 : (Jvm.Cond.methodLink "EventSpans" (92 : Nat) ({ cls := "EventSpans", name := "newAgent", desc := "(I)LEventSpans$Agent;" } : Jvm.MethodName)) ∈ sp_wa := sp_in (i := 305) (by decide +kernel) (by decide +kernel)
theorem kw_307 : (Jvm.Cond.instanceMethod ({ cls := "EventSpans", name := "newAgent", desc := "(I)LEventSpans$Agent;" } : Jvm.MethodName)) ∈ sp_wa := sp_in (i := 307) (by decide +kernel) (by decide +kernel)
theorem kw_308 : (Jvm.Cond.code ({ cls := "EventSpans", name := "newAgent", desc := "(I)LEventSpans$Agent;" } : Jvm.MethodName) prog_1_method_26_code (3 : Nat) (Option.some (Jvm.ClassFile.FieldType.object "EventSpans$Agent"))) ∈ sp_wa := sp_in (i := 308) (by decide +kernel) (by decide +kernel)
theorem kw_309 : (Jvm.Cond.instantiable "EventSpans$Agent" (6 : Nat)) ∈ sp_wa := sp_in (i := 309) (by decide +kernel) (by decide +kernel)
theorem kw_310 : (Jvm.Cond.methodLink "EventSpans" (171 : Nat) ({ cls := "EventSpans$Agent", name := "<init>", desc := "(II)V" } : Jvm.MethodName)) ∈ sp_wa := sp_in (i := 310) (by decide +kernel) (by decide +kernel)
theorem kw_311 : (Jvm.Cond.instanceMethod ({ cls := "EventSpans$Agent", name := "<init>", desc := "(II)V" } : Jvm.MethodName)) ∈ sp_wa := sp_in (i := 311) (by decide +kernel) (by decide +kernel)
theorem kw_312 : (Jvm.Cond.code ({ cls := "EventSpans$Agent", name := "<init>", desc := "(II)V" } : Jvm.MethodName) prog_2_method_1_code (3 : Nat) (Option.none : Option Jvm.ClassFile.FieldType)) ∈ sp_wa := sp_in (i := 312) (by decide +kernel) (by decide +kernel)
theorem kw_313 : (Jvm.Cond.methodLink "EventSpans$Agent" (1 : Nat) ({ cls := "java/lang/Object", name := "<init>", desc := "()V" } : Jvm.MethodName)) ∈ sp_wa := sp_in (i := 313) (by decide +kernel) (by decide +kernel)
theorem kw_314 : (Jvm.Cond.fieldLink "EventSpans$Agent" (24 : Nat) "EventSpans$Agent" "name" "I") ∈ sp_wa := sp_in (i := 314) (by decide +kernel) (by decide +kernel)
theorem kw_315 : (Jvm.Cond.fieldLink "EventSpans" (108 : Nat) "EventSpans$Agent" "name" "I") ∈ sp_wa := sp_in (i := 315) (by decide +kernel) (by decide +kernel)
theorem kw_316 : (Jvm.Cond.fieldLink "EventSpans$Agent" (27 : Nat) "EventSpans$Agent" "slot" "I") ∈ sp_wa := sp_in (i := 316) (by decide +kernel) (by decide +kernel)
theorem kw_317 : (Jvm.Cond.fieldLink "EventSpans" (82 : Nat) "EventSpans$Agent" "slot" "I") ∈ sp_wa := sp_in (i := 317) (by decide +kernel) (by decide +kernel)
theorem kw_318 : (Jvm.Cond.fieldLink "EventSpans$Span" (57 : Nat) "EventSpans$Agent" "slot" "I") ∈ sp_wa := sp_in (i := 318) (by decide +kernel) (by decide +kernel)
theorem kw_319 : (Jvm.Cond.fieldLink "EventSpans$Agent" (7 : Nat) "EventSpans$Agent" "count" "I") ∈ sp_wa := sp_in (i := 319) (by decide +kernel) (by decide +kernel)
theorem kw_320 : (Jvm.Cond.fieldLink "EventSpans$Span" (20 : Nat) "EventSpans$Agent" "count" "I") ∈ sp_wa := sp_in (i := 320) (by decide +kernel) (by decide +kernel)
theorem kw_321 : (Jvm.Cond.fieldLink "EventSpans" (85 : Nat) "EventSpans$Agent" "count" "I") ∈ sp_wa := sp_in (i := 321) (by decide +kernel) (by decide +kernel)
theorem kw_322 : (Jvm.Cond.fieldLink "EventSpans$Agent" (13 : Nat) "EventSpans$Agent" "latestPlace" "I") ∈ sp_wa := sp_in (i := 322) (by decide +kernel) (by decide +kernel)
theorem kw_323 : (Jvm.Cond.fieldLink "EventSpans" (61 : Nat) "EventSpans$Agent" "latestPlace" "I") ∈ sp_wa := sp_in (i := 323) (by decide +kernel) (by decide +kernel)
theorem kw_324 : (Jvm.Cond.fieldLink "EventSpans$Agent" (16 : Nat) "EventSpans$Agent" "isHead" "Z") ∈ sp_wa := sp_in (i := 324) (by decide +kernel) (by decide +kernel)
theorem kw_325 : (Jvm.Cond.fieldLink "EventSpans" (57 : Nat) "EventSpans$Agent" "isHead" "Z") ∈ sp_wa := sp_in (i := 325) (by decide +kernel) (by decide +kernel)
theorem kw_326 : (Jvm.Cond.fieldLink "EventSpans$Agent" (20 : Nat) "EventSpans$Agent" "newestSpan" "LEventSpans$Span;") ∈ sp_wa := sp_in (i := 326) (by decide +kernel) (by decide +kernel)
theorem kw_327 : (Jvm.Cond.fieldLink "EventSpans$Span" (47 : Nat) "EventSpans$Agent" "newestSpan" "LEventSpans$Span;") ∈ sp_wa := sp_in (i := 327) (by decide +kernel) (by decide +kernel)
theorem kw_328 : (Jvm.Cond.fieldLink "EventSpans" (158 : Nat) "EventSpans$Agent" "newestSpan" "LEventSpans$Span;") ∈ sp_wa := sp_in (i := 328) (by decide +kernel) (by decide +kernel)
theorem kw_342 : (Jvm.Cond.methodLink "EventSpans" (96 : Nat) ({ cls := "EventSpans", name := "append", desc := "(LEventSpans$Agent;I[I[I)V" } : Jvm.MethodName)) ∈ sp_wa := sp_in (i := 342) (by decide +kernel) (by decide +kernel)
theorem kw_344 : (Jvm.Cond.instanceMethod ({ cls := "EventSpans", name := "append", desc := "(LEventSpans$Agent;I[I[I)V" } : Jvm.MethodName)) ∈ sp_wa := sp_in (i := 344) (by decide +kernel) (by decide +kernel)
theorem kw_345 : (Jvm.Cond.code ({ cls := "EventSpans", name := "append", desc := "(LEventSpans$Agent;I[I[I)V" } : Jvm.MethodName) prog_1_method_27_code (7 : Nat) (Option.none : Option Jvm.ClassFile.FieldType)) ∈ sp_wa := sp_in (i := 345) (by decide +kernel) (by decide +kernel)
theorem kw_346 : (Jvm.Cond.instantiable "EventSpans$Span" (9 : Nat)) ∈ sp_wa := sp_in (i := 346) (by decide +kernel) (by decide +kernel)
theorem kw_347 : (Jvm.Cond.methodLink "EventSpans" (174 : Nat) ({ cls := "EventSpans$Span", name := "<init>", desc := "(LEventSpans$Agent;II[I[ILEventSpans$Span;)V" } : Jvm.MethodName)) ∈ sp_wa := sp_in (i := 347) (by decide +kernel) (by decide +kernel)
theorem kw_348 : (Jvm.Cond.instanceMethod ({ cls := "EventSpans$Span", name := "<init>", desc := "(LEventSpans$Agent;II[I[ILEventSpans$Span;)V" } : Jvm.MethodName)) ∈ sp_wa := sp_in (i := 348) (by decide +kernel) (by decide +kernel)
theorem kw_349 : (Jvm.Cond.code ({ cls := "EventSpans$Span", name := "<init>", desc := "(LEventSpans$Agent;II[I[ILEventSpans$Span;)V" } : Jvm.MethodName) prog_3_method_1_code (7 : Nat) (Option.none : Option Jvm.ClassFile.FieldType)) ∈ sp_wa := sp_in (i := 349) (by decide +kernel) (by decide +kernel)
theorem kw_350 : (Jvm.Cond.methodLink "EventSpans$Span" (1 : Nat) ({ cls := "java/lang/Object", name := "<init>", desc := "()V" } : Jvm.MethodName)) ∈ sp_wa := sp_in (i := 350) (by decide +kernel) (by decide +kernel)
theorem kw_351 : (Jvm.Cond.methodLink "EventSpans$Span" (35 : Nat) ({ cls := "EventSpans$Span", name := "sum", desc := "([I)I" } : Jvm.MethodName)) ∈ sp_wa := sp_in (i := 351) (by decide +kernel) (by decide +kernel)
theorem kw_352 : (Jvm.Cond.static ({ cls := "EventSpans$Span", name := "sum", desc := "([I)I" } : Jvm.MethodName)) ∈ sp_wa := sp_in (i := 352) (by decide +kernel) (by decide +kernel)
theorem kw_353 : (Jvm.Cond.code ({ cls := "EventSpans$Span", name := "sum", desc := "([I)I" } : Jvm.MethodName) prog_3_method_2_code (6 : Nat) (Option.some Jvm.ClassFile.FieldType.int)) ∈ sp_wa := sp_in (i := 353) (by decide +kernel) (by decide +kernel)
theorem kw_354 : (Jvm.Cond.fieldLink "EventSpans$Span" (7 : Nat) "EventSpans$Span" "agent" "LEventSpans$Agent;") ∈ sp_wa := sp_in (i := 354) (by decide +kernel) (by decide +kernel)
theorem kw_355 : (Jvm.Cond.fieldLink "EventSpans" (104 : Nat) "EventSpans$Span" "agent" "LEventSpans$Agent;") ∈ sp_wa := sp_in (i := 355) (by decide +kernel) (by decide +kernel)
theorem kw_356 : (Jvm.Cond.fieldLink "EventSpans$Span" (13 : Nat) "EventSpans$Span" "first" "I") ∈ sp_wa := sp_in (i := 356) (by decide +kernel) (by decide +kernel)
theorem kw_357 : (Jvm.Cond.fieldLink "EventSpans" (115 : Nat) "EventSpans$Span" "first" "I") ∈ sp_wa := sp_in (i := 357) (by decide +kernel) (by decide +kernel)
theorem kw_358 : (Jvm.Cond.fieldLink "EventSpans$Span" (17 : Nat) "EventSpans$Span" "last" "I") ∈ sp_wa := sp_in (i := 358) (by decide +kernel) (by decide +kernel)
theorem kw_359 : (Jvm.Cond.fieldLink "EventSpans" (142 : Nat) "EventSpans$Span" "last" "I") ∈ sp_wa := sp_in (i := 359) (by decide +kernel) (by decide +kernel)
theorem kw_360 : (Jvm.Cond.fieldLink "EventSpans$Span" (25 : Nat) "EventSpans$Span" "firstNumber" "I") ∈ sp_wa := sp_in (i := 360) (by decide +kernel) (by decide +kernel)
theorem kw_361 : (Jvm.Cond.fieldLink "EventSpans$Span" (28 : Nat) "EventSpans$Span" "parents" "[I") ∈ sp_wa := sp_in (i := 361) (by decide +kernel) (by decide +kernel)
theorem kw_362 : (Jvm.Cond.fieldLink "EventSpans" (118 : Nat) "EventSpans$Span" "parents" "[I") ∈ sp_wa := sp_in (i := 362) (by decide +kernel) (by decide +kernel)
theorem kw_363 : (Jvm.Cond.fieldLink "EventSpans$Span" (32 : Nat) "EventSpans$Span" "seen" "[I") ∈ sp_wa := sp_in (i := 363) (by decide +kernel) (by decide +kernel)
theorem kw_364 : (Jvm.Cond.fieldLink "EventSpans$Span" (39 : Nat) "EventSpans$Span" "seesAllBefore" "Z") ∈ sp_wa := sp_in (i := 364) (by decide +kernel) (by decide +kernel)
theorem kw_365 : (Jvm.Cond.fieldLink "EventSpans" (151 : Nat) "EventSpans$Span" "seesAllBefore" "Z") ∈ sp_wa := sp_in (i := 365) (by decide +kernel) (by decide +kernel)
theorem kw_366 : (Jvm.Cond.fieldLink "EventSpans$Span" (43 : Nat) "EventSpans$Span" "before" "LEventSpans$Span;") ∈ sp_wa := sp_in (i := 366) (by decide +kernel) (by decide +kernel)
theorem kw_367 : (Jvm.Cond.fieldLink "EventSpans" (148 : Nat) "EventSpans$Span" "before" "LEventSpans$Span;") ∈ sp_wa := sp_in (i := 367) (by decide +kernel) (by decide +kernel)
theorem kw_368 : (Jvm.Cond.fieldLink "EventSpans$Span" (50 : Nat) "EventSpans$Span" "beforeOfAgent" "LEventSpans$Span;") ∈ sp_wa := sp_in (i := 368) (by decide +kernel) (by decide +kernel)
theorem kw_369 : (Jvm.Cond.fieldLink "EventSpans" (162 : Nat) "EventSpans$Span" "beforeOfAgent" "LEventSpans$Span;") ∈ sp_wa := sp_in (i := 369) (by decide +kernel) (by decide +kernel)
theorem kw_392 : (Jvm.Cond.methodLink "EventSpansLaw" (24 : Nat) ({ cls := "EventSpans", name := "events", desc := "(I)I" } : Jvm.MethodName)) ∈ sp_wa := sp_in (i := 392) (by decide +kernel) (by decide +kernel)
theorem kw_393 : (Jvm.Cond.instanceMethod ({ cls := "EventSpans", name := "events", desc := "(I)I" } : Jvm.MethodName)) ∈ sp_wa := sp_in (i := 393) (by decide +kernel) (by decide +kernel)
theorem kw_394 : (Jvm.Cond.selects "EventSpans" ({ cls := "EventSpans", name := "events", desc := "(I)I" } : Jvm.MethodName) ({ cls := "EventSpans", name := "events", desc := "(I)I" } : Jvm.MethodName)) ∈ sp_wa := sp_in (i := 394) (by decide +kernel) (by decide +kernel)
theorem kw_395 : (Jvm.Cond.code ({ cls := "EventSpans", name := "events", desc := "(I)I" } : Jvm.MethodName) prog_1_method_5_code (2 : Nat) (Option.some Jvm.ClassFile.FieldType.int)) ∈ sp_wa := sp_in (i := 395) (by decide +kernel) (by decide +kernel)
theorem kw_399 : (Jvm.Cond.methodLink "EventSpansLaw" (28 : Nat) ({ cls := "EventSpans", name := "place", desc := "(II)I" } : Jvm.MethodName)) ∈ sp_wa := sp_in (i := 399) (by decide +kernel) (by decide +kernel)
theorem kw_400 : (Jvm.Cond.instanceMethod ({ cls := "EventSpans", name := "place", desc := "(II)I" } : Jvm.MethodName)) ∈ sp_wa := sp_in (i := 400) (by decide +kernel) (by decide +kernel)
theorem kw_401 : (Jvm.Cond.selects "EventSpans" ({ cls := "EventSpans", name := "place", desc := "(II)I" } : Jvm.MethodName) ({ cls := "EventSpans", name := "place", desc := "(II)I" } : Jvm.MethodName)) ∈ sp_wa := sp_in (i := 401) (by decide +kernel) (by decide +kernel)
theorem kw_402 : (Jvm.Cond.code ({ cls := "EventSpans", name := "place", desc := "(II)I" } : Jvm.MethodName) prog_1_method_6_code (3 : Nat) (Option.some Jvm.ClassFile.FieldType.int)) ∈ sp_wa := sp_in (i := 402) (by decide +kernel) (by decide +kernel)
theorem kw_406 : (Jvm.Cond.methodLink "EventSpansLaw" (31 : Nat) ({ cls := "EventSpans", name := "id", desc := "(I)J" } : Jvm.MethodName)) ∈ sp_wa := sp_in (i := 406) (by decide +kernel) (by decide +kernel)
theorem kw_407 : (Jvm.Cond.instanceMethod ({ cls := "EventSpans", name := "id", desc := "(I)J" } : Jvm.MethodName)) ∈ sp_wa := sp_in (i := 407) (by decide +kernel) (by decide +kernel)
theorem kw_408 : (Jvm.Cond.selects "EventSpans" ({ cls := "EventSpans", name := "id", desc := "(I)J" } : Jvm.MethodName) ({ cls := "EventSpans", name := "id", desc := "(I)J" } : Jvm.MethodName)) ∈ sp_wa := sp_in (i := 408) (by decide +kernel) (by decide +kernel)
theorem kw_409 : (Jvm.Cond.code ({ cls := "EventSpans", name := "id", desc := "(I)J" } : Jvm.MethodName) prog_1_method_7_code (3 : Nat) (Option.some Jvm.ClassFile.FieldType.long)) ∈ sp_wa := sp_in (i := 409) (by decide +kernel) (by decide +kernel)
theorem kw_413 : (Jvm.Cond.methodLink "EventSpansLaw" (35 : Nat) ({ cls := "EventSpans", name := "parentOf", desc := "(II)I" } : Jvm.MethodName)) ∈ sp_wa := sp_in (i := 413) (by decide +kernel) (by decide +kernel)
theorem kw_414 : (Jvm.Cond.instanceMethod ({ cls := "EventSpans", name := "parentOf", desc := "(II)I" } : Jvm.MethodName)) ∈ sp_wa := sp_in (i := 414) (by decide +kernel) (by decide +kernel)
theorem kw_415 : (Jvm.Cond.selects "EventSpans" ({ cls := "EventSpans", name := "parentOf", desc := "(II)I" } : Jvm.MethodName) ({ cls := "EventSpans", name := "parentOf", desc := "(II)I" } : Jvm.MethodName)) ∈ sp_wa := sp_in (i := 415) (by decide +kernel) (by decide +kernel)
theorem kw_416 : (Jvm.Cond.code ({ cls := "EventSpans", name := "parentOf", desc := "(II)I" } : Jvm.MethodName) prog_1_method_8_code (6 : Nat) (Option.some Jvm.ClassFile.FieldType.int)) ∈ sp_wa := sp_in (i := 416) (by decide +kernel) (by decide +kernel)
theorem kw_420 : (Jvm.Cond.methodLink "EventSpansLaw" (38 : Nat) ({ cls := "EventSpans", name := "related", desc := "(II)I" } : Jvm.MethodName)) ∈ sp_wa := sp_in (i := 420) (by decide +kernel) (by decide +kernel)
theorem kw_421 : (Jvm.Cond.instanceMethod ({ cls := "EventSpans", name := "related", desc := "(II)I" } : Jvm.MethodName)) ∈ sp_wa := sp_in (i := 421) (by decide +kernel) (by decide +kernel)
theorem kw_422 : (Jvm.Cond.selects "EventSpans" ({ cls := "EventSpans", name := "related", desc := "(II)I" } : Jvm.MethodName) ({ cls := "EventSpans", name := "related", desc := "(II)I" } : Jvm.MethodName)) ∈ sp_wa := sp_in (i := 422) (by decide +kernel) (by decide +kernel)
theorem kw_423 : (Jvm.Cond.code ({ cls := "EventSpans", name := "related", desc := "(II)I" } : Jvm.MethodName) prog_1_method_9_code (3 : Nat) (Option.some Jvm.ClassFile.FieldType.int)) ∈ sp_wa := sp_in (i := 423) (by decide +kernel) (by decide +kernel)
theorem kw_427 : (Jvm.Cond.methodLink "EventSpansLaw" (41 : Nat) ({ cls := "EventSpans", name := "apart", desc := "(II)I" } : Jvm.MethodName)) ∈ sp_wa := sp_in (i := 427) (by decide +kernel) (by decide +kernel)
theorem kw_428 : (Jvm.Cond.instanceMethod ({ cls := "EventSpans", name := "apart", desc := "(II)I" } : Jvm.MethodName)) ∈ sp_wa := sp_in (i := 428) (by decide +kernel) (by decide +kernel)
theorem kw_429 : (Jvm.Cond.selects "EventSpans" ({ cls := "EventSpans", name := "apart", desc := "(II)I" } : Jvm.MethodName) ({ cls := "EventSpans", name := "apart", desc := "(II)I" } : Jvm.MethodName)) ∈ sp_wa := sp_in (i := 429) (by decide +kernel) (by decide +kernel)
theorem kw_430 : (Jvm.Cond.code ({ cls := "EventSpans", name := "apart", desc := "(II)I" } : Jvm.MethodName) prog_1_method_10_code (7 : Nat) (Option.some Jvm.ClassFile.FieldType.int)) ∈ sp_wa := sp_in (i := 430) (by decide +kernel) (by decide +kernel)
theorem kw_434 : (Jvm.Cond.methodLink "EventSpansLaw" (44 : Nat) ({ cls := "EventSpans", name := "latest", desc := "(III)I" } : Jvm.MethodName)) ∈ sp_wa := sp_in (i := 434) (by decide +kernel) (by decide +kernel)
theorem kw_435 : (Jvm.Cond.instanceMethod ({ cls := "EventSpans", name := "latest", desc := "(III)I" } : Jvm.MethodName)) ∈ sp_wa := sp_in (i := 435) (by decide +kernel) (by decide +kernel)
theorem kw_436 : (Jvm.Cond.selects "EventSpans" ({ cls := "EventSpans", name := "latest", desc := "(III)I" } : Jvm.MethodName) ({ cls := "EventSpans", name := "latest", desc := "(III)I" } : Jvm.MethodName)) ∈ sp_wa := sp_in (i := 436) (by decide +kernel) (by decide +kernel)
theorem kw_437 : (Jvm.Cond.code ({ cls := "EventSpans", name := "latest", desc := "(III)I" } : Jvm.MethodName) prog_1_method_11_code (12 : Nat) (Option.some Jvm.ClassFile.FieldType.int)) ∈ sp_wa := sp_in (i := 437) (by decide +kernel) (by decide +kernel)
theorem kw_441 : (Jvm.Cond.methodLink "EventSpansLaw" (48 : Nat) ({ cls := "EventSpans", name := "head", desc := "(I)I" } : Jvm.MethodName)) ∈ sp_wa := sp_in (i := 441) (by decide +kernel) (by decide +kernel)
theorem kw_442 : (Jvm.Cond.instanceMethod ({ cls := "EventSpans", name := "head", desc := "(I)I" } : Jvm.MethodName)) ∈ sp_wa := sp_in (i := 442) (by decide +kernel) (by decide +kernel)
theorem kw_443 : (Jvm.Cond.selects "EventSpans" ({ cls := "EventSpans", name := "head", desc := "(I)I" } : Jvm.MethodName) ({ cls := "EventSpans", name := "head", desc := "(I)I" } : Jvm.MethodName)) ∈ sp_wa := sp_in (i := 443) (by decide +kernel) (by decide +kernel)
theorem kw_444 : (Jvm.Cond.code ({ cls := "EventSpans", name := "head", desc := "(I)I" } : Jvm.MethodName) prog_1_method_12_code (7 : Nat) (Option.some Jvm.ClassFile.FieldType.int)) ∈ sp_wa := sp_in (i := 444) (by decide +kernel) (by decide +kernel)
theorem kw_454 : (Jvm.Cond.fieldLink "EventSpansModel" (9 : Nat) "EventSpansModel" "agents" "[I") ∈ sp_wa := sp_in (i := 454) (by decide +kernel) (by decide +kernel)
theorem kw_455 : (Jvm.Cond.fieldLink "EventSpansModel" (13 : Nat) "EventSpansModel" "counts" "[I") ∈ sp_wa := sp_in (i := 455) (by decide +kernel) (by decide +kernel)
theorem kw_456 : (Jvm.Cond.fieldLink "EventSpansModel" (47 : Nat) "EventSpansModel" "agentMany" "I") ∈ sp_wa := sp_in (i := 456) (by decide +kernel) (by decide +kernel)
theorem kw_457 : (Jvm.Cond.fieldLink "EventSpansModel" (18 : Nat) "EventSpansModel" "at" "[[I") ∈ sp_wa := sp_in (i := 457) (by decide +kernel) (by decide +kernel)
theorem kw_458 : (Jvm.Cond.fieldLink "EventSpansModel" (21 : Nat) "EventSpansModel" "slot" "[S") ∈ sp_wa := sp_in (i := 458) (by decide +kernel) (by decide +kernel)
theorem kw_459 : (Jvm.Cond.fieldLink "EventSpansModel" (25 : Nat) "EventSpansModel" "number" "[S") ∈ sp_wa := sp_in (i := 459) (by decide +kernel) (by decide +kernel)
theorem kw_460 : (Jvm.Cond.fieldLink "EventSpansModel" (28 : Nat) "EventSpansModel" "parentMany" "[S") ∈ sp_wa := sp_in (i := 460) (by decide +kernel) (by decide +kernel)
theorem kw_461 : (Jvm.Cond.fieldLink "EventSpansModel" (32 : Nat) "EventSpansModel" "parents" "[S") ∈ sp_wa := sp_in (i := 461) (by decide +kernel) (by decide +kernel)
theorem kw_462 : (Jvm.Cond.fieldLink "EventSpansModel" (35 : Nat) "EventSpansModel" "past" "[S") ∈ sp_wa := sp_in (i := 462) (by decide +kernel) (by decide +kernel)
theorem kw_463 : (Jvm.Cond.fieldLink "EventSpansModel" (55 : Nat) "EventSpansModel" "events" "I") ∈ sp_wa := sp_in (i := 463) (by decide +kernel) (by decide +kernel)
theorem kw_464 : (Jvm.Cond.fieldLink "EventSpansModel" (38 : Nat) "EventSpansModel" "list" "[I") ∈ sp_wa := sp_in (i := 464) (by decide +kernel) (by decide +kernel)
theorem kw_465 : (Jvm.Cond.fieldLink "EventSpansModel" (66 : Nat) "EventSpansModel" "listed" "I") ∈ sp_wa := sp_in (i := 465) (by decide +kernel) (by decide +kernel)
theorem kw_466 : (Jvm.Cond.fieldLink "EventSpansModel" (41 : Nat) "EventSpansModel" "all" "[I") ∈ sp_wa := sp_in (i := 466) (by decide +kernel) (by decide +kernel)
theorem kw_467 : (Jvm.Cond.fieldLink "EventSpansModel" (113 : Nat) "EventSpansModel" "thrown" "I") ∈ sp_wa := sp_in (i := 467) (by decide +kernel) (by decide +kernel)
theorem kw_506 : (Jvm.Cond.classLink "EventSpansModel" (44 : Nat) "java/util/NoSuchElementException") ∈ sp_wa := sp_in (i := 506) (by decide +kernel) (by decide +kernel)
theorem kw_507 : (Jvm.Cond.classLink "EventSpansModel" (69 : Nat) "java/lang/UnsupportedOperationException") ∈ sp_wa := sp_in (i := 507) (by decide +kernel) (by decide +kernel)
theorem kw_508 : (Jvm.Cond.classLink "EventSpansModel" (72 : Nat) "java/lang/IllegalStateException") ∈ sp_wa := sp_in (i := 508) (by decide +kernel) (by decide +kernel)
theorem kw_509 : (Jvm.Cond.methodLink "EventSpansModel" (116 : Nat) ({ cls := "EventSpansModel", name := "parent0", desc := "(II)I" } : Jvm.MethodName)) ∈ sp_wa := sp_in (i := 509) (by decide +kernel) (by decide +kernel)
theorem kw_511 : (Jvm.Cond.instanceMethod ({ cls := "EventSpansModel", name := "parent0", desc := "(II)I" } : Jvm.MethodName)) ∈ sp_wa := sp_in (i := 511) (by decide +kernel) (by decide +kernel)
theorem kw_512 : (Jvm.Cond.code ({ cls := "EventSpansModel", name := "parent0", desc := "(II)I" } : Jvm.MethodName) prog_5_method_7_code (5 : Nat) (Option.some Jvm.ClassFile.FieldType.int)) ∈ sp_wa := sp_in (i := 512) (by decide +kernel) (by decide +kernel)
theorem kw_513 : (Jvm.Cond.methodLink "EventSpansModel" (58 : Nat) ({ cls := "EventSpansModel", name := "find", desc := "(II)I" } : Jvm.MethodName)) ∈ sp_wa := sp_in (i := 513) (by decide +kernel) (by decide +kernel)
theorem kw_515 : (Jvm.Cond.instanceMethod ({ cls := "EventSpansModel", name := "find", desc := "(II)I" } : Jvm.MethodName)) ∈ sp_wa := sp_in (i := 515) (by decide +kernel) (by decide +kernel)
theorem kw_516 : (Jvm.Cond.code ({ cls := "EventSpansModel", name := "find", desc := "(II)I" } : Jvm.MethodName) prog_5_method_4_code (4 : Nat) (Option.some Jvm.ClassFile.FieldType.int)) ∈ sp_wa := sp_in (i := 516) (by decide +kernel) (by decide +kernel)
theorem kw_517 : (Jvm.Cond.methodLink "EventSpansModel" (51 : Nat) ({ cls := "EventSpansModel", name := "slotOf", desc := "(I)I" } : Jvm.MethodName)) ∈ sp_wa := sp_in (i := 517) (by decide +kernel) (by decide +kernel)
theorem kw_519 : (Jvm.Cond.instanceMethod ({ cls := "EventSpansModel", name := "slotOf", desc := "(I)I" } : Jvm.MethodName)) ∈ sp_wa := sp_in (i := 519) (by decide +kernel) (by decide +kernel)
theorem kw_520 : (Jvm.Cond.code ({ cls := "EventSpansModel", name := "slotOf", desc := "(I)I" } : Jvm.MethodName) prog_5_method_3_code (3 : Nat) (Option.some Jvm.ClassFile.FieldType.int)) ∈ sp_wa := sp_in (i := 520) (by decide +kernel) (by decide +kernel)
theorem kw_521 : (Jvm.Cond.methodLink "EventSpansModel" (62 : Nat) ({ cls := "EventSpansModel", name := "there", desc := "(Z)V" } : Jvm.MethodName)) ∈ sp_wa := sp_in (i := 521) (by decide +kernel) (by decide +kernel)
theorem kw_522 : (Jvm.Cond.static ({ cls := "EventSpansModel", name := "there", desc := "(Z)V" } : Jvm.MethodName)) ∈ sp_wa := sp_in (i := 522) (by decide +kernel) (by decide +kernel)
theorem kw_523 : (Jvm.Cond.code ({ cls := "EventSpansModel", name := "there", desc := "(Z)V" } : Jvm.MethodName) prog_5_method_2_code (1 : Nat) (Option.none : Option Jvm.ClassFile.FieldType)) ∈ sp_wa := sp_in (i := 523) (by decide +kernel) (by decide +kernel)
theorem kw_531 : (Jvm.Cond.methodLink "EventSpansModel" (119 : Nat) ({ cls := "EventSpansModel", name := "heads0", desc := "()I" } : Jvm.MethodName)) ∈ sp_wa := sp_in (i := 531) (by decide +kernel) (by decide +kernel)
theorem kw_533 : (Jvm.Cond.instanceMethod ({ cls := "EventSpansModel", name := "heads0", desc := "()I" } : Jvm.MethodName)) ∈ sp_wa := sp_in (i := 533) (by decide +kernel) (by decide +kernel)
theorem kw_534 : (Jvm.Cond.code ({ cls := "EventSpansModel", name := "heads0", desc := "()I" } : Jvm.MethodName) prog_5_method_10_code (1 : Nat) (Option.some Jvm.ClassFile.FieldType.int)) ∈ sp_wa := sp_in (i := 534) (by decide +kernel) (by decide +kernel)
theorem kw_535 : (Jvm.Cond.methodLink "EventSpansModel" (83 : Nat) ({ cls := "EventSpansModel", name := "headsTo", desc := "([I)I" } : Jvm.MethodName)) ∈ sp_wa := sp_in (i := 535) (by decide +kernel) (by decide +kernel)
theorem kw_537 : (Jvm.Cond.instanceMethod ({ cls := "EventSpansModel", name := "headsTo", desc := "([I)I" } : Jvm.MethodName)) ∈ sp_wa := sp_in (i := 537) (by decide +kernel) (by decide +kernel)
theorem kw_538 : (Jvm.Cond.code ({ cls := "EventSpansModel", name := "headsTo", desc := "([I)I" } : Jvm.MethodName) prog_5_method_9_code (6 : Nat) (Option.some Jvm.ClassFile.FieldType.int)) ∈ sp_wa := sp_in (i := 538) (by decide +kernel) (by decide +kernel)
theorem kw_539 : (Jvm.Cond.methodLink "EventSpansModel" (79 : Nat) ({ cls := "EventSpansModel", name := "isHead", desc := "(I)Z" } : Jvm.MethodName)) ∈ sp_wa := sp_in (i := 539) (by decide +kernel) (by decide +kernel)
theorem kw_541 : (Jvm.Cond.instanceMethod ({ cls := "EventSpansModel", name := "isHead", desc := "(I)Z" } : Jvm.MethodName)) ∈ sp_wa := sp_in (i := 541) (by decide +kernel) (by decide +kernel)
theorem kw_542 : (Jvm.Cond.code ({ cls := "EventSpansModel", name := "isHead", desc := "(I)Z" } : Jvm.MethodName) prog_5_method_8_code (4 : Nat) (Option.some Jvm.ClassFile.FieldType.boolean)) ∈ sp_wa := sp_in (i := 542) (by decide +kernel) (by decide +kernel)
theorem kw_543 : (Jvm.Cond.methodLink "EventSpansModel" (75 : Nat) ({ cls := "EventSpansModel", name := "isIn", desc := "(II)Z" } : Jvm.MethodName)) ∈ sp_wa := sp_in (i := 543) (by decide +kernel) (by decide +kernel)
theorem kw_545 : (Jvm.Cond.instanceMethod ({ cls := "EventSpansModel", name := "isIn", desc := "(II)Z" } : Jvm.MethodName)) ∈ sp_wa := sp_in (i := 545) (by decide +kernel) (by decide +kernel)
theorem kw_546 : (Jvm.Cond.code ({ cls := "EventSpansModel", name := "isIn", desc := "(II)Z" } : Jvm.MethodName) prog_5_method_5_code (3 : Nat) (Option.some Jvm.ClassFile.FieldType.boolean)) ∈ sp_wa := sp_in (i := 546) (by decide +kernel) (by decide +kernel)
theorem kw_551 : (Jvm.Cond.classLink "EventSpansModel" (87 : Nat) "java/lang/IllegalArgumentException") ∈ sp_wa := sp_in (i := 551) (by decide +kernel) (by decide +kernel)
theorem kw_552 : (Jvm.Cond.methodLink "EventSpansModel" (123 : Nat) ({ cls := "EventSpansModel", name := "add0", desc := "(II)I" } : Jvm.MethodName)) ∈ sp_wa := sp_in (i := 552) (by decide +kernel) (by decide +kernel)
theorem kw_554 : (Jvm.Cond.instanceMethod ({ cls := "EventSpansModel", name := "add0", desc := "(II)I" } : Jvm.MethodName)) ∈ sp_wa := sp_in (i := 554) (by decide +kernel) (by decide +kernel)
theorem kw_555 : (Jvm.Cond.code ({ cls := "EventSpansModel", name := "add0", desc := "(II)I" } : Jvm.MethodName) prog_5_method_11_code (7 : Nat) (Option.some Jvm.ClassFile.FieldType.int)) ∈ sp_wa := sp_in (i := 555) (by decide +kernel) (by decide +kernel)
theorem kw_557 : (Jvm.Cond.methodLink "EventSpansModel" (90 : Nat) ({ cls := "EventSpansModel", name := "come", desc := "(IIZ)V" } : Jvm.MethodName)) ∈ sp_wa := sp_in (i := 557) (by decide +kernel) (by decide +kernel)
theorem kw_559 : (Jvm.Cond.instanceMethod ({ cls := "EventSpansModel", name := "come", desc := "(IIZ)V" } : Jvm.MethodName)) ∈ sp_wa := sp_in (i := 559) (by decide +kernel) (by decide +kernel)
theorem kw_560 : (Jvm.Cond.code ({ cls := "EventSpansModel", name := "come", desc := "(IIZ)V" } : Jvm.MethodName) prog_5_method_12_code (9 : Nat) (Option.none : Option Jvm.ClassFile.FieldType)) ∈ sp_wa := sp_in (i := 560) (by decide +kernel) (by decide +kernel)
theorem kw_561 : (Jvm.Cond.methodLink "EventSpansModel" (94 : Nat) ({ cls := "java/util/Arrays", name := "copyOf", desc := "([II)[I" } : Jvm.MethodName)) ∈ sp_wa := sp_in (i := 561) (by decide +kernel) (by decide +kernel)
theorem kw_566 : (Jvm.Cond.methodLink "EventSpansModel" (126 : Nat) ({ cls := "EventSpansModel", name := "events0", desc := "(I)I" } : Jvm.MethodName)) ∈ sp_wa := sp_in (i := 566) (by decide +kernel) (by decide +kernel)
theorem kw_568 : (Jvm.Cond.instanceMethod ({ cls := "EventSpansModel", name := "events0", desc := "(I)I" } : Jvm.MethodName)) ∈ sp_wa := sp_in (i := 568) (by decide +kernel) (by decide +kernel)
theorem kw_569 : (Jvm.Cond.code ({ cls := "EventSpansModel", name := "events0", desc := "(I)I" } : Jvm.MethodName) prog_5_method_13_code (3 : Nat) (Option.some Jvm.ClassFile.FieldType.int)) ∈ sp_wa := sp_in (i := 569) (by decide +kernel) (by decide +kernel)
theorem kw_574 : (Jvm.Cond.methodLink "EventSpansModel" (129 : Nat) ({ cls := "EventSpansModel", name := "place0", desc := "(II)I" } : Jvm.MethodName)) ∈ sp_wa := sp_in (i := 574) (by decide +kernel) (by decide +kernel)
theorem kw_576 : (Jvm.Cond.instanceMethod ({ cls := "EventSpansModel", name := "place0", desc := "(II)I" } : Jvm.MethodName)) ∈ sp_wa := sp_in (i := 576) (by decide +kernel) (by decide +kernel)
theorem kw_577 : (Jvm.Cond.code ({ cls := "EventSpansModel", name := "place0", desc := "(II)I" } : Jvm.MethodName) prog_5_method_14_code (4 : Nat) (Option.some Jvm.ClassFile.FieldType.int)) ∈ sp_wa := sp_in (i := 577) (by decide +kernel) (by decide +kernel)
theorem kw_582 : (Jvm.Cond.methodLink "EventSpansModel" (132 : Nat) ({ cls := "EventSpansModel", name := "id0", desc := "(I)J" } : Jvm.MethodName)) ∈ sp_wa := sp_in (i := 582) (by decide +kernel) (by decide +kernel)
theorem kw_584 : (Jvm.Cond.instanceMethod ({ cls := "EventSpansModel", name := "id0", desc := "(I)J" } : Jvm.MethodName)) ∈ sp_wa := sp_in (i := 584) (by decide +kernel) (by decide +kernel)
theorem kw_585 : (Jvm.Cond.code ({ cls := "EventSpansModel", name := "id0", desc := "(I)J" } : Jvm.MethodName) prog_5_method_15_code (2 : Nat) (Option.some Jvm.ClassFile.FieldType.long)) ∈ sp_wa := sp_in (i := 585) (by decide +kernel) (by decide +kernel)
theorem kw_586 : (Jvm.Cond.methodLink "EventSpansModel" (100 : Nat) ({ cls := "EventSpansModel", name := "isPlace", desc := "(I)Z" } : Jvm.MethodName)) ∈ sp_wa := sp_in (i := 586) (by decide +kernel) (by decide +kernel)
theorem kw_588 : (Jvm.Cond.instanceMethod ({ cls := "EventSpansModel", name := "isPlace", desc := "(I)Z" } : Jvm.MethodName)) ∈ sp_wa := sp_in (i := 588) (by decide +kernel) (by decide +kernel)
theorem kw_589 : (Jvm.Cond.code ({ cls := "EventSpansModel", name := "isPlace", desc := "(I)Z" } : Jvm.MethodName) prog_5_method_6_code (2 : Nat) (Option.some Jvm.ClassFile.FieldType.boolean)) ∈ sp_wa := sp_in (i := 589) (by decide +kernel) (by decide +kernel)
theorem kw_590 : (Jvm.Cond.constantLong "EventSpansModel" (103 : Nat) (4294967296 : Int64)) ∈ sp_wa := sp_in (i := 590) (by decide +kernel) (by decide +kernel)
theorem kw_595 : (Jvm.Cond.methodLink "EventSpansModel" (136 : Nat) ({ cls := "EventSpansModel", name := "parentOf0", desc := "(II)I" } : Jvm.MethodName)) ∈ sp_wa := sp_in (i := 595) (by decide +kernel) (by decide +kernel)
theorem kw_597 : (Jvm.Cond.instanceMethod ({ cls := "EventSpansModel", name := "parentOf0", desc := "(II)I" } : Jvm.MethodName)) ∈ sp_wa := sp_in (i := 597) (by decide +kernel) (by decide +kernel)
theorem kw_598 : (Jvm.Cond.code ({ cls := "EventSpansModel", name := "parentOf0", desc := "(II)I" } : Jvm.MethodName) prog_5_method_16_code (3 : Nat) (Option.some Jvm.ClassFile.FieldType.int)) ∈ sp_wa := sp_in (i := 598) (by decide +kernel) (by decide +kernel)
theorem kw_603 : (Jvm.Cond.methodLink "EventSpansModel" (139 : Nat) ({ cls := "EventSpansModel", name := "related0", desc := "(II)I" } : Jvm.MethodName)) ∈ sp_wa := sp_in (i := 603) (by decide +kernel) (by decide +kernel)
theorem kw_605 : (Jvm.Cond.instanceMethod ({ cls := "EventSpansModel", name := "related0", desc := "(II)I" } : Jvm.MethodName)) ∈ sp_wa := sp_in (i := 605) (by decide +kernel) (by decide +kernel)
theorem kw_606 : (Jvm.Cond.code ({ cls := "EventSpansModel", name := "related0", desc := "(II)I" } : Jvm.MethodName) prog_5_method_17_code (3 : Nat) (Option.some Jvm.ClassFile.FieldType.int)) ∈ sp_wa := sp_in (i := 606) (by decide +kernel) (by decide +kernel)
theorem kw_611 : (Jvm.Cond.methodLink "EventSpansModel" (142 : Nat) ({ cls := "EventSpansModel", name := "apart0", desc := "(II)I" } : Jvm.MethodName)) ∈ sp_wa := sp_in (i := 611) (by decide +kernel) (by decide +kernel)
theorem kw_613 : (Jvm.Cond.instanceMethod ({ cls := "EventSpansModel", name := "apart0", desc := "(II)I" } : Jvm.MethodName)) ∈ sp_wa := sp_in (i := 613) (by decide +kernel) (by decide +kernel)
theorem kw_614 : (Jvm.Cond.code ({ cls := "EventSpansModel", name := "apart0", desc := "(II)I" } : Jvm.MethodName) prog_5_method_18_code (5 : Nat) (Option.some Jvm.ClassFile.FieldType.int)) ∈ sp_wa := sp_in (i := 614) (by decide +kernel) (by decide +kernel)
theorem kw_619 : (Jvm.Cond.methodLink "EventSpansModel" (145 : Nat) ({ cls := "EventSpansModel", name := "latest0", desc := "(III)I" } : Jvm.MethodName)) ∈ sp_wa := sp_in (i := 619) (by decide +kernel) (by decide +kernel)
theorem kw_621 : (Jvm.Cond.instanceMethod ({ cls := "EventSpansModel", name := "latest0", desc := "(III)I" } : Jvm.MethodName)) ∈ sp_wa := sp_in (i := 621) (by decide +kernel) (by decide +kernel)
theorem kw_622 : (Jvm.Cond.code ({ cls := "EventSpansModel", name := "latest0", desc := "(III)I" } : Jvm.MethodName) prog_5_method_19_code (5 : Nat) (Option.some Jvm.ClassFile.FieldType.int)) ∈ sp_wa := sp_in (i := 622) (by decide +kernel) (by decide +kernel)
theorem kw_623 : (Jvm.Cond.methodLink "EventSpansModel" (105 : Nat) ({ cls := "java/lang/Math", name := "max", desc := "(II)I" } : Jvm.MethodName)) ∈ sp_wa := sp_in (i := 623) (by decide +kernel) (by decide +kernel)
theorem kw_628 : (Jvm.Cond.methodLink "EventSpansModel" (149 : Nat) ({ cls := "EventSpansModel", name := "head0", desc := "(I)I" } : Jvm.MethodName)) ∈ sp_wa := sp_in (i := 628) (by decide +kernel) (by decide +kernel)
theorem kw_630 : (Jvm.Cond.instanceMethod ({ cls := "EventSpansModel", name := "head0", desc := "(I)I" } : Jvm.MethodName)) ∈ sp_wa := sp_in (i := 630) (by decide +kernel) (by decide +kernel)
theorem kw_631 : (Jvm.Cond.code ({ cls := "EventSpansModel", name := "head0", desc := "(I)I" } : Jvm.MethodName) prog_5_method_20_code (3 : Nat) (Option.some Jvm.ClassFile.FieldType.int)) ∈ sp_wa := sp_in (i := 631) (by decide +kernel) (by decide +kernel)
theorem kw_636 : (Jvm.Cond.methodLink "EventSpansModel" (152 : Nat) ({ cls := "EventSpansModel", name := "critical0", desc := "()I" } : Jvm.MethodName)) ∈ sp_wa := sp_in (i := 636) (by decide +kernel) (by decide +kernel)
theorem kw_638 : (Jvm.Cond.instanceMethod ({ cls := "EventSpansModel", name := "critical0", desc := "()I" } : Jvm.MethodName)) ∈ sp_wa := sp_in (i := 638) (by decide +kernel) (by decide +kernel)
theorem kw_639 : (Jvm.Cond.code ({ cls := "EventSpansModel", name := "critical0", desc := "()I" } : Jvm.MethodName) prog_5_method_22_code (3 : Nat) (Option.some Jvm.ClassFile.FieldType.int)) ∈ sp_wa := sp_in (i := 639) (by decide +kernel) (by decide +kernel)
theorem kw_640 : (Jvm.Cond.methodLink "EventSpansModel" (110 : Nat) ({ cls := "EventSpansModel", name := "isCritical", desc := "(I)Z" } : Jvm.MethodName)) ∈ sp_wa := sp_in (i := 640) (by decide +kernel) (by decide +kernel)
theorem kw_642 : (Jvm.Cond.instanceMethod ({ cls := "EventSpansModel", name := "isCritical", desc := "(I)Z" } : Jvm.MethodName)) ∈ sp_wa := sp_in (i := 642) (by decide +kernel) (by decide +kernel)
theorem kw_643 : (Jvm.Cond.code ({ cls := "EventSpansModel", name := "isCritical", desc := "(I)Z" } : Jvm.MethodName) prog_5_method_21_code (4 : Nat) (Option.some Jvm.ClassFile.FieldType.boolean)) ∈ sp_wa := sp_in (i := 643) (by decide +kernel) (by decide +kernel)
theorem kw_648 : (Jvm.Cond.methodLink "EventSpansModel" (155 : Nat) ({ cls := "EventSpansModel", name := "base0", desc := "(I)I" } : Jvm.MethodName)) ∈ sp_wa := sp_in (i := 648) (by decide +kernel) (by decide +kernel)
theorem kw_650 : (Jvm.Cond.instanceMethod ({ cls := "EventSpansModel", name := "base0", desc := "(I)I" } : Jvm.MethodName)) ∈ sp_wa := sp_in (i := 650) (by decide +kernel) (by decide +kernel)
theorem kw_651 : (Jvm.Cond.code ({ cls := "EventSpansModel", name := "base0", desc := "(I)I" } : Jvm.MethodName) prog_5_method_23_code (3 : Nat) (Option.some Jvm.ClassFile.FieldType.int)) ∈ sp_wa := sp_in (i := 651) (by decide +kernel) (by decide +kernel)
theorem kt_131 : (Jvm.Cond.castable "java/util/NoSuchElementException" "java/util/NoSuchElementException") ∈ sp_tw := sp_int (i := 131) (by decide +kernel) (by decide +kernel)
theorem kt_211 : (Jvm.Cond.castable "java/lang/UnsupportedOperationException" "java/lang/UnsupportedOperationException") ∈ sp_tw := sp_int (i := 211) (by decide +kernel) (by decide +kernel)
theorem kt_226 : (Jvm.Cond.castable "java/lang/IllegalStateException" "java/lang/IllegalStateException") ∈ sp_tw := sp_int (i := 226) (by decide +kernel) (by decide +kernel)
theorem kt_249 : (Jvm.Cond.castable "java/lang/IllegalArgumentException" "java/lang/IllegalArgumentException") ∈ sp_tw := sp_int (i := 249) (by decide +kernel) (by decide +kernel)
theorem ka_E_52 : ∀ w ∈ vx_at0 RE 52 "java/lang/IllegalStateException" ["java/lang/RuntimeException", "java/lang/Exception"], w ∈ sp_wa ∨ w ∈ sp_tw := by decide +kernel
theorem kg_E_52 : ∀ w ∈ Cond.classLink RE 50 "java/lang/IllegalStateException" :: Cond.initialized "java/lang/IllegalStateException" :: vx_at0 RE 52 "java/lang/IllegalStateException" ["java/lang/RuntimeException", "java/lang/Exception"], vx_ot w = true := by decide +kernel
theorem ka_E_49 : ∀ w ∈ vx_at0 RE 49 "java/lang/UnsupportedOperationException" ["java/lang/RuntimeException", "java/lang/Exception"], w ∈ sp_wa ∨ w ∈ sp_tw := by decide +kernel
theorem kg_E_49 : ∀ w ∈ Cond.classLink RE 47 "java/lang/UnsupportedOperationException" :: Cond.initialized "java/lang/UnsupportedOperationException" :: vx_at0 RE 49 "java/lang/UnsupportedOperationException" ["java/lang/RuntimeException", "java/lang/Exception"], vx_ot w = true := by decide +kernel
theorem ka_E_123 : ∀ w ∈ vx_at0 RE 123 "java/util/NoSuchElementException" ["java/lang/RuntimeException", "java/lang/Exception"], w ∈ sp_wa ∨ w ∈ sp_tw := by decide +kernel
theorem kg_E_123 : ∀ w ∈ Cond.classLink RE 121 "java/util/NoSuchElementException" :: Cond.initialized "java/util/NoSuchElementException" :: vx_at0 RE 123 "java/util/NoSuchElementException" ["java/lang/RuntimeException", "java/lang/Exception"], vx_ot w = true := by decide +kernel
theorem ka_E_69 : ∀ w ∈ vx_at0 RE 69 "java/lang/IllegalArgumentException" ["java/lang/RuntimeException", "java/lang/Exception"], w ∈ sp_wa ∨ w ∈ sp_tw := by decide +kernel
theorem kg_E_69 : ∀ w ∈ Cond.classLink RE 67 "java/lang/IllegalArgumentException" :: Cond.initialized "java/lang/IllegalArgumentException" :: vx_at0 RE 69 "java/lang/IllegalArgumentException" ["java/lang/RuntimeException", "java/lang/Exception"], vx_ot w = true := by decide +kernel
theorem ka_M_74 : ∀ w ∈ vx_at0 RM 74 "java/lang/IllegalStateException" ["java/lang/RuntimeException", "java/lang/Exception"], w ∈ sp_wa ∨ w ∈ sp_tw := by decide +kernel
theorem kg_M_74 : ∀ w ∈ Cond.classLink RM 72 "java/lang/IllegalStateException" :: Cond.initialized "java/lang/IllegalStateException" :: vx_at0 RM 74 "java/lang/IllegalStateException" ["java/lang/RuntimeException", "java/lang/Exception"], vx_ot w = true := by decide +kernel
theorem ka_M_71 : ∀ w ∈ vx_at0 RM 71 "java/lang/UnsupportedOperationException" ["java/lang/RuntimeException", "java/lang/Exception"], w ∈ sp_wa ∨ w ∈ sp_tw := by decide +kernel
theorem kg_M_71 : ∀ w ∈ Cond.classLink RM 69 "java/lang/UnsupportedOperationException" :: Cond.initialized "java/lang/UnsupportedOperationException" :: vx_at0 RM 71 "java/lang/UnsupportedOperationException" ["java/lang/RuntimeException", "java/lang/Exception"], vx_ot w = true := by decide +kernel
theorem ka_M_46 : ∀ w ∈ vx_at0 RM 46 "java/util/NoSuchElementException" ["java/lang/RuntimeException", "java/lang/Exception"], w ∈ sp_wa ∨ w ∈ sp_tw := by decide +kernel
theorem kg_M_46 : ∀ w ∈ Cond.classLink RM 44 "java/util/NoSuchElementException" :: Cond.initialized "java/util/NoSuchElementException" :: vx_at0 RM 46 "java/util/NoSuchElementException" ["java/lang/RuntimeException", "java/lang/Exception"], vx_ot w = true := by decide +kernel
theorem ka_M_89 : ∀ w ∈ vx_at0 RM 89 "java/lang/IllegalArgumentException" ["java/lang/RuntimeException", "java/lang/Exception"], w ∈ sp_wa ∨ w ∈ sp_tw := by decide +kernel
theorem kg_M_89 : ∀ w ∈ Cond.classLink RM 87 "java/lang/IllegalArgumentException" :: Cond.initialized "java/lang/IllegalArgumentException" :: vx_at0 RM 89 "java/lang/IllegalArgumentException" ["java/lang/RuntimeException", "java/lang/Exception"], vx_ot w = true := by decide +kernel
end
section
abbrev cxS_newestParent (κ : sp_K) (x : sp_X) (mc ms : Nat) : Prop := sp_C κ x cS_newestParent 1 RS (some .int) [] "newestParent" (sp_rm 0 0 mc ms)
set_option maxRecDepth 100000 in
set_option maxHeartbeats 4000000 in
theorem bkS_newestParent_0 {κ : sp_K} {x : sp_X} {mc ms : Nat} {Rt : Option Value → sp_M → Prop} {Xt : String → sp_M → Prop} {μ : sp_M} {k n : Nat} {a0 : Nat} (h : cxS_newestParent κ x mc ms) (hk : k ≤ mc ∧ n ≤ ms)
    (vc : (∃ fs_1 : List Value, μ a0 = some (.inr (1, fs_1)) ∧ ∃ r_3 : Option Nat, fs_1[4]? = some (va_rf r_3) ∧ (∃ a_5 : Nat, r_3 = some a_5 ∧ ∃ (N_6 : Nat) (f_7 : Nat → Int32), μ a_5 = some (sp_ia κ N_6 f_7) ∧ ((¬ (nI N_6) = 0 → ((((∃ j_9 : Nat, (nI N_6) - 1 = nI j_9 ∧ j_9 < N_6 ∧ Rt (some (.int (f_7 j_9))) μ))))) ∧ ((nI N_6) = 0 → Rt (some (.int (-1))) μ))))) : sp_w κ x (sp_F κ x Rt Xt mc ms) k n 0 [(0, .ref a0)] [] μ := by
  refine sr_aload_n h dS_newestParent_0 rfl 0 rfl ?_
  obtain ⟨fs_1, ho_2, vc⟩ := vc
  obtain ⟨r_3, hv_4, vc⟩ := vc
  refine sr_get h inS rfl 4 (by decide) kw_361 dS_newestParent_1 ho_2 hv_4 ?_
  obtain ⟨a_5, rfl, vc⟩ := vc
  obtain ⟨N_6, f_7, ho_8, vc⟩ := vc
  refine sr_alen (t := 0) h dS_newestParent_4 ho_8 rfl ?_
  refine sr_if_ne (tgt := 12) h dS_newestParent_5 (by decide) (fun c_12 => ?_) (fun c_12 => ?_)
  · replace vc := vc.1 c_12
    refine sr_aload_n h dS_newestParent_12 rfl 0 rfl ?_
    refine sr_get h inS rfl 4 (by decide) kw_361 dS_newestParent_13 ho_2 hv_4 ?_
    refine sr_aload_n h dS_newestParent_16 rfl 0 rfl ?_
    refine sr_get h inS rfl 4 (by decide) kw_361 dS_newestParent_17 ho_2 hv_4 ?_
    refine sr_alen (t := 0) h dS_newestParent_20 ho_8 rfl ?_
    refine sr_iconst (v := 1) h dS_newestParent_21 (by decide) ?_
    refine sr_isub h dS_newestParent_22 ?_
    obtain ⟨j_9, hi_10, hj_11, vc⟩ := vc
    refine sr_iald h dS_newestParent_23 ho_8 hi_10 hj_11 ?_
    exact sr_iret h dS_newestParent_24 hk.1 hk.2 vc
  · replace vc := vc.2 c_12
    refine sr_iconst (v := -1) h dS_newestParent_8 (by decide) ?_
    refine sr_goto (tgt := 24) h dS_newestParent_9 (by decide) ?_
    exact sr_iret h dS_newestParent_24 hk.1 hk.2 vc

abbrev cxS_hasNumber (κ : sp_K) (x : sp_X) (mc ms : Nat) : Prop := sp_C κ x cS_hasNumber 2 RS (some .boolean) [] "hasNumber" (sp_rm 1 21 mc ms)
set_option maxRecDepth 100000 in
set_option maxHeartbeats 4000000 in
theorem bkS_hasNumber_0 {κ : sp_K} {x : sp_X} {mc ms : Nat} {Rt : Option Value → sp_M → Prop} {Xt : String → sp_M → Prop} {μ : sp_M} {k n : Nat} {a0 : Nat} {v1 : Int32} (h : cxS_hasNumber κ x mc ms) (hk : k ≤ mc ∧ n ≤ ms)
    (vc : (∃ fs_1 : List Value, μ a0 = some (.inr (1, fs_1)) ∧ ∃ v_3 : Int32, fs_1[3]? = some (.int v_3) ∧ ((v1 < v_3 → Rt (some (.int 0)) μ) ∧ (¬ v1 < v_3 → (∃ v_5 : Int32, fs_1[2]? = some (.int v_5) ∧ (∃ mc_7 ms_8 : Nat, (k + mc_7 ≤ mc ∧ n + ms_8 ≤ ms) ∧ sp_m x.2.1 κ yS_numberAt wS_numberAt 0 0 mc_7 ms_8 [.ref a0, .int v_5] μ (fun v_10 μ_11 => ∃ v_13 : Int32, v_10 = some (.int v_13) ∧ ((v_13 < v1 → Rt (some (.int 0)) μ_11) ∧ (¬ v_13 < v1 → Rt (some (.int 1)) μ_11))) (fun E_15 μ_11 => Xt E_15 μ_11))))))) : sp_w κ x (sp_F κ x Rt Xt mc ms) k n 0 [(0, .ref a0), (1, .int v1)] [] μ := by
  refine sr_iload_n h dS_hasNumber_0 rfl 1 rfl ?_
  refine sr_aload_n h dS_hasNumber_1 rfl 0 rfl ?_
  obtain ⟨fs_1, ho_2, vc⟩ := vc
  obtain ⟨v_3, hv_4, vc⟩ := vc
  refine sr_get h inS rfl 3 (by decide) kw_360 dS_hasNumber_2 ho_2 hv_4 ?_
  refine sr_icmp_lt (tgt := 24) h dS_hasNumber_5 (by decide) (fun c_16 => ?_) (fun c_16 => ?_)
  · replace vc := vc.1 c_16
    refine sr_iconst (v := 0) h dS_hasNumber_24 (by decide) ?_
    exact sr_zret h dS_hasNumber_25 rfl hk.1 hk.2 vc
  · replace vc := vc.2 c_16
    refine sr_iload_n h dS_hasNumber_8 rfl 1 rfl ?_
    refine sr_aload_n h dS_hasNumber_9 rfl 0 rfl ?_
    refine sr_aload_n h dS_hasNumber_10 rfl 0 rfl ?_
    obtain ⟨v_5, hv_6, vc⟩ := vc
    refine sr_get h inS rfl 2 (by decide) kw_358 dS_hasNumber_11 ho_2 hv_6 ?_
    obtain ⟨mc_7, ms_8, hc_9, vc⟩ := vc
    refine sr_callV (y := yS_numberAt) (n0 := 1) (As := [.int v_5]) h (sp_gV kw_197 kw_198 kw_199 kw_47 kw_200) rfl (by decide +kernel) ⟨Nat.le_of_ble_eq_true rfl, Nat.le_of_ble_eq_true rfl⟩ (ci := 1) rfl dS_hasNumber_14 rfl rfl (Nat.le_of_ble_eq_true rfl) hc_9 ho_2 vc (fun v_10 μ_11 vc' => ?_) (fun E_15 μ_11 vc' => ?_)
    · replace vc := vc'
      clear vc'
      obtain ⟨v_13, rfl, vc⟩ := vc
      refine sr_icmp_gt (tgt := 24) h dS_hasNumber_17 (by decide) (fun c_14 => ?_) (fun c_14 => ?_)
      · replace vc := vc.1 c_14
        refine sr_iconst (v := 0) h dS_hasNumber_24 (by decide) ?_
        exact sr_zret h dS_hasNumber_25 rfl hc_9.1 hc_9.2 vc
      · replace vc := vc.2 c_14
        refine sr_iconst (v := 1) h dS_hasNumber_20 (by decide) ?_
        refine sr_goto (tgt := 25) h dS_hasNumber_21 (by decide) ?_
        exact sr_zret h dS_hasNumber_25 rfl hc_9.1 hc_9.2 vc
    · replace vc := vc'
      clear vc'
      exact st_out h (fun _ z => nomatch z) hc_9.1 hc_9.2 vc

abbrev cxS_numberAt (κ : sp_K) (x : sp_X) (mc ms : Nat) : Prop := sp_C κ x cS_numberAt 2 RS (some .int) [] "numberAt" (sp_rm 0 0 mc ms)
set_option maxRecDepth 100000 in
set_option maxHeartbeats 4000000 in
theorem bkS_numberAt_0 {κ : sp_K} {x : sp_X} {mc ms : Nat} {Rt : Option Value → sp_M → Prop} {Xt : String → sp_M → Prop} {μ : sp_M} {k n : Nat} {a0 : Nat} {v1 : Int32} (h : cxS_numberAt κ x mc ms) (hk : k ≤ mc ∧ n ≤ ms)
    (vc : (∃ fs_1 : List Value, μ a0 = some (.inr (1, fs_1)) ∧ ∃ v_3 : Int32, fs_1[3]? = some (.int v_3) ∧ (∃ v_5 : Int32, fs_1[1]? = some (.int v_5) ∧ Rt (some (.int ((v_3 + v1) - v_5))) μ))) : sp_w κ x (sp_F κ x Rt Xt mc ms) k n 0 [(0, .ref a0), (1, .int v1)] [] μ := by
  refine sr_aload_n h dS_numberAt_0 rfl 0 rfl ?_
  obtain ⟨fs_1, ho_2, vc⟩ := vc
  obtain ⟨v_3, hv_4, vc⟩ := vc
  refine sr_get h inS rfl 3 (by decide) kw_360 dS_numberAt_1 ho_2 hv_4 ?_
  refine sr_iload_n h dS_numberAt_4 rfl 1 rfl ?_
  refine sr_iadd h dS_numberAt_5 ?_
  refine sr_aload_n h dS_numberAt_6 rfl 0 rfl ?_
  obtain ⟨v_5, hv_6, vc⟩ := vc
  refine sr_get h inS rfl 1 (by decide) kw_356 dS_numberAt_7 ho_2 hv_6 ?_
  refine sr_isub h dS_numberAt_10 ?_
  exact sr_iret h dS_numberAt_11 hk.1 hk.2 vc

abbrev cxS_placeOfNumber (κ : sp_K) (x : sp_X) (mc ms : Nat) : Prop := sp_C κ x cS_placeOfNumber 2 RS (some .int) [] "placeOfNumber" (sp_rm 0 0 mc ms)
set_option maxRecDepth 100000 in
set_option maxHeartbeats 4000000 in
theorem bkS_placeOfNumber_0 {κ : sp_K} {x : sp_X} {mc ms : Nat} {Rt : Option Value → sp_M → Prop} {Xt : String → sp_M → Prop} {μ : sp_M} {k n : Nat} {a0 : Nat} {v1 : Int32} (h : cxS_placeOfNumber κ x mc ms) (hk : k ≤ mc ∧ n ≤ ms)
    (vc : (∃ fs_1 : List Value, μ a0 = some (.inr (1, fs_1)) ∧ ∃ v_3 : Int32, fs_1[1]? = some (.int v_3) ∧ (∃ v_5 : Int32, fs_1[3]? = some (.int v_5) ∧ Rt (some (.int ((v_3 + v1) - v_5))) μ))) : sp_w κ x (sp_F κ x Rt Xt mc ms) k n 0 [(0, .ref a0), (1, .int v1)] [] μ := by
  refine sr_aload_n h dS_placeOfNumber_0 rfl 0 rfl ?_
  obtain ⟨fs_1, ho_2, vc⟩ := vc
  obtain ⟨v_3, hv_4, vc⟩ := vc
  refine sr_get h inS rfl 1 (by decide) kw_356 dS_placeOfNumber_1 ho_2 hv_4 ?_
  refine sr_iload_n h dS_placeOfNumber_4 rfl 1 rfl ?_
  refine sr_iadd h dS_placeOfNumber_5 ?_
  refine sr_aload_n h dS_placeOfNumber_6 rfl 0 rfl ?_
  obtain ⟨v_5, hv_6, vc⟩ := vc
  refine sr_get h inS rfl 3 (by decide) kw_360 dS_placeOfNumber_7 ho_2 hv_6 ?_
  refine sr_isub h dS_placeOfNumber_10 ?_
  exact sr_iret h dS_placeOfNumber_11 hk.1 hk.2 vc

abbrev cxS_seenAt (κ : sp_K) (x : sp_X) (mc ms : Nat) : Prop := sp_C κ x cS_seenAt 3 RS (some .int) [] "seenAt" (sp_rm 1 21 mc ms)
set_option maxRecDepth 100000 in
set_option maxHeartbeats 4000000 in
theorem bkS_seenAt_0 {κ : sp_K} {x : sp_X} {mc ms : Nat} {Rt : Option Value → sp_M → Prop} {Xt : String → sp_M → Prop} {μ : sp_M} {k n : Nat} {a0 : Nat} {v1 : Int32} {v2 : Int32} (h : cxS_seenAt κ x mc ms) (hk : k ≤ mc ∧ n ≤ ms)
    (vc : (∃ fs_1 : List Value, μ a0 = some (.inr (1, fs_1)) ∧ ∃ r_3 : Option Nat, fs_1[0]? = some (va_rf r_3) ∧ (∃ a_5 : Nat, r_3 = some a_5 ∧ ∃ fs_6 : List Value, μ a_5 = some (.inr (0, fs_6)) ∧ ∃ v_8 : Int32, fs_6[1]? = some (.int v_8) ∧ ((¬ v2 = v_8 → (∃ r_10 : Option Nat, fs_1[5]? = some (va_rf r_10) ∧ (∃ a_12 : Nat, r_10 = some a_12 ∧ ∃ (N_13 : Nat) (f_14 : Nat → Int32), μ a_12 = some (sp_ia κ N_13 f_14) ∧ ∃ j_16 : Nat, v2 = nI j_16 ∧ j_16 < N_13 ∧ Rt (some (.int (f_14 j_16))) μ))) ∧ (v2 = v_8 → (∃ mc_19 ms_20 : Nat, (k + mc_19 ≤ mc ∧ n + ms_20 ≤ ms) ∧ sp_m x.2.1 κ yS_numberAt wS_numberAt 0 0 mc_19 ms_20 [.ref a0, .int v1] μ (fun v_22 μ_23 => ∃ v_25 : Int32, v_22 = some (.int v_25) ∧ Rt (some (.int (v_25 + 1))) μ_23) (fun E_26 μ_23 => Xt E_26 μ_23))))))) : sp_w κ x (sp_F κ x Rt Xt mc ms) k n 0 [(0, .ref a0), (1, .int v1), (2, .int v2)] [] μ := by
  refine sr_iload_n h dS_seenAt_0 rfl 2 rfl ?_
  refine sr_aload_n h dS_seenAt_1 rfl 0 rfl ?_
  obtain ⟨fs_1, ho_2, vc⟩ := vc
  obtain ⟨r_3, hv_4, vc⟩ := vc
  refine sr_get h inS rfl 0 (by decide) kw_354 dS_seenAt_2 ho_2 hv_4 ?_
  obtain ⟨a_5, rfl, vc⟩ := vc
  obtain ⟨fs_6, ho_7, vc⟩ := vc
  obtain ⟨v_8, hv_9, vc⟩ := vc
  refine sr_get h inA rfl 1 (by decide) kw_318 dS_seenAt_5 ho_7 hv_9 ?_
  refine sr_icmp_ne (tgt := 21) h dS_seenAt_8 (by decide) (fun c_27 => ?_) (fun c_27 => ?_)
  · replace vc := vc.1 c_27
    refine sr_aload_n h dS_seenAt_21 rfl 0 rfl ?_
    obtain ⟨r_10, hv_11, vc⟩ := vc
    refine sr_get h inS rfl 5 (by decide) kw_363 dS_seenAt_22 ho_2 hv_11 ?_
    refine sr_iload_n h dS_seenAt_25 rfl 2 rfl ?_
    obtain ⟨a_12, rfl, vc⟩ := vc
    obtain ⟨N_13, f_14, ho_15, vc⟩ := vc
    obtain ⟨j_16, hi_17, hj_18, vc⟩ := vc
    refine sr_iald h dS_seenAt_26 ho_15 hi_17 hj_18 ?_
    exact sr_iret h dS_seenAt_27 hk.1 hk.2 vc
  · replace vc := vc.2 c_27
    refine sr_aload_n h dS_seenAt_11 rfl 0 rfl ?_
    refine sr_iload_n h dS_seenAt_12 rfl 1 rfl ?_
    obtain ⟨mc_19, ms_20, hc_21, vc⟩ := vc
    refine sr_callV (y := yS_numberAt) (n0 := 1) (As := [.int v1]) h (sp_gV kw_197 kw_198 kw_199 kw_47 kw_200) rfl (by decide +kernel) ⟨Nat.le_of_ble_eq_true rfl, Nat.le_of_ble_eq_true rfl⟩ (ci := 1) rfl dS_seenAt_13 rfl rfl (Nat.le_of_ble_eq_true rfl) hc_21 ho_2 vc (fun v_22 μ_23 vc' => ?_) (fun E_26 μ_23 vc' => ?_)
    · replace vc := vc'
      clear vc'
      obtain ⟨v_25, rfl, vc⟩ := vc
      refine sr_iconst (v := 1) h dS_seenAt_16 (by decide) ?_
      refine sr_iadd h dS_seenAt_17 ?_
      refine sr_goto (tgt := 27) h dS_seenAt_18 (by decide) ?_
      exact sr_iret h dS_seenAt_27 hc_21.1 hc_21.2 vc
    · replace vc := vc'
      clear vc'
      exact st_out h (fun _ z => nomatch z) hc_21.1 hc_21.2 vc

abbrev cxA_init (κ : sp_K) (x : sp_X) (mc ms : Nat) : Prop := sp_C κ x cA_init 3 RA none [] "<init>" (sp_rm 1 22 mc ms)
set_option maxRecDepth 100000 in
set_option maxHeartbeats 4000000 in
theorem bkA_init_0 {κ : sp_K} {x : sp_X} {mc ms : Nat} {Rt : Option Value → sp_M → Prop} {Xt : String → sp_M → Prop} {μ : sp_M} {k n : Nat} {a0 : Nat} {v1 : Int32} {v2 : Int32} (h : cxA_init κ x mc ms) (hk : k ≤ mc ∧ n ≤ ms)
    (vc : (∃ fs_1 : List Value, μ a0 = some (.inr (0, fs_1)) ∧ 2 < fs_1.length ∧ ∀ μ_3 : sp_M, μ_3 = va_up μ a0 (some (.inr (0, fs_1.set 2 (.int 0)))) → (∃ fs_5 : List Value, μ_3 a0 = some (.inr (0, fs_5)) ∧ 3 < fs_5.length ∧ ∀ μ_7 : sp_M, μ_7 = va_up μ_3 a0 (some (.inr (0, fs_5.set 3 (.int (-1))))) → (∃ fs_9 : List Value, μ_7 a0 = some (.inr (0, fs_9)) ∧ 4 < fs_9.length ∧ (narrow (tyA 4) (.int 0) = (.int 0) ∧ fits (tyA 4) (.int 0) = true) ∧ ∀ μ_11 : sp_M, μ_11 = va_up μ_7 a0 (some (.inr (0, fs_9.set 4 (.int 0)))) → (∃ fs_14 : List Value, μ_11 a0 = some (.inr (0, fs_14)) ∧ 5 < fs_14.length ∧ ∀ μ_16 : sp_M, μ_16 = va_up μ_11 a0 (some (.inr (0, fs_14.set 5 (.null)))) → (∃ fs_18 : List Value, μ_16 a0 = some (.inr (0, fs_18)) ∧ 0 < fs_18.length ∧ ∀ μ_20 : sp_M, μ_20 = va_up μ_16 a0 (some (.inr (0, fs_18.set 0 (.int v1)))) → (∃ fs_22 : List Value, μ_20 a0 = some (.inr (0, fs_22)) ∧ 1 < fs_22.length ∧ ∀ μ_24 : sp_M, μ_24 = va_up μ_20 a0 (some (.inr (0, fs_22.set 1 (.int v2)))) → Rt none μ_24))))))) : sp_w κ x (sp_F κ x Rt Xt mc ms) k n 0 [(0, .ref a0), (1, .int v1), (2, .int v2)] [] μ := by
  refine sr_aload_n h dA_init_0 rfl 0 rfl ?_
  refine sr_objInit h kw_313 kw_54 kw_oi dA_init_1 (Nat.le_of_ble_eq_true rfl) (Nat.le_of_ble_eq_true rfl) ?_
  refine sr_aload_n h dA_init_4 rfl 0 rfl ?_
  refine sr_iconst (v := 0) h dA_init_5 (by decide) ?_
  obtain ⟨fs_1, ho_2, vc⟩ := vc
  obtain ⟨hl_4, vc⟩ := vc
  replace vc := vc _ rfl
  refine sr_put h inA tyA tyA_ok nmA rfl 2 (by decide) kw_319 rfl dA_init_6 ho_2 rfl rfl hl_4 ?_
  refine sr_aload_n h dA_init_9 rfl 0 rfl ?_
  refine sr_iconst (v := -1) h dA_init_10 (by decide) ?_
  obtain ⟨fs_5, ho_6, vc⟩ := vc
  obtain ⟨hl_8, vc⟩ := vc
  replace vc := vc _ rfl
  refine sr_put h inA tyA tyA_ok nmA rfl 3 (by decide) kw_322 rfl dA_init_11 ho_6 rfl rfl hl_8 ?_
  refine sr_aload_n h dA_init_14 rfl 0 rfl ?_
  refine sr_iconst (v := 0) h dA_init_15 (by decide) ?_
  obtain ⟨fs_9, ho_10, vc⟩ := vc
  obtain ⟨hl_12, hn_13, vc⟩ := vc
  replace vc := vc _ rfl
  refine sr_put h inA tyA tyA_ok nmA rfl 4 (by decide) kw_324 rfl dA_init_16 ho_10 hn_13.1 hn_13.2 hl_12 ?_
  refine sr_aload_n h dA_init_19 rfl 0 rfl ?_
  refine sr_null h dA_init_20 ?_
  obtain ⟨fs_14, ho_15, vc⟩ := vc
  obtain ⟨hl_17, vc⟩ := vc
  replace vc := vc _ rfl
  refine sr_put h inA tyA tyA_ok nmA rfl 5 (by decide) kw_326 rfl dA_init_21 ho_15 rfl rfl hl_17 ?_
  refine sr_aload_n h dA_init_24 rfl 0 rfl ?_
  refine sr_iload_n h dA_init_25 rfl 1 rfl ?_
  obtain ⟨fs_18, ho_19, vc⟩ := vc
  obtain ⟨hl_21, vc⟩ := vc
  replace vc := vc _ rfl
  refine sr_putF h rfl inA tyA tyA_ok nmA rfl 0 (by decide) kw_314 rfl rfl dA_init_26 ho_19 rfl rfl hl_21 ?_
  refine sr_aload_n h dA_init_29 rfl 0 rfl ?_
  refine sr_iload_n h dA_init_30 rfl 2 rfl ?_
  obtain ⟨fs_22, ho_23, vc⟩ := vc
  obtain ⟨hl_25, vc⟩ := vc
  replace vc := vc _ rfl
  refine sr_putF h rfl inA tyA tyA_ok nmA rfl 1 (by decide) kw_316 rfl rfl dA_init_31 ho_23 rfl rfl hl_25 ?_
  exact sr_vret h dA_init_34 hk.1 hk.2 vc

abbrev cxS_init (κ : sp_K) (x : sp_X) (mc ms : Nat) : Prop := sp_C κ x cS_init 7 RS none [] "<init>" (sp_rm 1 25 mc ms)
set_option maxRecDepth 100000 in
set_option maxHeartbeats 4000000 in
theorem bkS_init_0 {κ : sp_K} {x : sp_X} {mc ms : Nat} {Rt : Option Value → sp_M → Prop} {Xt : String → sp_M → Prop} {μ : sp_M} {k n : Nat} {a0 : Nat} {a1 : Nat} {v2 : Int32} {v3 : Int32} {a4 : Nat} {a5 : Nat} {a6 : Nat} (h : cxS_init κ x mc ms) (hk : k ≤ mc ∧ n ≤ ms)
    (vc : (∃ fs_1 : List Value, μ a0 = some (.inr (1, fs_1)) ∧ 0 < fs_1.length ∧ ∀ μ_3 : sp_M, μ_3 = va_up μ a0 (some (.inr (1, fs_1.set 0 (.ref a1)))) → (∃ fs_5 : List Value, μ_3 a0 = some (.inr (1, fs_5)) ∧ 1 < fs_5.length ∧ ∀ μ_7 : sp_M, μ_7 = va_up μ_3 a0 (some (.inr (1, fs_5.set 1 (.int v2)))) → (∃ fs_9 : List Value, μ_7 a0 = some (.inr (1, fs_9)) ∧ 2 < fs_9.length ∧ ∀ μ_11 : sp_M, μ_11 = va_up μ_7 a0 (some (.inr (1, fs_9.set 2 (.int ((v2 + v3) - 1))))) → (∃ fs_13 : List Value, μ_11 a1 = some (.inr (0, fs_13)) ∧ ∃ v_15 : Int32, fs_13[2]? = some (.int v_15) ∧ (∃ fs_17 : List Value, μ_11 a0 = some (.inr (1, fs_17)) ∧ 3 < fs_17.length ∧ ∀ μ_19 : sp_M, μ_19 = va_up μ_11 a0 (some (.inr (1, fs_17.set 3 (.int v_15)))) → (∃ fs_21 : List Value, μ_19 a0 = some (.inr (1, fs_21)) ∧ 4 < fs_21.length ∧ ∀ μ_23 : sp_M, μ_23 = va_up μ_19 a0 (some (.inr (1, fs_21.set 4 (.ref a4)))) → (∃ fs_25 : List Value, μ_23 a0 = some (.inr (1, fs_25)) ∧ 5 < fs_25.length ∧ ∀ μ_27 : sp_M, μ_27 = va_up μ_23 a0 (some (.inr (1, fs_25.set 5 (.ref a5)))) → (∃ mc_29 ms_30 : Nat, (k + mc_29 ≤ mc ∧ n + ms_30 ≤ ms) ∧ sp_m x.2.1 κ yS_sum wS_sum 0 0 mc_29 ms_30 [.ref a5] μ_27 (fun v_32 μ_33 => ∃ v_35 : Int32, v_32 = some (.int v_35) ∧ ((¬ v_35 = (v2 + 1) → sp_w κ x (sp_F κ x Rt Xt mc ms) (k + mc_29) (n + ms_30) 60 [(0, .ref a0), (1, .ref a1), (2, .int v2), (3, .int v3), (4, .ref a4), (5, .ref a5), (6, .ref a6)] [.int 0, .ref a0] μ_33) ∧ (v_35 = (v2 + 1) → sp_w κ x (sp_F κ x Rt Xt mc ms) (k + mc_29) (n + ms_30) 60 [(0, .ref a0), (1, .ref a1), (2, .int v2), (3, .int v3), (4, .ref a4), (5, .ref a5), (6, .ref a6)] [.int 1, .ref a0] μ_33))) (fun E_37 μ_33 => Xt E_37 μ_33)))))))))) : sp_w κ x (sp_F κ x Rt Xt mc ms) k n 0 [(0, .ref a0), (1, .ref a1), (2, .int v2), (3, .int v3), (4, .ref a4), (5, .ref a5), (6, .ref a6)] [] μ := by
  refine sr_aload_n h dS_init_0 rfl 0 rfl ?_
  refine sr_objInit h kw_350 kw_54 kw_oi dS_init_1 (Nat.le_of_ble_eq_true rfl) (Nat.le_of_ble_eq_true rfl) ?_
  refine sr_aload_n h dS_init_4 rfl 0 rfl ?_
  refine sr_aload_n h dS_init_5 rfl 1 rfl ?_
  obtain ⟨fs_1, ho_2, vc⟩ := vc
  obtain ⟨hl_4, vc⟩ := vc
  replace vc := vc _ rfl
  refine sr_putF h rfl inS tyS tyS_ok nmS rfl 0 (by decide) kw_354 rfl rfl dS_init_6 ho_2 rfl rfl hl_4 ?_
  refine sr_aload_n h dS_init_9 rfl 0 rfl ?_
  refine sr_iload_n h dS_init_10 rfl 2 rfl ?_
  obtain ⟨fs_5, ho_6, vc⟩ := vc
  obtain ⟨hl_8, vc⟩ := vc
  replace vc := vc _ rfl
  refine sr_putF h rfl inS tyS tyS_ok nmS rfl 1 (by decide) kw_356 rfl rfl dS_init_11 ho_6 rfl rfl hl_8 ?_
  refine sr_aload_n h dS_init_14 rfl 0 rfl ?_
  refine sr_iload_n h dS_init_15 rfl 2 rfl ?_
  refine sr_iload_n h dS_init_16 rfl 3 rfl ?_
  refine sr_iadd h dS_init_17 ?_
  refine sr_iconst (v := 1) h dS_init_18 (by decide) ?_
  refine sr_isub h dS_init_19 ?_
  obtain ⟨fs_9, ho_10, vc⟩ := vc
  obtain ⟨hl_12, vc⟩ := vc
  replace vc := vc _ rfl
  refine sr_putF h rfl inS tyS tyS_ok nmS rfl 2 (by decide) kw_358 rfl rfl dS_init_20 ho_10 rfl rfl hl_12 ?_
  refine sr_aload_n h dS_init_23 rfl 0 rfl ?_
  refine sr_aload_n h dS_init_24 rfl 1 rfl ?_
  obtain ⟨fs_13, ho_14, vc⟩ := vc
  obtain ⟨v_15, hv_16, vc⟩ := vc
  refine sr_get h inA rfl 2 (by decide) kw_320 dS_init_25 ho_14 hv_16 ?_
  obtain ⟨fs_17, ho_18, vc⟩ := vc
  obtain ⟨hl_20, vc⟩ := vc
  replace vc := vc _ rfl
  refine sr_putF h rfl inS tyS tyS_ok nmS rfl 3 (by decide) kw_360 rfl rfl dS_init_28 ho_18 rfl rfl hl_20 ?_
  refine sr_aload_n h dS_init_31 rfl 0 rfl ?_
  refine sr_aload h dS_init_32 4 rfl ?_
  obtain ⟨fs_21, ho_22, vc⟩ := vc
  obtain ⟨hl_24, vc⟩ := vc
  replace vc := vc _ rfl
  refine sr_putF h rfl inS tyS tyS_ok nmS rfl 4 (by decide) kw_361 rfl rfl dS_init_34 ho_22 rfl rfl hl_24 ?_
  refine sr_aload_n h dS_init_37 rfl 0 rfl ?_
  refine sr_aload h dS_init_38 5 rfl ?_
  obtain ⟨fs_25, ho_26, vc⟩ := vc
  obtain ⟨hl_28, vc⟩ := vc
  replace vc := vc _ rfl
  refine sr_putF h rfl inS tyS tyS_ok nmS rfl 5 (by decide) kw_363 rfl rfl dS_init_40 ho_26 rfl rfl hl_28 ?_
  refine sr_aload_n h dS_init_43 rfl 0 rfl ?_
  refine sr_aload h dS_init_44 5 rfl ?_
  obtain ⟨mc_29, ms_30, hc_31, vc⟩ := vc
  refine sr_callS (y := yS_sum) (n0 := 1) (As := [.ref a5]) (st := [.ref a0]) h (sp_gS kw_351 kw_352 kw_47 kw_353) rfl (by decide +kernel) ⟨Nat.le_of_ble_eq_true rfl, Nat.le_of_ble_eq_true rfl⟩ dS_init_46 rfl rfl (Nat.le_of_ble_eq_true rfl) hc_31 vc (fun v_32 μ_33 vc' => ?_) (fun E_37 μ_33 vc' => ?_)
  · replace vc := vc'
    clear vc'
    obtain ⟨v_35, rfl, vc⟩ := vc
    refine sr_iload_n h dS_init_49 rfl 2 rfl ?_
    refine sr_iconst (v := 1) h dS_init_50 (by decide) ?_
    refine sr_iadd h dS_init_51 ?_
    refine sr_icmp_ne (tgt := 59) h dS_init_52 (by decide) (fun c_36 => ?_) (fun c_36 => ?_)
    · replace vc := vc.1 c_36
      refine sr_iconst (v := 0) h dS_init_59 (by decide) ?_
      exact vc
    · replace vc := vc.2 c_36
      refine sr_iconst (v := 1) h dS_init_55 (by decide) ?_
      refine sr_goto (tgt := 60) h dS_init_56 (by decide) ?_
      exact vc
  · replace vc := vc'
    clear vc'
    exact st_out h (fun _ z => nomatch z) hc_31.1 hc_31.2 vc
set_option maxRecDepth 100000 in
set_option maxHeartbeats 4000000 in
theorem bkS_init_60 {κ : sp_K} {x : sp_X} {mc ms : Nat} {Rt : Option Value → sp_M → Prop} {Xt : String → sp_M → Prop} {μ : sp_M} {k n : Nat} {a0 : Nat} {a1 : Nat} {v2 : Int32} {v3 : Int32} {a4 : Nat} {a5 : Nat} {a6 : Nat} {as0 : Nat} {vs1 : Int32} (h : cxS_init κ x mc ms) (hk : k ≤ mc ∧ n ≤ ms)
    (vc : (∃ fs_1 : List Value, μ as0 = some (.inr (1, fs_1)) ∧ 6 < fs_1.length ∧ (narrow (tyS 6) (.int vs1) = (.int vs1) ∧ fits (tyS 6) (.int vs1) = true) ∧ ∀ μ_3 : sp_M, μ_3 = va_up μ as0 (some (.inr (1, fs_1.set 6 (.int vs1)))) → (∃ fs_6 : List Value, μ_3 a0 = some (.inr (1, fs_6)) ∧ 7 < fs_6.length ∧ ∀ μ_8 : sp_M, μ_8 = va_up μ_3 a0 (some (.inr (1, fs_6.set 7 (.ref a6)))) → (∃ fs_10 : List Value, μ_8 a1 = some (.inr (0, fs_10)) ∧ ∃ r_12 : Option Nat, fs_10[5]? = some (va_rf r_12) ∧ (∃ fs_14 : List Value, μ_8 a0 = some (.inr (1, fs_14)) ∧ 8 < fs_14.length ∧ ∀ μ_16 : sp_M, μ_16 = va_up μ_8 a0 (some (.inr (1, fs_14.set 8 (va_rf r_12)))) → Rt none μ_16))))) : sp_w κ x (sp_F κ x Rt Xt mc ms) k n 60 [(0, .ref a0), (1, .ref a1), (2, .int v2), (3, .int v3), (4, .ref a4), (5, .ref a5), (6, .ref a6)] [.int vs1, .ref as0] μ := by
  obtain ⟨fs_1, ho_2, vc⟩ := vc
  obtain ⟨hl_4, hn_5, vc⟩ := vc
  replace vc := vc _ rfl
  refine sr_putF h rfl inS tyS tyS_ok nmS rfl 6 (by decide) kw_364 rfl rfl dS_init_60 ho_2 hn_5.1 hn_5.2 hl_4 ?_
  refine sr_aload_n h dS_init_63 rfl 0 rfl ?_
  refine sr_aload h dS_init_64 6 rfl ?_
  obtain ⟨fs_6, ho_7, vc⟩ := vc
  obtain ⟨hl_9, vc⟩ := vc
  replace vc := vc _ rfl
  refine sr_putF h rfl inS tyS tyS_ok nmS rfl 7 (by decide) kw_366 rfl rfl dS_init_66 ho_7 rfl rfl hl_9 ?_
  refine sr_aload_n h dS_init_69 rfl 0 rfl ?_
  refine sr_aload_n h dS_init_70 rfl 1 rfl ?_
  obtain ⟨fs_10, ho_11, vc⟩ := vc
  obtain ⟨r_12, hv_13, vc⟩ := vc
  refine sr_get h inA rfl 5 (by decide) kw_327 dS_init_71 ho_11 hv_13 ?_
  obtain ⟨fs_14, ho_15, vc⟩ := vc
  obtain ⟨hl_17, vc⟩ := vc
  replace vc := vc _ rfl
  refine sr_putF h rfl inS tyS tyS_ok nmS rfl 8 (by decide) kw_368 rfl rfl dS_init_74 ho_15 (by cases r_12 <;> rfl) (by cases r_12 <;> rfl) hl_17 ?_
  exact sr_vret h dS_init_77 hk.1 hk.2 vc

abbrev cxS_sum (κ : sp_K) (x : sp_X) (mc ms : Nat) : Prop := sp_C κ x cS_sum 6 RS (some .int) [] "sum" (sp_rm 0 0 mc ms)
set_option maxRecDepth 100000 in
set_option maxHeartbeats 4000000 in
theorem bkS_sum_0 {κ : sp_K} {x : sp_X} {mc ms : Nat} {Rt : Option Value → sp_M → Prop} {Xt : String → sp_M → Prop} {μ : sp_M} {k n : Nat} {a0 : Nat} (h : cxS_sum κ x mc ms) (hk : k ≤ mc ∧ n ≤ ms)
    (vc : (∃ (N_1 : Nat) (f_2 : Nat → Int32), μ a0 = some (sp_ia κ N_1 f_2) ∧ sp_w κ x (sp_F κ x Rt Xt mc ms) k n 10 [(0, .ref a0), (1, .int 0), (2, .ref a0), (3, .int (nI N_1)), (4, .int 0)] [] μ)) : sp_w κ x (sp_F κ x Rt Xt mc ms) k n 0 [(0, .ref a0)] [] μ := by
  refine sr_iconst (v := 0) h dS_sum_0 (by decide) ?_
  refine sr_istore_n (lv' := [(0, .ref a0), (1, .int 0)]) h dS_sum_1 rfl (by decide) rfl ?_
  refine sr_aload_n h dS_sum_2 rfl 0 rfl ?_
  refine sr_astore_n (lv' := [(0, .ref a0), (1, .int 0), (2, .ref a0)]) h dS_sum_3 rfl (by decide) rfl ?_
  refine sr_aload_n h dS_sum_4 rfl 2 rfl ?_
  obtain ⟨N_1, f_2, ho_3, vc⟩ := vc
  refine sr_alen (t := 0) h dS_sum_5 ho_3 rfl ?_
  refine sr_istore_n (lv' := [(0, .ref a0), (1, .int 0), (2, .ref a0), (3, .int (nI N_1))]) h dS_sum_6 rfl (by decide) rfl ?_
  refine sr_iconst (v := 0) h dS_sum_7 (by decide) ?_
  refine sr_istore (lv' := [(0, .ref a0), (1, .int 0), (2, .ref a0), (3, .int (nI N_1)), (4, .int 0)]) h dS_sum_8 (by decide) rfl ?_
  exact vc
set_option maxRecDepth 100000 in
set_option maxHeartbeats 4000000 in
theorem bkS_sum_10 {κ : sp_K} {x : sp_X} {mc ms : Nat} {Rt : Option Value → sp_M → Prop} {Xt : String → sp_M → Prop} {μ : sp_M} {k n : Nat} {a0 : Nat} {v1 : Int32} {a2 : Nat} {v3 : Int32} {v4 : Int32} (h : cxS_sum κ x mc ms) (hk : k ≤ mc ∧ n ≤ ms)
    (vc : ((v3 ≤ v4 → Rt (some (.int v1)) μ) ∧ (¬ v3 ≤ v4 → (∃ (N_1 : Nat) (f_2 : Nat → Int32), μ a2 = some (sp_ia κ N_1 f_2) ∧ ∃ j_4 : Nat, v4 = nI j_4 ∧ j_4 < N_1 ∧ sp_w κ x (sp_F κ x Rt Xt mc ms) k n 10 [(0, .ref a0), (1, .int (v1 + (f_2 j_4))), (2, .ref a2), (3, .int v3), (4, .int (v4 + 1))] [] μ)))) : sp_w κ x (sp_F κ x Rt Xt mc ms) k n 10 [(0, .ref a0), (1, .int v1), (2, .ref a2), (3, .int v3), (4, .int v4)] [] μ := by
  refine sr_iload h dS_sum_10 4 rfl ?_
  refine sr_iload_n h dS_sum_12 rfl 3 rfl ?_
  refine sr_icmp_ge (tgt := 33) h dS_sum_13 (by decide) (fun c_7 => ?_) (fun c_7 => ?_)
  · replace vc := vc.1 c_7
    refine sr_iload_n h dS_sum_33 rfl 1 rfl ?_
    exact sr_iret h dS_sum_34 hk.1 hk.2 vc
  · replace vc := vc.2 c_7
    refine sr_aload_n h dS_sum_16 rfl 2 rfl ?_
    refine sr_iload h dS_sum_17 4 rfl ?_
    obtain ⟨N_1, f_2, ho_3, vc⟩ := vc
    obtain ⟨j_4, hi_5, hj_6, vc⟩ := vc
    refine sr_iald h dS_sum_19 ho_3 hi_5 hj_6 ?_
    refine sr_istore (lv' := [(0, .ref a0), (1, .int v1), (2, .ref a2), (3, .int v3), (4, .int v4), (5, .int (f_2 j_4))]) h dS_sum_20 (by decide) rfl ?_
    refine sr_iload_n h dS_sum_22 rfl 1 rfl ?_
    refine sr_iload h dS_sum_23 5 rfl ?_
    refine sr_iadd h dS_sum_25 ?_
    refine sr_istore_n (lv' := [(0, .ref a0), (1, .int (v1 + (f_2 j_4))), (2, .ref a2), (3, .int v3), (4, .int v4), (5, .int (f_2 j_4))]) h dS_sum_26 rfl (by decide) rfl ?_
    refine sr_iinc (u := v4 + 1) (lv' := [(0, .ref a0), (1, .int (v1 + (f_2 j_4))), (2, .ref a2), (3, .int v3), (4, .int (v4 + 1)), (5, .int (f_2 j_4))]) h dS_sum_27 4 rfl rfl (by decide) rfl ?_
    refine sr_goto (tgt := 10) h dS_sum_30 (by decide) ?_
    exact sr_sub (lv' := [(0, .ref a0), (1, .int (v1 + (f_2 j_4))), (2, .ref a2), (3, .int v3), (4, .int (v4 + 1))]) [0, 1, 2, 3, 4] rfl vc
end
section
abbrev cxE_init (κ : sp_K) (x : sp_X) (mc ms : Nat) : Prop := sp_C κ x cE_init 1 RE none [] "<init>" (sp_rm 1 22 mc ms)
set_option maxRecDepth 100000 in
set_option maxHeartbeats 4000000 in
theorem bkE_init_0 {κ : sp_K} {x : sp_X} {mc ms : Nat} {Rt : Option Value → sp_M → Prop} {Xt : String → sp_M → Prop} {μ : sp_M} {k n : Nat} {a0 : Nat} (h : cxE_init κ x mc ms) (hk : k ≤ mc ∧ n ≤ ms)
    (vc : (∃ N_1 : Nat, 256 = nI N_1 ∧ N_1 ≤ 1000000 ∧ (k + 1 ≤ mc ∧ n + N_1 ≤ ms) ∧ ∀ q_5 : Nat, μ q_5 = none → ∀ μ_7 : sp_M, μ_7 = va_up μ q_5 (some (sp_ra κ 3 N_1 (fun _ => none))) → (∃ fs_8 : List Value, μ_7 a0 = some (.inr (2, fs_8)) ∧ 0 < fs_8.length ∧ ∀ μ_10 : sp_M, μ_10 = va_up μ_7 a0 (some (.inr (2, fs_8.set 0 (.ref q_5)))) → (∃ fs_12 : List Value, μ_10 a0 = some (.inr (2, fs_12)) ∧ 1 < fs_12.length ∧ ∀ μ_14 : sp_M, μ_14 = va_up μ_10 a0 (some (.inr (2, fs_12.set 1 (.int 0)))) → (∃ N_16 : Nat, 8192 = nI N_16 ∧ N_16 ≤ 1000000 ∧ ((k + 1) + 1 ≤ mc ∧ (n + N_1) + N_16 ≤ ms) ∧ ∀ q_20 : Nat, μ_14 q_20 = none → ∀ μ_22 : sp_M, μ_22 = va_up μ_14 q_20 (some (sp_ra κ 4 N_16 (fun _ => none))) → (∃ fs_23 : List Value, μ_22 a0 = some (.inr (2, fs_23)) ∧ 2 < fs_23.length ∧ ∀ μ_25 : sp_M, μ_25 = va_up μ_22 a0 (some (.inr (2, fs_23.set 2 (.ref q_20)))) → (∃ fs_27 : List Value, μ_25 a0 = some (.inr (2, fs_27)) ∧ 3 < fs_27.length ∧ ∀ μ_29 : sp_M, μ_29 = va_up μ_25 a0 (some (.inr (2, fs_27.set 3 (.int 0)))) → (∃ fs_31 : List Value, μ_29 a0 = some (.inr (2, fs_31)) ∧ 4 < fs_31.length ∧ ∀ μ_33 : sp_M, μ_33 = va_up μ_29 a0 (some (.inr (2, fs_31.set 4 (.null)))) → (∃ N_35 : Nat, 16 = nI N_35 ∧ N_35 ≤ 1000000 ∧ ((k + 1 + 1) + 1 ≤ mc ∧ (n + N_1 + N_16) + N_35 ≤ ms) ∧ ∀ q_39 : Nat, μ_33 q_39 = none → ∀ μ_41 : sp_M, μ_41 = va_up μ_33 q_39 (some (sp_ia κ N_35 (fun _ => 0))) → (∃ fs_42 : List Value, μ_41 a0 = some (.inr (2, fs_42)) ∧ 5 < fs_42.length ∧ ∀ μ_44 : sp_M, μ_44 = va_up μ_41 a0 (some (.inr (2, fs_42.set 5 (.ref q_39)))) → (∃ fs_46 : List Value, μ_44 a0 = some (.inr (2, fs_46)) ∧ 6 < fs_46.length ∧ ∀ μ_48 : sp_M, μ_48 = va_up μ_44 a0 (some (.inr (2, fs_46.set 6 (.int 0)))) → Rt none μ_48))))))))))) : sp_w κ x (sp_F κ x Rt Xt mc ms) k n 0 [(0, .ref a0)] [] μ := by
  refine sr_aload_n h dE_init_0 rfl 0 rfl ?_
  refine sr_objInit h kw_53 kw_54 kw_oi dE_init_1 (Nat.le_of_ble_eq_true rfl) (Nat.le_of_ble_eq_true rfl) ?_
  refine sr_aload_n h dE_init_4 rfl 0 rfl ?_
  refine sr_sipush (v := 256) h dE_init_5 (by decide) ?_
  obtain ⟨N_1, hi_2, hN_3, hc_4, vc⟩ := vc
  refine sr_newq (t := 3) h kw_56 (Or.inl ⟨rfl, rfl⟩) dE_init_8 hi_2 hN_3 hc_4.1 hc_4.2 (fun q_5 hz_6 => ?_)
  replace vc := vc q_5 hz_6 _ rfl
  obtain ⟨fs_8, ho_9, vc⟩ := vc
  obtain ⟨hl_11, vc⟩ := vc
  replace vc := vc _ rfl
  refine sr_putF h rfl inE tyE tyE_ok nmE rfl 0 (by decide) kw_60 rfl rfl dE_init_11 ho_9 rfl rfl hl_11 ?_
  refine sr_aload_n h dE_init_14 rfl 0 rfl ?_
  refine sr_iconst (v := 0) h dE_init_15 (by decide) ?_
  obtain ⟨fs_12, ho_13, vc⟩ := vc
  obtain ⟨hl_15, vc⟩ := vc
  replace vc := vc _ rfl
  refine sr_put h inE tyE tyE_ok nmE rfl 1 (by decide) kw_61 rfl dE_init_16 ho_13 rfl rfl hl_15 ?_
  refine sr_aload_n h dE_init_19 rfl 0 rfl ?_
  refine sr_sipush (v := 8192) h dE_init_20 (by decide) ?_
  obtain ⟨N_16, hi_17, hN_18, hc_19, vc⟩ := vc
  refine sr_newq (t := 4) h kw_58 (Or.inr ⟨rfl, rfl⟩) dE_init_23 hi_17 hN_18 hc_19.1 hc_19.2 (fun q_20 hz_21 => ?_)
  replace vc := vc q_20 hz_21 _ rfl
  obtain ⟨fs_23, ho_24, vc⟩ := vc
  obtain ⟨hl_26, vc⟩ := vc
  replace vc := vc _ rfl
  refine sr_putF h rfl inE tyE tyE_ok nmE rfl 2 (by decide) kw_62 rfl rfl dE_init_26 ho_24 rfl rfl hl_26 ?_
  refine sr_aload_n h dE_init_29 rfl 0 rfl ?_
  refine sr_iconst (v := 0) h dE_init_30 (by decide) ?_
  obtain ⟨fs_27, ho_28, vc⟩ := vc
  obtain ⟨hl_30, vc⟩ := vc
  replace vc := vc _ rfl
  refine sr_put h inE tyE tyE_ok nmE rfl 3 (by decide) kw_63 rfl dE_init_31 ho_28 rfl rfl hl_30 ?_
  refine sr_aload_n h dE_init_34 rfl 0 rfl ?_
  refine sr_null h dE_init_35 ?_
  obtain ⟨fs_31, ho_32, vc⟩ := vc
  obtain ⟨hl_34, vc⟩ := vc
  replace vc := vc _ rfl
  refine sr_put h inE tyE tyE_ok nmE rfl 4 (by decide) kw_64 rfl dE_init_36 ho_32 rfl rfl hl_34 ?_
  refine sr_aload_n h dE_init_39 rfl 0 rfl ?_
  refine sr_bipush (v := 16) h dE_init_40 (by decide) ?_
  obtain ⟨N_35, hi_36, hN_37, hc_38, vc⟩ := vc
  refine sr_newa (atype := .int) (ty := .int) (t := 0) (N := N_35) (y := (N_35, .inl fun _ => 0)) h rfl (fun _ z => nomatch z) kw_82 rfl dE_init_42 (fun _ => rfl) rfl hi_36 (by omega) (by show N_35 * 4 ≤ _; omega) hc_38.1 hc_38.2 (fun q_39 hz_40 => ?_)
  replace vc := vc q_39 hz_40 _ rfl
  obtain ⟨fs_42, ho_43, vc⟩ := vc
  obtain ⟨hl_45, vc⟩ := vc
  replace vc := vc _ rfl
  refine sr_putF h rfl inE tyE tyE_ok nmE rfl 5 (by decide) kw_65 rfl rfl dE_init_44 ho_43 rfl rfl hl_45 ?_
  refine sr_aload_n h dE_init_47 rfl 0 rfl ?_
  refine sr_iconst (v := 0) h dE_init_48 (by decide) ?_
  obtain ⟨fs_46, ho_47, vc⟩ := vc
  obtain ⟨hl_49, vc⟩ := vc
  replace vc := vc _ rfl
  refine sr_put h inE tyE tyE_ok nmE rfl 6 (by decide) kw_66 rfl dE_init_49 ho_47 rfl rfl hl_49 ?_
  exact sr_vret h dE_init_52 hc_38.1 hc_38.2 vc

abbrev cxE_heads (κ : sp_K) (x : sp_X) (mc ms : Nat) : Prop := sp_C κ x cE_heads 5 RE (some .int) [] "heads" (sp_rm 1 22 mc ms)
set_option maxRecDepth 100000 in
set_option maxHeartbeats 4000000 in
theorem bkE_heads_0 {κ : sp_K} {x : sp_X} {mc ms : Nat} {Rt : Option Value → sp_M → Prop} {Xt : String → sp_M → Prop} {μ : sp_M} {k n : Nat} {a0 : Nat} (h : cxE_heads κ x mc ms) (hk : k ≤ mc ∧ n ≤ ms)
    (vc : (∃ fs_1 : List Value, μ a0 = some (.inr (2, fs_1)) ∧ 6 < fs_1.length ∧ ∀ μ_3 : sp_M, μ_3 = va_up μ a0 (some (.inr (2, fs_1.set 6 (.int 0)))) → (∃ fs_5 : List Value, μ_3 a0 = some (.inr (2, fs_5)) ∧ ∃ r_7 : Option Nat, fs_5[0]? = some (va_rf r_7) ∧ (∃ a_9 : Nat, r_7 = some a_9 ∧ ∃ (N_10 : Nat) (f_11 : Nat → Option Nat), μ_3 a_9 = some (sp_ra κ 3 N_10 f_11) ∧ sp_w κ x (sp_F κ x Rt Xt mc ms) k n 15 [(0, .ref a0), (1, .ref a_9), (2, .int (nI N_10)), (3, .int 0)] [] μ_3)))) : sp_w κ x (sp_F κ x Rt Xt mc ms) k n 0 [(0, .ref a0)] [] μ := by
  refine sr_aload_n h dE_heads_0 rfl 0 rfl ?_
  refine sr_iconst (v := 0) h dE_heads_1 (by decide) ?_
  obtain ⟨fs_1, ho_2, vc⟩ := vc
  obtain ⟨hl_4, vc⟩ := vc
  replace vc := vc _ rfl
  refine sr_put h inE tyE tyE_ok nmE rfl 6 (by decide) kw_66 rfl dE_heads_2 ho_2 rfl rfl hl_4 ?_
  refine sr_aload_n h dE_heads_5 rfl 0 rfl ?_
  obtain ⟨fs_5, ho_6, vc⟩ := vc
  obtain ⟨r_7, hv_8, vc⟩ := vc
  refine sr_get h inE rfl 0 (by decide) kw_60 dE_heads_6 ho_6 hv_8 ?_
  refine sr_astoreO_n (lv' := [(0, .ref a0), (1, va_rf r_7)]) h dE_heads_9 rfl (by decide) rfl ?_
  refine sr_aloadO_n h dE_heads_10 rfl 1 rfl ?_
  obtain ⟨a_9, rfl, vc⟩ := vc
  obtain ⟨N_10, f_11, ho_12, vc⟩ := vc
  refine sr_alen (t := 3) h dE_heads_11 ho_12 rfl ?_
  refine sr_istore_n (lv' := [(0, .ref a0), (1, .ref a_9), (2, .int (nI N_10))]) h dE_heads_12 rfl (by decide) rfl ?_
  refine sr_iconst (v := 0) h dE_heads_13 (by decide) ?_
  refine sr_istore_n (lv' := [(0, .ref a0), (1, .ref a_9), (2, .int (nI N_10)), (3, .int 0)]) h dE_heads_14 rfl (by decide) rfl ?_
  exact vc
set_option maxRecDepth 100000 in
set_option maxHeartbeats 4000000 in
theorem bkE_heads_15 {κ : sp_K} {x : sp_X} {mc ms : Nat} {Rt : Option Value → sp_M → Prop} {Xt : String → sp_M → Prop} {μ : sp_M} {k n : Nat} {a0 : Nat} {a1 : Nat} {v2 : Int32} {v3 : Int32} (h : cxE_heads κ x mc ms) (hk : k ≤ mc ∧ n ≤ ms)
    (vc : ((v2 ≤ v3 → (∃ fs_1 : List Value, μ a0 = some (.inr (2, fs_1)) ∧ ∃ v_3 : Int32, fs_1[6]? = some (.int v_3) ∧ Rt (some (.int v_3)) μ)) ∧ (¬ v2 ≤ v3 → (∃ (N_5 : Nat) (f_6 : Nat → Option Nat), μ a1 = some (sp_ra κ 3 N_5 f_6) ∧ ∃ j_8 : Nat, v3 = nI j_8 ∧ j_8 < N_5 ∧ ∃ r_11 : Option Nat, f_6 j_8 = r_11 ∧ ((r_11 = none → sp_w κ x (sp_F κ x Rt Xt mc ms) k n 15 [(0, .ref a0), (1, .ref a1), (2, .int v2), (3, .int (v3 + 1))] [] μ) ∧ (∀ a_13 : Nat, r_11 = some a_13 → (∃ fs_14 : List Value, μ a_13 = some (.inr (0, fs_14)) ∧ ∃ v_16 : Int32, fs_14[4]? = some (.int v_16) ∧ ((v_16 = 0 → sp_w κ x (sp_F κ x Rt Xt mc ms) k n 15 [(0, .ref a0), (1, .ref a1), (2, .int v2), (3, .int (v3 + 1))] [] μ) ∧ (¬ v_16 = 0 → (∃ v_18 : Int32, fs_14[3]? = some (.int v_18) ∧ (∃ mc_20 ms_21 : Nat, (k + mc_20 ≤ mc ∧ n + ms_21 ≤ ms) ∧ ∃ fs_25 : List Value, μ a0 = some (.inr (2, fs_25)) ∧ sp_m x.2.1 κ yE_putOnList wE_putOnList 0 0 mc_20 ms_21 [.ref a0, .int v_18] μ (fun v_23 μ_24 => v_23 = none ∧ sp_w κ x (sp_F κ x Rt Xt mc ms) (k + mc_20) (n + ms_21) 15 [(0, .ref a0), (1, .ref a1), (2, .int v2), (3, .int (v3 + 1))] [] μ_24) (fun E_28 μ_24 => Xt E_28 μ_24)))))))))))) : sp_w κ x (sp_F κ x Rt Xt mc ms) k n 15 [(0, .ref a0), (1, .ref a1), (2, .int v2), (3, .int v3)] [] μ := by
  refine sr_iload_n h dE_heads_15 rfl 3 rfl ?_
  refine sr_iload_n h dE_heads_16 rfl 2 rfl ?_
  refine sr_icmp_ge (tgt := 53) h dE_heads_17 (by decide) (fun c_30 => ?_) (fun c_30 => ?_)
  · replace vc := vc.1 c_30
    refine sr_aload_n h dE_heads_53 rfl 0 rfl ?_
    obtain ⟨fs_1, ho_2, vc⟩ := vc
    obtain ⟨v_3, hv_4, vc⟩ := vc
    refine sr_get h inE rfl 6 (by decide) kw_66 dE_heads_54 ho_2 hv_4 ?_
    exact sr_iret h dE_heads_57 hk.1 hk.2 vc
  · replace vc := vc.2 c_30
    refine sr_aload_n h dE_heads_20 rfl 1 rfl ?_
    refine sr_iload_n h dE_heads_21 rfl 3 rfl ?_
    obtain ⟨N_5, f_6, ho_7, vc⟩ := vc
    obtain ⟨j_8, hi_9, hj_10, vc⟩ := vc
    obtain ⟨r_11, hr_12, vc⟩ := vc
    refine sr_aald h dE_heads_22 rfl ho_7 hi_9 hj_10 hr_12 ?_
    refine sr_astoreO (lv' := [(0, .ref a0), (1, .ref a1), (2, .int v2), (3, .int v3), (4, va_rf r_11)]) h dE_heads_23 (by decide) rfl ?_
    refine sr_aloadO h dE_heads_25 4 rfl ?_
    rcases r_11 with _ | a_13
    · replace vc := vc.1 rfl
      refine sr_ifnull_n (tgt := 47) h dE_heads_27 (by decide) ?_
      refine sr_iinc (u := v3 + 1) (lv' := [(0, .ref a0), (1, .ref a1), (2, .int v2), (3, .int (v3 + 1)), (4, .null)]) h dE_heads_47 3 rfl rfl (by decide) rfl ?_
      refine sr_goto (tgt := 15) h dE_heads_50 (by decide) ?_
      exact sr_sub (lv' := [(0, .ref a0), (1, .ref a1), (2, .int v2), (3, .int (v3 + 1))]) [0, 1, 2, 3] rfl vc
    · replace vc := vc.2 a_13 rfl
      refine sr_ifnull_s h dE_heads_27 ?_
      refine sr_aload h dE_heads_30 4 rfl ?_
      obtain ⟨fs_14, ho_15, vc⟩ := vc
      obtain ⟨v_16, hv_17, vc⟩ := vc
      refine sr_get h inA rfl 4 (by decide) kw_325 dE_heads_32 ho_15 hv_17 ?_
      refine sr_if_eq (tgt := 47) h dE_heads_35 (by decide) (fun c_29 => ?_) (fun c_29 => ?_)
      · replace vc := vc.1 c_29
        refine sr_iinc (u := v3 + 1) (lv' := [(0, .ref a0), (1, .ref a1), (2, .int v2), (3, .int (v3 + 1)), (4, .ref a_13)]) h dE_heads_47 3 rfl rfl (by decide) rfl ?_
        refine sr_goto (tgt := 15) h dE_heads_50 (by decide) ?_
        exact sr_sub (lv' := [(0, .ref a0), (1, .ref a1), (2, .int v2), (3, .int (v3 + 1))]) [0, 1, 2, 3] rfl vc
      · replace vc := vc.2 c_29
        refine sr_aload_n h dE_heads_38 rfl 0 rfl ?_
        refine sr_aload h dE_heads_39 4 rfl ?_
        obtain ⟨v_18, hv_19, vc⟩ := vc
        refine sr_get h inA rfl 3 (by decide) kw_323 dE_heads_41 ho_15 hv_19 ?_
        obtain ⟨mc_20, ms_21, hc_22, vc⟩ := vc
        obtain ⟨fs_25, ho_26, vc⟩ := vc
        refine sr_callV (y := yE_putOnList) (n0 := 1) (As := [.int v_18]) h (sp_gV kw_87 kw_89 kw_0 kw_34 kw_90) rfl (by decide +kernel) ⟨Nat.le_of_ble_eq_true rfl, Nat.le_of_ble_eq_true rfl⟩ (ci := 2) rfl dE_heads_44 rfl rfl (Nat.le_of_ble_eq_true rfl) hc_22 ho_26 vc (fun v_23 μ_24 vc' => ?_) (fun E_28 μ_24 vc' => ?_)
        · replace vc := vc'
          clear vc'
          obtain ⟨rfl, vc⟩ := vc
          refine sr_iinc (u := v3 + 1) (lv' := [(0, .ref a0), (1, .ref a1), (2, .int v2), (3, .int (v3 + 1)), (4, .ref a_13)]) h dE_heads_47 3 rfl rfl (by decide) rfl ?_
          refine sr_goto (tgt := 15) h dE_heads_50 (by decide) ?_
          exact sr_sub (lv' := [(0, .ref a0), (1, .ref a1), (2, .int v2), (3, .int (v3 + 1))]) [0, 1, 2, 3] rfl vc
        · replace vc := vc'
          clear vc'
          exact st_out h (fun _ z => nomatch z) hc_22.1 hc_22.2 vc

abbrev cxE_putOnList (κ : sp_K) (x : sp_X) (mc ms : Nat) : Prop := sp_C κ x cE_putOnList 3 RE none [] "putOnList" (sp_rm 0 0 mc ms)
set_option maxRecDepth 100000 in
set_option maxHeartbeats 4000000 in
theorem bkE_putOnList_0 {κ : sp_K} {x : sp_X} {mc ms : Nat} {Rt : Option Value → sp_M → Prop} {Xt : String → sp_M → Prop} {μ : sp_M} {k n : Nat} {a0 : Nat} {v1 : Int32} (h : cxE_putOnList κ x mc ms) (hk : k ≤ mc ∧ n ≤ ms)
    (vc : (∃ fs_1 : List Value, μ a0 = some (.inr (2, fs_1)) ∧ ∃ v_3 : Int32, fs_1[6]? = some (.int v_3) ∧ ((v_3 < 16 → (sp_w κ x (sp_F κ x Rt Xt mc ms) k n 15 [(0, .ref a0), (1, .int v1), (2, .int v_3)] [] μ)) ∧ (¬ v_3 < 16 → Rt none μ)))) : sp_w κ x (sp_F κ x Rt Xt mc ms) k n 0 [(0, .ref a0), (1, .int v1)] [] μ := by
  refine sr_aload_n h dE_putOnList_0 rfl 0 rfl ?_
  obtain ⟨fs_1, ho_2, vc⟩ := vc
  obtain ⟨v_3, hv_4, vc⟩ := vc
  refine sr_get h inE rfl 6 (by decide) kw_66 dE_putOnList_1 ho_2 hv_4 ?_
  refine sr_bipush (v := 16) h dE_putOnList_4 (by decide) ?_
  refine sr_icmp_lt (tgt := 10) h dE_putOnList_6 (by decide) (fun c_5 => ?_) (fun c_5 => ?_)
  · replace vc := vc.1 c_5
    refine sr_aload_n h dE_putOnList_10 rfl 0 rfl ?_
    refine sr_get h inE rfl 6 (by decide) kw_66 dE_putOnList_11 ho_2 hv_4 ?_
    refine sr_istore_n (lv' := [(0, .ref a0), (1, .int v1), (2, .int v_3)]) h dE_putOnList_14 rfl (by decide) rfl ?_
    exact vc
  · replace vc := vc.2 c_5
    exact sr_vret h dE_putOnList_9 hk.1 hk.2 vc
set_option maxRecDepth 100000 in
set_option maxHeartbeats 4000000 in
theorem bkE_putOnList_15 {κ : sp_K} {x : sp_X} {mc ms : Nat} {Rt : Option Value → sp_M → Prop} {Xt : String → sp_M → Prop} {μ : sp_M} {k n : Nat} {a0 : Nat} {v1 : Int32} {v2 : Int32} (h : cxE_putOnList κ x mc ms) (hk : k ≤ mc ∧ n ≤ ms)
    (vc : ((v2 ≤ 0 → sp_w κ x (sp_F κ x Rt Xt mc ms) k n 51 [(0, .ref a0), (1, .int v1), (2, .int v2)] [] μ) ∧ (¬ v2 ≤ 0 → (∃ fs_1 : List Value, μ a0 = some (.inr (2, fs_1)) ∧ ∃ r_3 : Option Nat, fs_1[5]? = some (va_rf r_3) ∧ (∃ a_5 : Nat, r_3 = some a_5 ∧ ∃ (N_6 : Nat) (f_7 : Nat → Int32), μ a_5 = some (sp_ia κ N_6 f_7) ∧ ∃ j_9 : Nat, v2 - 1 = nI j_9 ∧ j_9 < N_6 ∧ (((f_7 j_9) ≤ v1 → sp_w κ x (sp_F κ x Rt Xt mc ms) k n 51 [(0, .ref a0), (1, .int v1), (2, .int v2)] [] μ) ∧ (¬ (f_7 j_9) ≤ v1 → (((∃ j_12 : Nat, v2 - 1 = nI j_12 ∧ j_12 < N_6 ∧ (∃ j_15 : Nat, v2 = nI j_15 ∧ j_15 < N_6 ∧ ∀ μ_18 : sp_M, μ_18 = va_up μ a_5 (some (sp_ia κ N_6 (upd f_7 j_15 (f_7 j_12)))) → sp_w κ x (sp_F κ x Rt Xt mc ms) k n 15 [(0, .ref a0), (1, .int v1), (2, .int (v2 + (-1)))] [] μ_18))))))))))) : sp_w κ x (sp_F κ x Rt Xt mc ms) k n 15 [(0, .ref a0), (1, .int v1), (2, .int v2)] [] μ := by
  refine sr_iload_n h dE_putOnList_15 rfl 2 rfl ?_
  refine sr_if_le (tgt := 51) h dE_putOnList_16 (by decide) (fun c_20 => ?_) (fun c_20 => ?_)
  · replace vc := vc.1 c_20
    exact vc
  · replace vc := vc.2 c_20
    refine sr_aload_n h dE_putOnList_19 rfl 0 rfl ?_
    obtain ⟨fs_1, ho_2, vc⟩ := vc
    obtain ⟨r_3, hv_4, vc⟩ := vc
    refine sr_get h inE rfl 5 (by decide) kw_65 dE_putOnList_20 ho_2 hv_4 ?_
    refine sr_iload_n h dE_putOnList_23 rfl 2 rfl ?_
    refine sr_iconst (v := 1) h dE_putOnList_24 (by decide) ?_
    refine sr_isub h dE_putOnList_25 ?_
    obtain ⟨a_5, rfl, vc⟩ := vc
    obtain ⟨N_6, f_7, ho_8, vc⟩ := vc
    obtain ⟨j_9, hi_10, hj_11, vc⟩ := vc
    refine sr_iald h dE_putOnList_26 ho_8 hi_10 hj_11 ?_
    refine sr_iload_n h dE_putOnList_27 rfl 1 rfl ?_
    refine sr_icmp_le (tgt := 51) h dE_putOnList_28 (by decide) (fun c_19 => ?_) (fun c_19 => ?_)
    · replace vc := vc.1 c_19
      exact vc
    · replace vc := vc.2 c_19
      refine sr_aload_n h dE_putOnList_31 rfl 0 rfl ?_
      refine sr_get h inE rfl 5 (by decide) kw_65 dE_putOnList_32 ho_2 hv_4 ?_
      refine sr_iload_n h dE_putOnList_35 rfl 2 rfl ?_
      refine sr_aload_n h dE_putOnList_36 rfl 0 rfl ?_
      refine sr_get h inE rfl 5 (by decide) kw_65 dE_putOnList_37 ho_2 hv_4 ?_
      refine sr_iload_n h dE_putOnList_40 rfl 2 rfl ?_
      refine sr_iconst (v := 1) h dE_putOnList_41 (by decide) ?_
      refine sr_isub h dE_putOnList_42 ?_
      obtain ⟨j_12, hi_13, hj_14, vc⟩ := vc
      refine sr_iald h dE_putOnList_43 ho_8 hi_13 hj_14 ?_
      obtain ⟨j_15, hi_16, hj_17, vc⟩ := vc
      replace vc := vc _ rfl
      refine sr_iast h dE_putOnList_44 ho_8 hi_16 hj_17 ?_
      refine sr_iinc (u := v2 + (-1)) (lv' := [(0, .ref a0), (1, .int v1), (2, .int (v2 + (-1)))]) h dE_putOnList_45 2 rfl rfl (by decide) rfl ?_
      refine sr_goto (tgt := 15) h dE_putOnList_48 (by decide) ?_
      exact vc
set_option maxRecDepth 100000 in
set_option maxHeartbeats 4000000 in
theorem bkE_putOnList_51 {κ : sp_K} {x : sp_X} {mc ms : Nat} {Rt : Option Value → sp_M → Prop} {Xt : String → sp_M → Prop} {μ : sp_M} {k n : Nat} {a0 : Nat} {v1 : Int32} {v2 : Int32} (h : cxE_putOnList κ x mc ms) (hk : k ≤ mc ∧ n ≤ ms)
    (vc : (∃ fs_1 : List Value, μ a0 = some (.inr (2, fs_1)) ∧ ∃ r_3 : Option Nat, fs_1[5]? = some (va_rf r_3) ∧ (∃ a_5 : Nat, r_3 = some a_5 ∧ ∃ (N_6 : Nat) (f_7 : Nat → Int32), μ a_5 = some (sp_ia κ N_6 f_7) ∧ ∃ j_9 : Nat, v2 = nI j_9 ∧ j_9 < N_6 ∧ ∀ μ_12 : sp_M, μ_12 = va_up μ a_5 (some (sp_ia κ N_6 (upd f_7 j_9 v1))) → (∃ fs_13 : List Value, μ_12 a0 = some (.inr (2, fs_13)) ∧ ∃ v_15 : Int32, fs_13[6]? = some (.int v_15) ∧ (6 < fs_13.length ∧ ∀ μ_17 : sp_M, μ_17 = va_up μ_12 a0 (some (.inr (2, fs_13.set 6 (.int (v_15 + 1))))) → Rt none μ_17))))) : sp_w κ x (sp_F κ x Rt Xt mc ms) k n 51 [(0, .ref a0), (1, .int v1), (2, .int v2)] [] μ := by
  refine sr_aload_n h dE_putOnList_51 rfl 0 rfl ?_
  obtain ⟨fs_1, ho_2, vc⟩ := vc
  obtain ⟨r_3, hv_4, vc⟩ := vc
  refine sr_get h inE rfl 5 (by decide) kw_65 dE_putOnList_52 ho_2 hv_4 ?_
  refine sr_iload_n h dE_putOnList_55 rfl 2 rfl ?_
  refine sr_iload_n h dE_putOnList_56 rfl 1 rfl ?_
  obtain ⟨a_5, rfl, vc⟩ := vc
  obtain ⟨N_6, f_7, ho_8, vc⟩ := vc
  obtain ⟨j_9, hi_10, hj_11, vc⟩ := vc
  replace vc := vc _ rfl
  refine sr_iast h dE_putOnList_57 ho_8 hi_10 hj_11 ?_
  refine sr_aload_n h dE_putOnList_58 rfl 0 rfl ?_
  refine sr_dup h dE_putOnList_59 (sp_c1r _) ?_
  obtain ⟨fs_13, ho_14, vc⟩ := vc
  obtain ⟨v_15, hv_16, vc⟩ := vc
  refine sr_get h inE rfl 6 (by decide) kw_66 dE_putOnList_60 ho_14 hv_16 ?_
  refine sr_iconst (v := 1) h dE_putOnList_63 (by decide) ?_
  refine sr_iadd h dE_putOnList_64 ?_
  obtain ⟨hl_18, vc⟩ := vc
  replace vc := vc _ rfl
  refine sr_put h inE tyE tyE_ok nmE rfl 6 (by decide) kw_66 rfl dE_putOnList_65 ho_14 rfl rfl hl_18 ?_
  exact sr_vret h dE_putOnList_68 hk.1 hk.2 vc

abbrev cxE_critical (κ : sp_K) (x : sp_X) (mc ms : Nat) : Prop := sp_C κ x cE_critical 5 RE (some .int) [] "critical" (sp_rm 1 22 mc ms)
set_option maxRecDepth 100000 in
set_option maxHeartbeats 4000000 in
theorem bkE_critical_0 {κ : sp_K} {x : sp_X} {mc ms : Nat} {Rt : Option Value → sp_M → Prop} {Xt : String → sp_M → Prop} {μ : sp_M} {k n : Nat} {a0 : Nat} (h : cxE_critical κ x mc ms) (hk : k ≤ mc ∧ n ≤ ms)
    (vc : (∃ fs_1 : List Value, μ a0 = some (.inr (2, fs_1)) ∧ ∃ v_3 : Int32, fs_1[3]? = some (.int v_3) ∧ (∃ r_5 : Option Nat, fs_1[4]? = some (va_rf r_5) ∧ sp_w κ x (sp_F κ x Rt Xt mc ms) k n 12 [(0, .ref a0), (1, .int 0), (2, .int v_3), (3, va_rf r_5)] [] μ))) : sp_w κ x (sp_F κ x Rt Xt mc ms) k n 0 [(0, .ref a0)] [] μ := by
  refine sr_iconst (v := 0) h dE_critical_0 (by decide) ?_
  refine sr_istore_n (lv' := [(0, .ref a0), (1, .int 0)]) h dE_critical_1 rfl (by decide) rfl ?_
  refine sr_aload_n h dE_critical_2 rfl 0 rfl ?_
  obtain ⟨fs_1, ho_2, vc⟩ := vc
  obtain ⟨v_3, hv_4, vc⟩ := vc
  refine sr_get h inE rfl 3 (by decide) kw_63 dE_critical_3 ho_2 hv_4 ?_
  refine sr_istore_n (lv' := [(0, .ref a0), (1, .int 0), (2, .int v_3)]) h dE_critical_6 rfl (by decide) rfl ?_
  refine sr_aload_n h dE_critical_7 rfl 0 rfl ?_
  obtain ⟨r_5, hv_6, vc⟩ := vc
  refine sr_get h inE rfl 4 (by decide) kw_64 dE_critical_8 ho_2 hv_6 ?_
  refine sr_astoreO_n (lv' := [(0, .ref a0), (1, .int 0), (2, .int v_3), (3, va_rf r_5)]) h dE_critical_11 rfl (by decide) rfl ?_
  exact vc
set_option maxRecDepth 100000 in
set_option maxHeartbeats 4000000 in
theorem bkE_critical_12 {κ : sp_K} {x : sp_X} {mc ms : Nat} {Rt : Option Value → sp_M → Prop} {Xt : String → sp_M → Prop} {μ : sp_M} {k n : Nat} {a0 : Nat} {v1 : Int32} {v2 : Int32} {r3 : Option Nat} (h : cxE_critical κ x mc ms) (hk : k ≤ mc ∧ n ≤ ms)
    (vc : ((r3 = none → Rt (some (.int v1)) μ) ∧ (∀ a_1 : Nat, r3 = some a_1 → (∃ fs_2 : List Value, μ a_1 = some (.inr (1, fs_2)) ∧ ∃ v_4 : Int32, fs_2[2]? = some (.int v_4) ∧ (∃ v_6 : Int32, fs_2[6]? = some (.int v_6) ∧ ((v_6 = 0 → sp_w κ x (sp_F κ x Rt Xt mc ms) k n 54 [(0, .ref a0), (1, .int v1), (2, .int v2), (3, .ref a_1), (4, .int (if v_4 < v2 then v_4 else v2))] [] μ) ∧ (¬ v_6 = 0 → (∃ v_8 : Int32, fs_2[1]? = some (.int v_8) ∧ (((if v_4 < v2 then v_4 else v2) < v_8 → sp_w κ x (sp_F κ x Rt Xt mc ms) k n 54 [(0, .ref a0), (1, .int v1), (2, .int v2), (3, .ref a_1), (4, .int (if v_4 < v2 then v_4 else v2))] [] μ) ∧ (¬ (if v_4 < v2 then v_4 else v2) < v_8 → (sp_w κ x (sp_F κ x Rt Xt mc ms) k n 54 [(0, .ref a0), (1, .int (v1 + (((if v_4 < v2 then v_4 else v2) - v_8) + 1))), (2, .int v2), (3, .ref a_1), (4, .int (if v_4 < v2 then v_4 else v2))] [] μ))))))))))) : sp_w κ x (sp_F κ x Rt Xt mc ms) k n 12 [(0, .ref a0), (1, .int v1), (2, .int v2), (3, va_rf r3)] [] μ := by
  refine sr_aloadO_n h dE_critical_12 rfl 3 rfl ?_
  rcases r3 with _ | a_1
  · replace vc := vc.1 rfl
    refine sr_ifnull_n (tgt := 71) h dE_critical_13 (by decide) ?_
    refine sr_iload_n h dE_critical_71 rfl 1 rfl ?_
    exact sr_iret h dE_critical_72 hk.1 hk.2 vc
  · replace vc := vc.2 a_1 rfl
    refine sr_ifnull_s h dE_critical_13 ?_
    refine sr_iload_n h dE_critical_16 rfl 2 rfl ?_
    refine sr_aload_n h dE_critical_17 rfl 3 rfl ?_
    obtain ⟨fs_2, ho_3, vc⟩ := vc
    obtain ⟨v_4, hv_5, vc⟩ := vc
    refine sr_get h inS rfl 2 (by decide) kw_359 dE_critical_18 ho_3 hv_5 ?_
    refine sr_mmin h kw_95 kw_96 kw_44 kw_mmin dE_critical_21 (Nat.le_of_ble_eq_true rfl) (Nat.le_of_ble_eq_true rfl) hk.1 hk.2 ?_
    refine sr_istore (lv' := [(0, .ref a0), (1, .int v1), (2, .int v2), (3, .ref a_1), (4, .int (if v_4 < v2 then v_4 else v2))]) h dE_critical_24 (by decide) rfl ?_
    refine sr_aload_n h dE_critical_26 rfl 3 rfl ?_
    obtain ⟨v_6, hv_7, vc⟩ := vc
    refine sr_get h inS rfl 6 (by decide) kw_365 dE_critical_27 ho_3 hv_7 ?_
    refine sr_if_eq (tgt := 54) h dE_critical_30 (by decide) (fun c_11 => ?_) (fun c_11 => ?_)
    · replace vc := vc.1 c_11
      exact vc
    · replace vc := vc.2 c_11
      refine sr_iload h dE_critical_33 4 rfl ?_
      refine sr_aload_n h dE_critical_35 rfl 3 rfl ?_
      obtain ⟨v_8, hv_9, vc⟩ := vc
      refine sr_get h inS rfl 1 (by decide) kw_357 dE_critical_36 ho_3 hv_9 ?_
      refine sr_icmp_lt (tgt := 54) h dE_critical_39 (by decide) (fun c_10 => ?_) (fun c_10 => ?_)
      · replace vc := vc.1 c_10
        exact vc
      · replace vc := vc.2 c_10
        refine sr_iload_n h dE_critical_42 rfl 1 rfl ?_
        refine sr_iload h dE_critical_43 4 rfl ?_
        refine sr_aload_n h dE_critical_45 rfl 3 rfl ?_
        refine sr_get h inS rfl 1 (by decide) kw_357 dE_critical_46 ho_3 hv_9 ?_
        refine sr_isub h dE_critical_49 ?_
        refine sr_iconst (v := 1) h dE_critical_50 (by decide) ?_
        refine sr_iadd h dE_critical_51 ?_
        refine sr_iadd h dE_critical_52 ?_
        refine sr_istore_n (lv' := [(0, .ref a0), (1, .int (v1 + (((if v_4 < v2 then v_4 else v2) - v_8) + 1))), (2, .int v2), (3, .ref a_1), (4, .int (if v_4 < v2 then v_4 else v2))]) h dE_critical_53 rfl (by decide) rfl ?_
        exact vc
set_option maxRecDepth 100000 in
set_option maxHeartbeats 4000000 in
theorem bkE_critical_54 {κ : sp_K} {x : sp_X} {mc ms : Nat} {Rt : Option Value → sp_M → Prop} {Xt : String → sp_M → Prop} {μ : sp_M} {k n : Nat} {a0 : Nat} {v1 : Int32} {v2 : Int32} {a3 : Nat} {v4 : Int32} (h : cxE_critical κ x mc ms) (hk : k ≤ mc ∧ n ≤ ms)
    (vc : (∃ mc_1 ms_2 : Nat, (k + mc_1 ≤ mc ∧ n + ms_2 ≤ ms) ∧ ∃ fs_6 : List Value, μ a3 = some (.inr (1, fs_6)) ∧ sp_m x.2.1 κ yS_newestParent wS_newestParent 0 0 mc_1 ms_2 [.ref a3] μ (fun v_4 μ_5 => ∃ v_9 : Int32, v_4 = some (.int v_9) ∧ (∃ fs_10 : List Value, μ_5 a3 = some (.inr (1, fs_10)) ∧ ∃ r_12 : Option Nat, fs_10[7]? = some (va_rf r_12) ∧ sp_w κ x (sp_F κ x Rt Xt mc ms) (k + mc_1) (n + ms_2) 12 [(0, .ref a0), (1, .int v1), (2, .int (if v_9 < v2 then v_9 else v2)), (3, va_rf r_12)] [] μ_5)) (fun E_14 μ_5 => Xt E_14 μ_5))) : sp_w κ x (sp_F κ x Rt Xt mc ms) k n 54 [(0, .ref a0), (1, .int v1), (2, .int v2), (3, .ref a3), (4, .int v4)] [] μ := by
  refine sr_iload_n h dE_critical_54 rfl 2 rfl ?_
  refine sr_aload_n h dE_critical_55 rfl 3 rfl ?_
  obtain ⟨mc_1, ms_2, hc_3, vc⟩ := vc
  obtain ⟨fs_6, ho_7, vc⟩ := vc
  refine sr_callV (y := yS_newestParent) (n0 := 0) (As := []) h (sp_gV kw_98 kw_99 kw_100 kw_47 kw_101) rfl (by decide +kernel) ⟨Nat.le_of_ble_eq_true rfl, Nat.le_of_ble_eq_true rfl⟩ (ci := 1) rfl dE_critical_56 rfl rfl (Nat.le_of_ble_eq_true rfl) hc_3 ho_7 vc (fun v_4 μ_5 vc' => ?_) (fun E_14 μ_5 vc' => ?_)
  · replace vc := vc'
    clear vc'
    obtain ⟨v_9, rfl, vc⟩ := vc
    refine sr_mmin h kw_95 kw_96 kw_44 kw_mmin dE_critical_59 (Nat.le_of_ble_eq_true rfl) (Nat.le_of_ble_eq_true rfl) hc_3.1 hc_3.2 ?_
    refine sr_istore_n (lv' := [(0, .ref a0), (1, .int v1), (2, .int (if v_9 < v2 then v_9 else v2)), (3, .ref a3), (4, .int v4)]) h dE_critical_62 rfl (by decide) rfl ?_
    refine sr_aload_n h dE_critical_63 rfl 3 rfl ?_
    obtain ⟨fs_10, ho_11, vc⟩ := vc
    obtain ⟨r_12, hv_13, vc⟩ := vc
    refine sr_get h inS rfl 7 (by decide) kw_367 dE_critical_64 ho_11 hv_13 ?_
    refine sr_astoreO_n (lv' := [(0, .ref a0), (1, .int v1), (2, .int (if v_9 < v2 then v_9 else v2)), (3, va_rf r_12), (4, .int v4)]) h dE_critical_67 rfl (by decide) rfl ?_
    refine sr_goto (tgt := 12) h dE_critical_68 (by decide) ?_
    exact sr_sub (lv' := [(0, .ref a0), (1, .int v1), (2, .int (if v_9 < v2 then v_9 else v2)), (3, va_rf r_12)]) [0, 1, 2, 3] rfl vc
  · replace vc := vc'
    clear vc'
    exact st_out h (fun _ z => nomatch z) hc_3.1 hc_3.2 vc

abbrev cxE_base (κ : sp_K) (x : sp_X) (mc ms : Nat) : Prop := sp_C κ x cE_base 5 RE (some .int) [] "base" (sp_rm 2 42 mc ms)
set_option maxRecDepth 100000 in
set_option maxHeartbeats 4000000 in
theorem bkE_base_0 {κ : sp_K} {x : sp_X} {mc ms : Nat} {Rt : Option Value → sp_M → Prop} {Xt : String → sp_M → Prop} {μ : sp_M} {k n : Nat} {a0 : Nat} {v1 : Int32} (h : cxE_base κ x mc ms) (hk : k ≤ mc ∧ n ≤ ms)
    (vc : (∃ mc_1 ms_2 : Nat, (k + mc_1 ≤ mc ∧ n + ms_2 ≤ ms) ∧ sp_m x.2.1 κ yE_highestBelow wE_highestBelow 1 22 mc_1 ms_2 [.int v1] μ (fun v_4 μ_5 => ∃ v_7 : Int32, v_4 = some (.int v_7) ∧ (∃ fs_8 : List Value, μ_5 a0 = some (.inr (2, fs_8)) ∧ ∃ r_10 : Option Nat, fs_8[4]? = some (va_rf r_10) ∧ sp_w κ x (sp_F κ x Rt Xt mc ms) (k + mc_1) (n + ms_2) 10 [(0, .ref a0), (1, .int v1), (2, .int v_7), (3, va_rf r_10)] [] μ_5)) (fun E_12 μ_5 => Xt E_12 μ_5))) : sp_w κ x (sp_F κ x Rt Xt mc ms) k n 0 [(0, .ref a0), (1, .int v1)] [] μ := by
  refine sr_iload_n h dE_base_0 rfl 1 rfl ?_
  obtain ⟨mc_1, ms_2, hc_3, vc⟩ := vc
  refine sr_callS (y := yE_highestBelow) (n0 := 1) (As := [.int v1]) (st := []) h (sp_gS kw_106 kw_107 kw_34 kw_108) rfl (by decide +kernel) ⟨Nat.le_of_ble_eq_true rfl, Nat.le_of_ble_eq_true rfl⟩ dE_base_1 rfl rfl (Nat.le_of_ble_eq_true rfl) hc_3 vc (fun v_4 μ_5 vc' => ?_) (fun E_12 μ_5 vc' => ?_)
  · replace vc := vc'
    clear vc'
    obtain ⟨v_7, rfl, vc⟩ := vc
    refine sr_istore_n (lv' := [(0, .ref a0), (1, .int v1), (2, .int v_7)]) h dE_base_4 rfl (by decide) rfl ?_
    refine sr_aload_n h dE_base_5 rfl 0 rfl ?_
    obtain ⟨fs_8, ho_9, vc⟩ := vc
    obtain ⟨r_10, hv_11, vc⟩ := vc
    refine sr_get h inE rfl 4 (by decide) kw_64 dE_base_6 ho_9 hv_11 ?_
    refine sr_astoreO_n (lv' := [(0, .ref a0), (1, .int v1), (2, .int v_7), (3, va_rf r_10)]) h dE_base_9 rfl (by decide) rfl ?_
    exact vc
  · replace vc := vc'
    clear vc'
    exact st_out h (fun _ z => nomatch z) hc_3.1 hc_3.2 vc
set_option maxRecDepth 100000 in
set_option maxHeartbeats 4000000 in
theorem bkE_base_10 {κ : sp_K} {x : sp_X} {mc ms : Nat} {Rt : Option Value → sp_M → Prop} {Xt : String → sp_M → Prop} {μ : sp_M} {k n : Nat} {a0 : Nat} {v1 : Int32} {v2 : Int32} {r3 : Option Nat} (h : cxE_base κ x mc ms) (hk : k ≤ mc ∧ n ≤ ms)
    (vc : ((r3 = none → Rt (some (.int (-1))) μ) ∧ (∀ a_1 : Nat, r3 = some a_1 → (∃ fs_2 : List Value, μ a_1 = some (.inr (1, fs_2)) ∧ ∃ v_4 : Int32, fs_2[2]? = some (.int v_4) ∧ (∃ v_6 : Int32, fs_2[6]? = some (.int v_6) ∧ ((v_6 = 0 → sp_w κ x (sp_F κ x Rt Xt mc ms) k n 43 [(0, .ref a0), (1, .int v1), (2, .int v2), (3, .ref a_1), (4, .int (if v_4 < v2 then v_4 else v2))] [] μ) ∧ (¬ v_6 = 0 → (∃ v_8 : Int32, fs_2[1]? = some (.int v_8) ∧ (((if v_4 < v2 then v_4 else v2) < v_8 → sp_w κ x (sp_F κ x Rt Xt mc ms) k n 43 [(0, .ref a0), (1, .int v1), (2, .int v2), (3, .ref a_1), (4, .int (if v_4 < v2 then v_4 else v2))] [] μ) ∧ (¬ (if v_4 < v2 then v_4 else v2) < v_8 → Rt (some (.int (if v_4 < v2 then v_4 else v2))) μ)))))))))) : sp_w κ x (sp_F κ x Rt Xt mc ms) k n 10 [(0, .ref a0), (1, .int v1), (2, .int v2), (3, va_rf r3)] [] μ := by
  refine sr_aloadO_n h dE_base_10 rfl 3 rfl ?_
  rcases r3 with _ | a_1
  · replace vc := vc.1 rfl
    refine sr_ifnull_n (tgt := 60) h dE_base_11 (by decide) ?_
    refine sr_iconst (v := -1) h dE_base_60 (by decide) ?_
    exact sr_iret h dE_base_61 hk.1 hk.2 vc
  · replace vc := vc.2 a_1 rfl
    refine sr_ifnull_s h dE_base_11 ?_
    refine sr_iload_n h dE_base_14 rfl 2 rfl ?_
    refine sr_aload_n h dE_base_15 rfl 3 rfl ?_
    obtain ⟨fs_2, ho_3, vc⟩ := vc
    obtain ⟨v_4, hv_5, vc⟩ := vc
    refine sr_get h inS rfl 2 (by decide) kw_359 dE_base_16 ho_3 hv_5 ?_
    refine sr_mmin h kw_95 kw_96 kw_44 kw_mmin dE_base_19 (Nat.le_of_ble_eq_true rfl) (Nat.le_of_ble_eq_true rfl) hk.1 hk.2 ?_
    refine sr_istore (lv' := [(0, .ref a0), (1, .int v1), (2, .int v2), (3, .ref a_1), (4, .int (if v_4 < v2 then v_4 else v2))]) h dE_base_22 (by decide) rfl ?_
    refine sr_aload_n h dE_base_24 rfl 3 rfl ?_
    obtain ⟨v_6, hv_7, vc⟩ := vc
    refine sr_get h inS rfl 6 (by decide) kw_365 dE_base_25 ho_3 hv_7 ?_
    refine sr_if_eq (tgt := 43) h dE_base_28 (by decide) (fun c_11 => ?_) (fun c_11 => ?_)
    · replace vc := vc.1 c_11
      exact vc
    · replace vc := vc.2 c_11
      refine sr_iload h dE_base_31 4 rfl ?_
      refine sr_aload_n h dE_base_33 rfl 3 rfl ?_
      obtain ⟨v_8, hv_9, vc⟩ := vc
      refine sr_get h inS rfl 1 (by decide) kw_357 dE_base_34 ho_3 hv_9 ?_
      refine sr_icmp_lt (tgt := 43) h dE_base_37 (by decide) (fun c_10 => ?_) (fun c_10 => ?_)
      · replace vc := vc.1 c_10
        exact vc
      · replace vc := vc.2 c_10
        refine sr_iload h dE_base_40 4 rfl ?_
        exact sr_iret h dE_base_42 hk.1 hk.2 vc
set_option maxRecDepth 100000 in
set_option maxHeartbeats 4000000 in
theorem bkE_base_43 {κ : sp_K} {x : sp_X} {mc ms : Nat} {Rt : Option Value → sp_M → Prop} {Xt : String → sp_M → Prop} {μ : sp_M} {k n : Nat} {a0 : Nat} {v1 : Int32} {v2 : Int32} {a3 : Nat} {v4 : Int32} (h : cxE_base κ x mc ms) (hk : k ≤ mc ∧ n ≤ ms)
    (vc : (∃ mc_1 ms_2 : Nat, (k + mc_1 ≤ mc ∧ n + ms_2 ≤ ms) ∧ ∃ fs_6 : List Value, μ a3 = some (.inr (1, fs_6)) ∧ sp_m x.2.1 κ yS_newestParent wS_newestParent 0 0 mc_1 ms_2 [.ref a3] μ (fun v_4 μ_5 => ∃ v_9 : Int32, v_4 = some (.int v_9) ∧ (∃ fs_10 : List Value, μ_5 a3 = some (.inr (1, fs_10)) ∧ ∃ r_12 : Option Nat, fs_10[7]? = some (va_rf r_12) ∧ sp_w κ x (sp_F κ x Rt Xt mc ms) (k + mc_1) (n + ms_2) 10 [(0, .ref a0), (1, .int v1), (2, .int (if v_9 < v2 then v_9 else v2)), (3, va_rf r_12)] [] μ_5)) (fun E_14 μ_5 => Xt E_14 μ_5))) : sp_w κ x (sp_F κ x Rt Xt mc ms) k n 43 [(0, .ref a0), (1, .int v1), (2, .int v2), (3, .ref a3), (4, .int v4)] [] μ := by
  refine sr_iload_n h dE_base_43 rfl 2 rfl ?_
  refine sr_aload_n h dE_base_44 rfl 3 rfl ?_
  obtain ⟨mc_1, ms_2, hc_3, vc⟩ := vc
  obtain ⟨fs_6, ho_7, vc⟩ := vc
  refine sr_callV (y := yS_newestParent) (n0 := 0) (As := []) h (sp_gV kw_98 kw_99 kw_100 kw_47 kw_101) rfl (by decide +kernel) ⟨Nat.le_of_ble_eq_true rfl, Nat.le_of_ble_eq_true rfl⟩ (ci := 1) rfl dE_base_45 rfl rfl (Nat.le_of_ble_eq_true rfl) hc_3 ho_7 vc (fun v_4 μ_5 vc' => ?_) (fun E_14 μ_5 vc' => ?_)
  · replace vc := vc'
    clear vc'
    obtain ⟨v_9, rfl, vc⟩ := vc
    refine sr_mmin h kw_95 kw_96 kw_44 kw_mmin dE_base_48 (Nat.le_of_ble_eq_true rfl) (Nat.le_of_ble_eq_true rfl) hc_3.1 hc_3.2 ?_
    refine sr_istore_n (lv' := [(0, .ref a0), (1, .int v1), (2, .int (if v_9 < v2 then v_9 else v2)), (3, .ref a3), (4, .int v4)]) h dE_base_51 rfl (by decide) rfl ?_
    refine sr_aload_n h dE_base_52 rfl 3 rfl ?_
    obtain ⟨fs_10, ho_11, vc⟩ := vc
    obtain ⟨r_12, hv_13, vc⟩ := vc
    refine sr_get h inS rfl 7 (by decide) kw_367 dE_base_53 ho_11 hv_13 ?_
    refine sr_astoreO_n (lv' := [(0, .ref a0), (1, .int v1), (2, .int (if v_9 < v2 then v_9 else v2)), (3, va_rf r_12), (4, .int v4)]) h dE_base_56 rfl (by decide) rfl ?_
    refine sr_goto (tgt := 10) h dE_base_57 (by decide) ?_
    exact sr_sub (lv' := [(0, .ref a0), (1, .int v1), (2, .int (if v_9 < v2 then v_9 else v2)), (3, va_rf r_12)]) [0, 1, 2, 3] rfl vc
  · replace vc := vc'
    clear vc'
    exact st_out h (fun _ z => nomatch z) hc_3.1 hc_3.2 vc

abbrev cxE_highestBelow (κ : sp_K) (x : sp_X) (mc ms : Nat) : Prop := sp_C κ x cE_highestBelow 1 RE (some .int) [] "highestBelow" (sp_rm 1 22 mc ms)
set_option maxRecDepth 100000 in
set_option maxHeartbeats 4000000 in
theorem bkE_highestBelow_0 {κ : sp_K} {x : sp_X} {mc ms : Nat} {Rt : Option Value → sp_M → Prop} {Xt : String → sp_M → Prop} {μ : sp_M} {k n : Nat} {v0 : Int32} (h : cxE_highestBelow κ x mc ms) (hk : k ≤ mc ∧ n ≤ ms)
    (vc : Rt (some (.int ((if v0 < 0 then 0 else v0) - 1))) μ) : sp_w κ x (sp_F κ x Rt Xt mc ms) k n 0 [(0, .int v0)] [] μ := by
  refine sr_iload_n h dE_highestBelow_0 rfl 0 rfl ?_
  refine sr_iconst (v := 0) h dE_highestBelow_1 (by decide) ?_
  refine sr_mmax h kw_109 kw_110 kw_44 kw_mmax dE_highestBelow_2 (Nat.le_of_ble_eq_true rfl) (Nat.le_of_ble_eq_true rfl) hk.1 hk.2 ?_
  refine sr_iconst (v := 1) h dE_highestBelow_5 (by decide) ?_
  refine sr_isub h dE_highestBelow_6 ?_
  exact sr_iret h dE_highestBelow_7 hk.1 hk.2 vc

abbrev cxE_parent (κ : sp_K) (x : sp_X) (mc ms : Nat) : Prop := sp_C κ x cE_parent 4 RE (some .int) [] "parent" (sp_rm 7 113 mc ms)
set_option maxRecDepth 100000 in
set_option maxHeartbeats 4000000 in
theorem bkE_parent_0 {κ : sp_K} {x : sp_X} {mc ms : Nat} {Rt : Option Value → sp_M → Prop} {Xt : String → sp_M → Prop} {μ : sp_M} {k n : Nat} {a0 : Nat} {v1 : Int32} {v2 : Int32} (h : cxE_parent κ x mc ms) (hk : k ≤ mc ∧ n ≤ ms)
    (vc : (∃ mc_1 ms_2 : Nat, (k + mc_1 ≤ mc ∧ n + ms_2 ≤ ms) ∧ ∃ fs_6 : List Value, μ a0 = some (.inr (2, fs_6)) ∧ sp_m x.2.1 κ yE_find wE_find 6 90 mc_1 ms_2 [.ref a0, .int v1, .int v2] μ (fun v_4 μ_5 => ∃ v_9 : Int32, v_4 = some (.int v_9) ∧ (∃ mc_10 ms_11 : Nat, ((k + mc_1) + mc_10 ≤ mc ∧ (n + ms_2) + ms_11 ≤ ms) ∧ ∃ fs_15 : List Value, μ_5 a0 = some (.inr (2, fs_15)) ∧ sp_m x.2.1 κ yE_isListed wE_isListed 0 0 mc_10 ms_11 [.ref a0, .int v_9] μ_5 (fun v_13 μ_14 => ∃ v_18 : Int32, v_13 = some (.int v_18) ∧ ((v_18 = 0 → (∃ fs_19 : List Value, μ_14 a0 = some (.inr (2, fs_19)) ∧ ∃ v_21 : Int32, fs_19[6]? = some (.int v_21) ∧ ((v_21 < 16 → (∃ mc_23 ms_24 : Nat, ((k + mc_1 + mc_10) + mc_23 ≤ mc ∧ (n + ms_2 + ms_11) + ms_24 ≤ ms) ∧ sp_m x.2.1 κ yE_putOnList wE_putOnList 0 0 mc_23 ms_24 [.ref a0, .int v_9] μ_14 (fun v_26 μ_27 => v_26 = none ∧ (∃ fs_29 : List Value, μ_27 a0 = some (.inr (2, fs_29)) ∧ ∃ v_31 : Int32, fs_29[6]? = some (.int v_31) ∧ Rt (some (.int v_31)) μ_27)) (fun E_33 μ_27 => Xt E_33 μ_27))) ∧ (¬ v_21 < 16 → (((k + mc_1 + mc_10) + 1 ≤ mc ∧ (n + ms_2 + ms_11) + 6 ≤ ms) ∧ Xt "java/lang/IllegalStateException" μ_14))))) ∧ (¬ v_18 = 0 → (((k + mc_1 + mc_10) + 1 ≤ mc ∧ (n + ms_2 + ms_11) + 6 ≤ ms) ∧ Xt "java/lang/UnsupportedOperationException" μ_14)))) (fun E_38 μ_14 => Xt E_38 μ_14))) (fun E_39 μ_5 => Xt E_39 μ_5))) : sp_w κ x (sp_F κ x Rt Xt mc ms) k n 0 [(0, .ref a0), (1, .int v1), (2, .int v2)] [] μ := by
  refine sr_aload_n h dE_parent_0 rfl 0 rfl ?_
  refine sr_iload_n h dE_parent_1 rfl 1 rfl ?_
  refine sr_iload_n h dE_parent_2 rfl 2 rfl ?_
  obtain ⟨mc_1, ms_2, hc_3, vc⟩ := vc
  obtain ⟨fs_6, ho_7, vc⟩ := vc
  refine sr_callV (y := yE_find) (n0 := 2) (As := [.int v1, .int v2]) h (sp_gV kw_122 kw_124 kw_1 kw_34 kw_125) rfl (by decide +kernel) ⟨Nat.le_of_ble_eq_true rfl, Nat.le_of_ble_eq_true rfl⟩ (ci := 2) rfl dE_parent_3 rfl rfl (Nat.le_of_ble_eq_true rfl) hc_3 ho_7 vc (fun v_4 μ_5 vc' => ?_) (fun E_39 μ_5 vc' => ?_)
  · replace vc := vc'
    clear vc'
    obtain ⟨v_9, rfl, vc⟩ := vc
    refine sr_istore_n (lv' := [(0, .ref a0), (1, .int v1), (2, .int v2), (3, .int v_9)]) h dE_parent_6 rfl (by decide) rfl ?_
    refine sr_aload_n h dE_parent_7 rfl 0 rfl ?_
    refine sr_iload_n h dE_parent_8 rfl 3 rfl ?_
    obtain ⟨mc_10, ms_11, hc_12, vc⟩ := vc
    obtain ⟨fs_15, ho_16, vc⟩ := vc
    refine sr_callV (y := yE_isListed) (n0 := 1) (As := [.int v_9]) h (sp_gV kw_205 kw_207 kw_3 kw_34 kw_208) rfl (by decide +kernel) ⟨Nat.le_of_ble_eq_true rfl, Nat.le_of_ble_eq_true rfl⟩ (ci := 2) rfl dE_parent_9 rfl rfl (Nat.le_of_ble_eq_true rfl) hc_12 ho_16 vc (fun v_13 μ_14 vc' => ?_) (fun E_38 μ_14 vc' => ?_)
    · replace vc := vc'
      clear vc'
      obtain ⟨v_18, rfl, vc⟩ := vc
      refine sr_if_eq (tgt := 23) h dE_parent_12 (by decide) (fun c_37 => ?_) (fun c_37 => ?_)
      · replace vc := vc.1 c_37
        refine sr_aload_n h dE_parent_23 rfl 0 rfl ?_
        obtain ⟨fs_19, ho_20, vc⟩ := vc
        obtain ⟨v_21, hv_22, vc⟩ := vc
        refine sr_get h inE rfl 6 (by decide) kw_66 dE_parent_24 ho_20 hv_22 ?_
        refine sr_bipush (v := 16) h dE_parent_27 (by decide) ?_
        refine sr_icmp_lt (tgt := 40) h dE_parent_29 (by decide) (fun c_35 => ?_) (fun c_35 => ?_)
        · replace vc := vc.1 c_35
          refine sr_aload_n h dE_parent_40 rfl 0 rfl ?_
          refine sr_iload_n h dE_parent_41 rfl 3 rfl ?_
          obtain ⟨mc_23, ms_24, hc_25, vc⟩ := vc
          refine sr_callV (y := yE_putOnList) (n0 := 1) (As := [.int v_9]) h (sp_gV kw_87 kw_89 kw_0 kw_34 kw_90) rfl (by decide +kernel) ⟨Nat.le_of_ble_eq_true rfl, Nat.le_of_ble_eq_true rfl⟩ (ci := 2) rfl dE_parent_42 rfl rfl (Nat.le_of_ble_eq_true rfl) hc_25 ho_20 vc (fun v_26 μ_27 vc' => ?_) (fun E_33 μ_27 vc' => ?_)
          · replace vc := vc'
            clear vc'
            obtain ⟨rfl, vc⟩ := vc
            refine sr_aload_n h dE_parent_45 rfl 0 rfl ?_
            obtain ⟨fs_29, ho_30, vc⟩ := vc
            obtain ⟨v_31, hv_32, vc⟩ := vc
            refine sr_get h inE rfl 6 (by decide) kw_66 dE_parent_46 ho_30 hv_32 ?_
            exact sr_iret h dE_parent_49 hc_25.1 hc_25.2 vc
          · replace vc := vc'
            clear vc'
            exact st_out h (fun _ z => nomatch z) hc_25.1 hc_25.2 vc
        · replace vc := vc.2 c_35
          obtain ⟨hc_34, vc⟩ := vc
          exact sr_throw0 (names := ["java/lang/RuntimeException", "java/lang/Exception"]) h (by decide +kernel) (by decide +kernel) kw_224 kw_41 ka_E_52 kg_E_52 dE_parent_32 dE_parent_35 dE_parent_36 dE_parent_39 (fun _ z => nomatch z) (Nat.le_of_ble_eq_true rfl) (Nat.le_of_ble_eq_true rfl) hc_34.1 hc_34.2 hc_34.1 hc_34.2 vc
      · replace vc := vc.2 c_37
        obtain ⟨hc_36, vc⟩ := vc
        exact sr_throw0 (names := ["java/lang/RuntimeException", "java/lang/Exception"]) h (by decide +kernel) (by decide +kernel) kw_209 kw_40 ka_E_49 kg_E_49 dE_parent_15 dE_parent_18 dE_parent_19 dE_parent_22 (fun _ z => nomatch z) (Nat.le_of_ble_eq_true rfl) (Nat.le_of_ble_eq_true rfl) hc_36.1 hc_36.2 hc_36.1 hc_36.2 vc
    · replace vc := vc'
      clear vc'
      exact st_out h (fun _ z => nomatch z) hc_12.1 hc_12.2 vc
  · replace vc := vc'
    clear vc'
    exact st_out h (fun _ z => nomatch z) hc_3.1 hc_3.2 vc

abbrev cxE_find (κ : sp_K) (x : sp_X) (mc ms : Nat) : Prop := sp_C κ x cE_find 4 RE (some .int) [] "find" (sp_rm 6 90 mc ms)
set_option maxRecDepth 100000 in
set_option maxHeartbeats 4000000 in
theorem bkE_find_0 {κ : sp_K} {x : sp_X} {mc ms : Nat} {Rt : Option Value → sp_M → Prop} {Xt : String → sp_M → Prop} {μ : sp_M} {k n : Nat} {a0 : Nat} {v1 : Int32} {v2 : Int32} (h : cxE_find κ x mc ms) (hk : k ≤ mc ∧ n ≤ ms)
    (vc : (∃ mc_1 ms_2 : Nat, (k + mc_1 ≤ mc ∧ n + ms_2 ≤ ms) ∧ sp_m x.2.1 κ yE_isAgentName wE_isAgentName 0 0 mc_1 ms_2 [.int v1] μ (fun v_4 μ_5 => ∃ v_7 : Int32, v_4 = some (.int v_7) ∧ ((v_7 = 0 → (((k + mc_1) + 1 ≤ mc ∧ (n + ms_2) + 6 ≤ ms) ∧ Xt "java/util/NoSuchElementException" μ_5)) ∧ (¬ v_7 = 0 → (∃ fs_9 : List Value, μ_5 a0 = some (.inr (2, fs_9)) ∧ ∃ r_11 : Option Nat, fs_9[0]? = some (va_rf r_11) ∧ (∃ a_13 : Nat, r_11 = some a_13 ∧ ∃ (N_14 : Nat) (f_15 : Nat → Option Nat), μ_5 a_13 = some (sp_ra κ 3 N_14 f_15) ∧ ∃ j_17 : Nat, v1 = nI j_17 ∧ j_17 < N_14 ∧ ∃ r_20 : Option Nat, f_15 j_17 = r_20 ∧ ((r_20 = none → (((k + mc_1) + 1 ≤ mc ∧ (n + ms_2) + 6 ≤ ms) ∧ Xt "java/util/NoSuchElementException" μ_5)) ∧ (∀ a_22 : Nat, r_20 = some a_22 → ((∃ j_24 : Nat, v1 = nI j_24 ∧ j_24 < N_14 ∧ ∃ r_27 : Option Nat, f_15 j_24 = r_27 ∧ (∃ a_29 : Nat, r_27 = some a_29 ∧ ∃ fs_30 : List Value, μ_5 a_29 = some (.inr (0, fs_30)) ∧ ∃ r_32 : Option Nat, fs_30[5]? = some (va_rf r_32) ∧ sp_w κ x (sp_F κ x Rt Xt mc ms) (k + mc_1) (n + ms_2) 34 [(0, .ref a0), (1, .int v1), (2, .int v2), (3, va_rf r_32)] [] μ_5)))))))))) (fun E_35 μ_5 => Xt E_35 μ_5))) : sp_w κ x (sp_F κ x Rt Xt mc ms) k n 0 [(0, .ref a0), (1, .int v1), (2, .int v2)] [] μ := by
  refine sr_iload_n h dE_find_0 rfl 1 rfl ?_
  obtain ⟨mc_1, ms_2, hc_3, vc⟩ := vc
  refine sr_callS (y := yE_isAgentName) (n0 := 1) (As := [.int v1]) (st := []) h (sp_gS kw_126 kw_127 kw_34 kw_128) rfl (by decide +kernel) ⟨Nat.le_of_ble_eq_true rfl, Nat.le_of_ble_eq_true rfl⟩ dE_find_1 rfl rfl (Nat.le_of_ble_eq_true rfl) hc_3 vc (fun v_4 μ_5 vc' => ?_) (fun E_35 μ_5 vc' => ?_)
  · replace vc := vc'
    clear vc'
    obtain ⟨v_7, rfl, vc⟩ := vc
    refine sr_if_eq (tgt := 16) h dE_find_4 (by decide) (fun c_34 => ?_) (fun c_34 => ?_)
    · replace vc := vc.1 c_34
      obtain ⟨hc_8, vc⟩ := vc
      exact sr_throw0 (names := ["java/lang/RuntimeException", "java/lang/Exception"]) h (by decide +kernel) (by decide +kernel) kw_129 kw_39 ka_E_123 kg_E_123 dE_find_16 dE_find_19 dE_find_20 dE_find_23 (fun _ z => nomatch z) (Nat.le_of_ble_eq_true rfl) (Nat.le_of_ble_eq_true rfl) hc_8.1 hc_8.2 hc_8.1 hc_8.2 vc
    · replace vc := vc.2 c_34
      refine sr_aload_n h dE_find_7 rfl 0 rfl ?_
      obtain ⟨fs_9, ho_10, vc⟩ := vc
      obtain ⟨r_11, hv_12, vc⟩ := vc
      refine sr_get h inE rfl 0 (by decide) kw_60 dE_find_8 ho_10 hv_12 ?_
      refine sr_iload_n h dE_find_11 rfl 1 rfl ?_
      obtain ⟨a_13, rfl, vc⟩ := vc
      obtain ⟨N_14, f_15, ho_16, vc⟩ := vc
      obtain ⟨j_17, hi_18, hj_19, vc⟩ := vc
      obtain ⟨r_20, hr_21, vc⟩ := vc
      refine sr_aald h dE_find_12 rfl ho_16 hi_18 hj_19 hr_21 ?_
      rcases r_20 with _ | a_22
      · replace vc := vc.1 rfl
        refine sr_ifnonnull_n h dE_find_13 ?_
        obtain ⟨hc_23, vc⟩ := vc
        exact sr_throw0 (names := ["java/lang/RuntimeException", "java/lang/Exception"]) h (by decide +kernel) (by decide +kernel) kw_129 kw_39 ka_E_123 kg_E_123 dE_find_16 dE_find_19 dE_find_20 dE_find_23 (fun _ z => nomatch z) (Nat.le_of_ble_eq_true rfl) (Nat.le_of_ble_eq_true rfl) hc_23.1 hc_23.2 hc_23.1 hc_23.2 vc
      · replace vc := vc.2 a_22 rfl
        refine sr_ifnonnull_s (tgt := 24) h dE_find_13 (by decide) ?_
        refine sr_aload_n h dE_find_24 rfl 0 rfl ?_
        refine sr_get h inE rfl 0 (by decide) kw_60 dE_find_25 ho_10 hv_12 ?_
        refine sr_iload_n h dE_find_28 rfl 1 rfl ?_
        obtain ⟨j_24, hi_25, hj_26, vc⟩ := vc
        obtain ⟨r_27, hr_28, vc⟩ := vc
        refine sr_aald h dE_find_29 rfl ho_16 hi_25 hj_26 hr_28 ?_
        obtain ⟨a_29, rfl, vc⟩ := vc
        obtain ⟨fs_30, ho_31, vc⟩ := vc
        obtain ⟨r_32, hv_33, vc⟩ := vc
        refine sr_get h inA rfl 5 (by decide) kw_328 dE_find_30 ho_31 hv_33 ?_
        refine sr_astoreO_n (lv' := [(0, .ref a0), (1, .int v1), (2, .int v2), (3, va_rf r_32)]) h dE_find_33 rfl (by decide) rfl ?_
        exact vc
  · replace vc := vc'
    clear vc'
    exact st_out h (fun _ z => nomatch z) hc_3.1 hc_3.2 vc
set_option maxRecDepth 100000 in
set_option maxHeartbeats 4000000 in
theorem bkE_find_34 {κ : sp_K} {x : sp_X} {mc ms : Nat} {Rt : Option Value → sp_M → Prop} {Xt : String → sp_M → Prop} {μ : sp_M} {k n : Nat} {a0 : Nat} {v1 : Int32} {v2 : Int32} {r3 : Option Nat} (h : cxE_find κ x mc ms) (hk : k ≤ mc ∧ n ≤ ms)
    (vc : ((r3 = none → ((k + 1 ≤ mc ∧ n + 6 ≤ ms) ∧ Xt "java/util/NoSuchElementException" μ)) ∧ (∀ a_1 : Nat, r3 = some a_1 → (∃ mc_3 ms_4 : Nat, (k + mc_3 ≤ mc ∧ n + ms_4 ≤ ms) ∧ ∃ fs_8 : List Value, μ a_1 = some (.inr (1, fs_8)) ∧ sp_m x.2.1 κ yS_hasNumber wS_hasNumber 1 21 mc_3 ms_4 [.ref a_1, .int v2] μ (fun v_6 μ_7 => ∃ v_11 : Int32, v_6 = some (.int v_11) ∧ ((v_11 = 0 → (∃ fs_12 : List Value, μ_7 a_1 = some (.inr (1, fs_12)) ∧ ∃ r_14 : Option Nat, fs_12[8]? = some (va_rf r_14) ∧ sp_w κ x (sp_F κ x Rt Xt mc ms) (k + mc_3) (n + ms_4) 34 [(0, .ref a0), (1, .int v1), (2, .int v2), (3, va_rf r_14)] [] μ_7)) ∧ (¬ v_11 = 0 → (∃ mc_16 ms_17 : Nat, ((k + mc_3) + mc_16 ≤ mc ∧ (n + ms_4) + ms_17 ≤ ms) ∧ ∃ fs_21 : List Value, μ_7 a_1 = some (.inr (1, fs_21)) ∧ sp_m x.2.1 κ yS_placeOfNumber wS_placeOfNumber 0 0 mc_16 ms_17 [.ref a_1, .int v2] μ_7 (fun v_19 μ_20 => ∃ v_24 : Int32, v_19 = some (.int v_24) ∧ Rt (some (.int v_24)) μ_20) (fun E_25 μ_20 => Xt E_25 μ_20))))) (fun E_27 μ_7 => Xt E_27 μ_7))))) : sp_w κ x (sp_F κ x Rt Xt mc ms) k n 34 [(0, .ref a0), (1, .int v1), (2, .int v2), (3, va_rf r3)] [] μ := by
  refine sr_aloadO_n h dE_find_34 rfl 3 rfl ?_
  rcases r3 with _ | a_1
  · replace vc := vc.1 rfl
    refine sr_ifnull_n (tgt := 60) h dE_find_35 (by decide) ?_
    obtain ⟨hc_2, vc⟩ := vc
    exact sr_throw0 (names := ["java/lang/RuntimeException", "java/lang/Exception"]) h (by decide +kernel) (by decide +kernel) kw_129 kw_39 ka_E_123 kg_E_123 dE_find_60 dE_find_63 dE_find_64 dE_find_67 (fun _ z => nomatch z) (Nat.le_of_ble_eq_true rfl) (Nat.le_of_ble_eq_true rfl) hc_2.1 hc_2.2 hc_2.1 hc_2.2 vc
  · replace vc := vc.2 a_1 rfl
    refine sr_ifnull_s h dE_find_35 ?_
    refine sr_aload_n h dE_find_38 rfl 3 rfl ?_
    refine sr_iload_n h dE_find_39 rfl 2 rfl ?_
    obtain ⟨mc_3, ms_4, hc_5, vc⟩ := vc
    obtain ⟨fs_8, ho_9, vc⟩ := vc
    refine sr_callV (y := yS_hasNumber) (n0 := 1) (As := [.int v2]) h (sp_gV kw_193 kw_194 kw_195 kw_47 kw_196) rfl (by decide +kernel) ⟨Nat.le_of_ble_eq_true rfl, Nat.le_of_ble_eq_true rfl⟩ (ci := 1) rfl dE_find_40 rfl rfl (Nat.le_of_ble_eq_true rfl) hc_5 ho_9 vc (fun v_6 μ_7 vc' => ?_) (fun E_27 μ_7 vc' => ?_)
    · replace vc := vc'
      clear vc'
      obtain ⟨v_11, rfl, vc⟩ := vc
      refine sr_if_eq (tgt := 52) h dE_find_43 (by decide) (fun c_26 => ?_) (fun c_26 => ?_)
      · replace vc := vc.1 c_26
        refine sr_aload_n h dE_find_52 rfl 3 rfl ?_
        obtain ⟨fs_12, ho_13, vc⟩ := vc
        obtain ⟨r_14, hv_15, vc⟩ := vc
        refine sr_get h inS rfl 8 (by decide) kw_369 dE_find_53 ho_13 hv_15 ?_
        refine sr_astoreO_n (lv' := [(0, .ref a0), (1, .int v1), (2, .int v2), (3, va_rf r_14)]) h dE_find_56 rfl (by decide) rfl ?_
        refine sr_goto (tgt := 34) h dE_find_57 (by decide) ?_
        exact vc
      · replace vc := vc.2 c_26
        refine sr_aload_n h dE_find_46 rfl 3 rfl ?_
        refine sr_iload_n h dE_find_47 rfl 2 rfl ?_
        obtain ⟨mc_16, ms_17, hc_18, vc⟩ := vc
        obtain ⟨fs_21, ho_22, vc⟩ := vc
        refine sr_callV (y := yS_placeOfNumber) (n0 := 1) (As := [.int v2]) h (sp_gV kw_201 kw_202 kw_203 kw_47 kw_204) rfl (by decide +kernel) ⟨Nat.le_of_ble_eq_true rfl, Nat.le_of_ble_eq_true rfl⟩ (ci := 1) rfl dE_find_48 rfl rfl (Nat.le_of_ble_eq_true rfl) hc_18 ho_22 vc (fun v_19 μ_20 vc' => ?_) (fun E_25 μ_20 vc' => ?_)
        · replace vc := vc'
          clear vc'
          obtain ⟨v_24, rfl, vc⟩ := vc
          exact sr_iret h dE_find_51 hc_18.1 hc_18.2 vc
        · replace vc := vc'
          clear vc'
          exact st_out h (fun _ z => nomatch z) hc_18.1 hc_18.2 vc
    · replace vc := vc'
      clear vc'
      exact st_out h (fun _ z => nomatch z) hc_5.1 hc_5.2 vc

abbrev cxE_isAgentName (κ : sp_K) (x : sp_X) (mc ms : Nat) : Prop := sp_C κ x cE_isAgentName 1 RE (some .boolean) [] "isAgentName" (sp_rm 0 0 mc ms)
set_option maxRecDepth 100000 in
set_option maxHeartbeats 4000000 in
theorem bkE_isAgentName_0 {κ : sp_K} {x : sp_X} {mc ms : Nat} {Rt : Option Value → sp_M → Prop} {Xt : String → sp_M → Prop} {μ : sp_M} {k n : Nat} {v0 : Int32} (h : cxE_isAgentName κ x mc ms) (hk : k ≤ mc ∧ n ≤ ms)
    (vc : ((v0 < 0 → Rt (some (.int 0)) μ) ∧ (¬ v0 < 0 → ((256 ≤ v0 → Rt (some (.int 0)) μ) ∧ (¬ 256 ≤ v0 → Rt (some (.int 1)) μ))))) : sp_w κ x (sp_F κ x Rt Xt mc ms) k n 0 [(0, .int v0)] [] μ := by
  refine sr_iload_n h dE_isAgentName_0 rfl 0 rfl ?_
  refine sr_if_lt (tgt := 15) h dE_isAgentName_1 (by decide) (fun c_2 => ?_) (fun c_2 => ?_)
  · replace vc := vc.1 c_2
    refine sr_iconst (v := 0) h dE_isAgentName_15 (by decide) ?_
    exact sr_zret h dE_isAgentName_16 rfl hk.1 hk.2 vc
  · replace vc := vc.2 c_2
    refine sr_iload_n h dE_isAgentName_4 rfl 0 rfl ?_
    refine sr_sipush (v := 256) h dE_isAgentName_5 (by decide) ?_
    refine sr_icmp_ge (tgt := 15) h dE_isAgentName_8 (by decide) (fun c_1 => ?_) (fun c_1 => ?_)
    · replace vc := vc.1 c_1
      refine sr_iconst (v := 0) h dE_isAgentName_15 (by decide) ?_
      exact sr_zret h dE_isAgentName_16 rfl hk.1 hk.2 vc
    · replace vc := vc.2 c_1
      refine sr_iconst (v := 1) h dE_isAgentName_11 (by decide) ?_
      refine sr_goto (tgt := 16) h dE_isAgentName_12 (by decide) ?_
      exact sr_zret h dE_isAgentName_16 rfl hk.1 hk.2 vc

abbrev cxE_isListed (κ : sp_K) (x : sp_X) (mc ms : Nat) : Prop := sp_C κ x cE_isListed 3 RE (some .boolean) [] "isListed" (sp_rm 0 0 mc ms)
set_option maxRecDepth 100000 in
set_option maxHeartbeats 4000000 in
theorem bkE_isListed_0 {κ : sp_K} {x : sp_X} {mc ms : Nat} {Rt : Option Value → sp_M → Prop} {Xt : String → sp_M → Prop} {μ : sp_M} {k n : Nat} {a0 : Nat} {v1 : Int32} (h : cxE_isListed κ x mc ms) (hk : k ≤ mc ∧ n ≤ ms)
    (vc : sp_w κ x (sp_F κ x Rt Xt mc ms) k n 2 [(0, .ref a0), (1, .int v1), (2, .int 0)] [] μ) : sp_w κ x (sp_F κ x Rt Xt mc ms) k n 0 [(0, .ref a0), (1, .int v1)] [] μ := by
  refine sr_iconst (v := 0) h dE_isListed_0 (by decide) ?_
  refine sr_istore_n (lv' := [(0, .ref a0), (1, .int v1), (2, .int 0)]) h dE_isListed_1 rfl (by decide) rfl ?_
  exact vc
set_option maxRecDepth 100000 in
set_option maxHeartbeats 4000000 in
theorem bkE_isListed_2 {κ : sp_K} {x : sp_X} {mc ms : Nat} {Rt : Option Value → sp_M → Prop} {Xt : String → sp_M → Prop} {μ : sp_M} {k n : Nat} {a0 : Nat} {v1 : Int32} {v2 : Int32} (h : cxE_isListed κ x mc ms) (hk : k ≤ mc ∧ n ≤ ms)
    (vc : (∃ fs_1 : List Value, μ a0 = some (.inr (2, fs_1)) ∧ ∃ v_3 : Int32, fs_1[6]? = some (.int v_3) ∧ ((v_3 ≤ v2 → Rt (some (.int 0)) μ) ∧ (¬ v_3 ≤ v2 → (∃ r_5 : Option Nat, fs_1[5]? = some (va_rf r_5) ∧ (∃ a_7 : Nat, r_5 = some a_7 ∧ ∃ (N_8 : Nat) (f_9 : Nat → Int32), μ a_7 = some (sp_ia κ N_8 f_9) ∧ ∃ j_11 : Nat, v2 = nI j_11 ∧ j_11 < N_8 ∧ ((¬ (f_9 j_11) = v1 → sp_w κ x (sp_F κ x Rt Xt mc ms) k n 2 [(0, .ref a0), (1, .int v1), (2, .int (v2 + 1))] [] μ) ∧ ((f_9 j_11) = v1 → Rt (some (.int 1)) μ)))))))) : sp_w κ x (sp_F κ x Rt Xt mc ms) k n 2 [(0, .ref a0), (1, .int v1), (2, .int v2)] [] μ := by
  refine sr_iload_n h dE_isListed_2 rfl 2 rfl ?_
  refine sr_aload_n h dE_isListed_3 rfl 0 rfl ?_
  obtain ⟨fs_1, ho_2, vc⟩ := vc
  obtain ⟨v_3, hv_4, vc⟩ := vc
  refine sr_get h inE rfl 6 (by decide) kw_66 dE_isListed_4 ho_2 hv_4 ?_
  refine sr_icmp_ge (tgt := 28) h dE_isListed_7 (by decide) (fun c_15 => ?_) (fun c_15 => ?_)
  · replace vc := vc.1 c_15
    refine sr_iconst (v := 0) h dE_isListed_28 (by decide) ?_
    exact sr_zret h dE_isListed_29 rfl hk.1 hk.2 vc
  · replace vc := vc.2 c_15
    refine sr_aload_n h dE_isListed_10 rfl 0 rfl ?_
    obtain ⟨r_5, hv_6, vc⟩ := vc
    refine sr_get h inE rfl 5 (by decide) kw_65 dE_isListed_11 ho_2 hv_6 ?_
    refine sr_iload_n h dE_isListed_14 rfl 2 rfl ?_
    obtain ⟨a_7, rfl, vc⟩ := vc
    obtain ⟨N_8, f_9, ho_10, vc⟩ := vc
    obtain ⟨j_11, hi_12, hj_13, vc⟩ := vc
    refine sr_iald h dE_isListed_15 ho_10 hi_12 hj_13 ?_
    refine sr_iload_n h dE_isListed_16 rfl 1 rfl ?_
    refine sr_icmp_ne (tgt := 22) h dE_isListed_17 (by decide) (fun c_14 => ?_) (fun c_14 => ?_)
    · replace vc := vc.1 c_14
      refine sr_iinc (u := v2 + 1) (lv' := [(0, .ref a0), (1, .int v1), (2, .int (v2 + 1))]) h dE_isListed_22 2 rfl rfl (by decide) rfl ?_
      refine sr_goto (tgt := 2) h dE_isListed_25 (by decide) ?_
      exact vc
    · replace vc := vc.2 c_14
      refine sr_iconst (v := 1) h dE_isListed_20 (by decide) ?_
      exact sr_zret h dE_isListed_21 rfl hk.1 hk.2 vc

abbrev cxE_add (κ : sp_K) (x : sp_X) (mc ms : Nat) : Prop := sp_C κ x cE_add 6 RE (some .int) [] "add" (sp_rm 9 164 mc ms)
set_option maxRecDepth 100000 in
set_option maxHeartbeats 4000000 in
theorem bkE_add_0 {κ : sp_K} {x : sp_X} {mc ms : Nat} {Rt : Option Value → sp_M → Prop} {Xt : String → sp_M → Prop} {μ : sp_M} {k n : Nat} {a0 : Nat} {v1 : Int32} {v2 : Int32} (h : cxE_add κ x mc ms) (hk : k ≤ mc ∧ n ≤ ms)
    (vc : (∃ mc_1 ms_2 : Nat, (k + mc_1 ≤ mc ∧ n + ms_2 ≤ ms) ∧ sp_m x.2.1 κ yE_isAgentName wE_isAgentName 0 0 mc_1 ms_2 [.int v1] μ (fun v_4 μ_5 => ∃ v_7 : Int32, v_4 = some (.int v_7) ∧ ((v_7 = 0 → (((k + mc_1) + 1 ≤ mc ∧ (n + ms_2) + 6 ≤ ms) ∧ Xt "java/lang/IllegalArgumentException" μ_5)) ∧ (¬ v_7 = 0 → ((v2 < 1 → (((k + mc_1) + 1 ≤ mc ∧ (n + ms_2) + 6 ≤ ms) ∧ Xt "java/lang/IllegalArgumentException" μ_5)) ∧ (¬ v2 < 1 → ((v2 ≤ 2000 → (∃ mc_10 ms_11 : Nat, ((k + mc_1) + mc_10 ≤ mc ∧ (n + ms_2) + ms_11 ≤ ms) ∧ ∃ fs_15 : List Value, μ_5 a0 = some (.inr (2, fs_15)) ∧ sp_m x.2.1 κ yE_takeList wE_takeList 2 48 mc_10 ms_11 [.ref a0] μ_5 (fun v_13 μ_14 => ∃ r_18 : Option Nat, v_13 = some (va_rf r_18) ∧ (∃ mc_19 ms_20 : Nat, ((k + mc_1 + mc_10) + mc_19 ≤ mc ∧ (n + ms_2 + ms_11) + ms_20 ≤ ms) ∧ ∃ fs_24 : List Value, μ_14 a0 = some (.inr (2, fs_24)) ∧ sp_m x.2.1 κ yE_seenFrom wE_seenFrom 7 111 mc_19 ms_20 [.ref a0, va_rf r_18] μ_14 (fun v_22 μ_23 => ∃ r_27 : Option Nat, v_22 = some (va_rf r_27) ∧ (∃ fs_28 : List Value, μ_23 a0 = some (.inr (2, fs_28)) ∧ ∃ r_30 : Option Nat, fs_28[0]? = some (va_rf r_30) ∧ (∃ a_32 : Nat, r_30 = some a_32 ∧ ∃ (N_33 : Nat) (f_34 : Nat → Option Nat), μ_23 a_32 = some (sp_ra κ 3 N_33 f_34) ∧ ∃ j_36 : Nat, v1 = nI j_36 ∧ j_36 < N_33 ∧ ∃ r_39 : Option Nat, f_34 j_36 = r_39 ∧ (∃ mc_41 ms_42 : Nat, ((k + mc_1 + mc_10 + mc_19) + mc_41 ≤ mc ∧ (n + ms_2 + ms_11 + ms_20) + ms_42 ≤ ms) ∧ sp_m x.2.1 κ yE_holdsAncestor wE_holdsAncestor 8 135 mc_41 ms_42 [.ref a0, va_rf r_18] μ_23 (fun v_44 μ_45 => ∃ v_47 : Int32, v_44 = some (.int v_47) ∧ ((¬ v_47 = 0 → (((k + mc_1 + mc_10 + mc_19 + mc_41) + 1 ≤ mc ∧ (n + ms_2 + ms_11 + ms_20 + ms_42) + 6 ≤ ms) ∧ Xt "java/lang/UnsupportedOperationException" μ_45)) ∧ (v_47 = 0 → ((r_39 = none → sp_w κ x (sp_F κ x Rt Xt mc ms) (k + mc_1 + mc_10 + mc_19 + mc_41) (n + ms_2 + ms_11 + ms_20 + ms_42) 84 [(0, .ref a0), (1, .int v1), (2, .int v2), (3, va_rf r_18), (4, va_rf r_27), (5, .null)] [] μ_45) ∧ (∀ a_49 : Nat, r_39 = some a_49 → (∃ fs_50 : List Value, μ_45 a_49 = some (.inr (0, fs_50)) ∧ ∃ v_52 : Int32, fs_50[1]? = some (.int v_52) ∧ (∃ a_54 : Nat, r_27 = some a_54 ∧ ∃ (N_55 : Nat) (f_56 : Nat → Int32), μ_45 a_54 = some (sp_ia κ N_55 f_56) ∧ ∃ j_58 : Nat, v_52 = nI j_58 ∧ j_58 < N_55 ∧ (∃ v_61 : Int32, fs_50[2]? = some (.int v_61) ∧ ((v_61 ≤ (f_56 j_58) → sp_w κ x (sp_F κ x Rt Xt mc ms) (k + mc_1 + mc_10 + mc_19 + mc_41) (n + ms_2 + ms_11 + ms_20 + ms_42) 84 [(0, .ref a0), (1, .int v1), (2, .int v2), (3, va_rf r_18), (4, .ref a_54), (5, .ref a_49)] [] μ_45) ∧ (¬ v_61 ≤ (f_56 j_58) → (((k + mc_1 + mc_10 + mc_19 + mc_41) + 1 ≤ mc ∧ (n + ms_2 + ms_11 + ms_20 + ms_42) + 6 ≤ ms) ∧ Xt "java/lang/UnsupportedOperationException" μ_45))))))))))) (fun E_66 μ_45 => Xt E_66 μ_45))))) (fun E_67 μ_23 => Xt E_67 μ_23))) (fun E_68 μ_14 => Xt E_68 μ_14))) ∧ (¬ v2 ≤ 2000 → (((k + mc_1) + 1 ≤ mc ∧ (n + ms_2) + 6 ≤ ms) ∧ Xt "java/lang/IllegalArgumentException" μ_5)))))))) (fun E_73 μ_5 => Xt E_73 μ_5))) : sp_w κ x (sp_F κ x Rt Xt mc ms) k n 0 [(0, .ref a0), (1, .int v1), (2, .int v2)] [] μ := by
  refine sr_iload_n h dE_add_0 rfl 1 rfl ?_
  obtain ⟨mc_1, ms_2, hc_3, vc⟩ := vc
  refine sr_callS (y := yE_isAgentName) (n0 := 1) (As := [.int v1]) (st := []) h (sp_gS kw_126 kw_127 kw_34 kw_128) rfl (by decide +kernel) ⟨Nat.le_of_ble_eq_true rfl, Nat.le_of_ble_eq_true rfl⟩ dE_add_1 rfl rfl (Nat.le_of_ble_eq_true rfl) hc_3 vc (fun v_4 μ_5 vc' => ?_) (fun E_73 μ_5 vc' => ?_)
  · replace vc := vc'
    clear vc'
    obtain ⟨v_7, rfl, vc⟩ := vc
    refine sr_if_eq (tgt := 19) h dE_add_4 (by decide) (fun c_72 => ?_) (fun c_72 => ?_)
    · replace vc := vc.1 c_72
      obtain ⟨hc_8, vc⟩ := vc
      exact sr_throw0 (names := ["java/lang/RuntimeException", "java/lang/Exception"]) h (by decide +kernel) (by decide +kernel) kw_247 kw_42 ka_E_69 kg_E_69 dE_add_19 dE_add_22 dE_add_23 dE_add_26 (fun _ z => nomatch z) (Nat.le_of_ble_eq_true rfl) (Nat.le_of_ble_eq_true rfl) hc_8.1 hc_8.2 hc_8.1 hc_8.2 vc
    · replace vc := vc.2 c_72
      refine sr_iload_n h dE_add_7 rfl 2 rfl ?_
      refine sr_iconst (v := 1) h dE_add_8 (by decide) ?_
      refine sr_icmp_lt (tgt := 19) h dE_add_9 (by decide) (fun c_71 => ?_) (fun c_71 => ?_)
      · replace vc := vc.1 c_71
        obtain ⟨hc_9, vc⟩ := vc
        exact sr_throw0 (names := ["java/lang/RuntimeException", "java/lang/Exception"]) h (by decide +kernel) (by decide +kernel) kw_247 kw_42 ka_E_69 kg_E_69 dE_add_19 dE_add_22 dE_add_23 dE_add_26 (fun _ z => nomatch z) (Nat.le_of_ble_eq_true rfl) (Nat.le_of_ble_eq_true rfl) hc_9.1 hc_9.2 hc_9.1 hc_9.2 vc
      · replace vc := vc.2 c_71
        refine sr_iload_n h dE_add_12 rfl 2 rfl ?_
        refine sr_sipush (v := 2000) h dE_add_13 (by decide) ?_
        refine sr_icmp_le (tgt := 27) h dE_add_16 (by decide) (fun c_70 => ?_) (fun c_70 => ?_)
        · replace vc := vc.1 c_70
          refine sr_aload_n h dE_add_27 rfl 0 rfl ?_
          obtain ⟨mc_10, ms_11, hc_12, vc⟩ := vc
          obtain ⟨fs_15, ho_16, vc⟩ := vc
          refine sr_callV (y := yE_takeList) (n0 := 0) (As := []) h (sp_gV kw_262 kw_264 kw_4 kw_34 kw_265) rfl (by decide +kernel) ⟨Nat.le_of_ble_eq_true rfl, Nat.le_of_ble_eq_true rfl⟩ (ci := 2) rfl dE_add_28 rfl rfl (Nat.le_of_ble_eq_true rfl) hc_12 ho_16 vc (fun v_13 μ_14 vc' => ?_) (fun E_68 μ_14 vc' => ?_)
          · replace vc := vc'
            clear vc'
            obtain ⟨r_18, rfl, vc⟩ := vc
            refine sr_astoreO_n (lv' := [(0, .ref a0), (1, .int v1), (2, .int v2), (3, va_rf r_18)]) h dE_add_31 rfl (by decide) rfl ?_
            refine sr_aload_n h dE_add_32 rfl 0 rfl ?_
            refine sr_aloadO_n h dE_add_33 rfl 3 rfl ?_
            obtain ⟨mc_19, ms_20, hc_21, vc⟩ := vc
            obtain ⟨fs_24, ho_25, vc⟩ := vc
            refine sr_callV (y := yE_seenFrom) (n0 := 1) (As := [va_rf r_18]) h (sp_gV kw_280 kw_282 kw_5 kw_34 kw_283) rfl (by decide +kernel) ⟨Nat.le_of_ble_eq_true rfl, Nat.le_of_ble_eq_true rfl⟩ (ci := 2) rfl dE_add_34 rfl rfl (Nat.le_of_ble_eq_true rfl) hc_21 ho_25 vc (fun v_22 μ_23 vc' => ?_) (fun E_67 μ_23 vc' => ?_)
            · replace vc := vc'
              clear vc'
              obtain ⟨r_27, rfl, vc⟩ := vc
              refine sr_astoreO (lv' := [(0, .ref a0), (1, .int v1), (2, .int v2), (3, va_rf r_18), (4, va_rf r_27)]) h dE_add_37 (by decide) rfl ?_
              refine sr_aload_n h dE_add_39 rfl 0 rfl ?_
              obtain ⟨fs_28, ho_29, vc⟩ := vc
              obtain ⟨r_30, hv_31, vc⟩ := vc
              refine sr_get h inE rfl 0 (by decide) kw_60 dE_add_40 ho_29 hv_31 ?_
              refine sr_iload_n h dE_add_43 rfl 1 rfl ?_
              obtain ⟨a_32, rfl, vc⟩ := vc
              obtain ⟨N_33, f_34, ho_35, vc⟩ := vc
              obtain ⟨j_36, hi_37, hj_38, vc⟩ := vc
              obtain ⟨r_39, hr_40, vc⟩ := vc
              refine sr_aald h dE_add_44 rfl ho_35 hi_37 hj_38 hr_40 ?_
              refine sr_astoreO (lv' := [(0, .ref a0), (1, .int v1), (2, .int v2), (3, va_rf r_18), (4, va_rf r_27), (5, va_rf r_39)]) h dE_add_45 (by decide) rfl ?_
              refine sr_aload_n h dE_add_47 rfl 0 rfl ?_
              refine sr_aloadO_n h dE_add_48 rfl 3 rfl ?_
              obtain ⟨mc_41, ms_42, hc_43, vc⟩ := vc
              refine sr_callV (y := yE_holdsAncestor) (n0 := 1) (As := [va_rf r_18]) h (sp_gV kw_292 kw_294 kw_7 kw_34 kw_295) rfl (by decide +kernel) ⟨Nat.le_of_ble_eq_true rfl, Nat.le_of_ble_eq_true rfl⟩ (ci := 2) rfl dE_add_49 rfl rfl (Nat.le_of_ble_eq_true rfl) hc_43 ho_29 vc (fun v_44 μ_45 vc' => ?_) (fun E_66 μ_45 vc' => ?_)
              · replace vc := vc'
                clear vc'
                obtain ⟨v_47, rfl, vc⟩ := vc
                refine sr_if_ne (tgt := 76) h dE_add_52 (by decide) (fun c_65 => ?_) (fun c_65 => ?_)
                · replace vc := vc.1 c_65
                  obtain ⟨hc_48, vc⟩ := vc
                  exact sr_throw0 (names := ["java/lang/RuntimeException", "java/lang/Exception"]) h (by decide +kernel) (by decide +kernel) kw_209 kw_40 ka_E_49 kg_E_49 dE_add_76 dE_add_79 dE_add_80 dE_add_83 (fun _ z => nomatch z) (Nat.le_of_ble_eq_true rfl) (Nat.le_of_ble_eq_true rfl) hc_48.1 hc_48.2 hc_48.1 hc_48.2 vc
                · replace vc := vc.2 c_65
                  refine sr_aloadO h dE_add_55 5 rfl ?_
                  rcases r_39 with _ | a_49
                  · replace vc := vc.1 rfl
                    refine sr_ifnull_n (tgt := 84) h dE_add_57 (by decide) ?_
                    exact vc
                  · replace vc := vc.2 a_49 rfl
                    refine sr_ifnull_s h dE_add_57 ?_
                    refine sr_aloadO h dE_add_60 4 rfl ?_
                    refine sr_aload h dE_add_62 5 rfl ?_
                    obtain ⟨fs_50, ho_51, vc⟩ := vc
                    obtain ⟨v_52, hv_53, vc⟩ := vc
                    refine sr_get h inA rfl 1 (by decide) kw_317 dE_add_64 ho_51 hv_53 ?_
                    obtain ⟨a_54, rfl, vc⟩ := vc
                    obtain ⟨N_55, f_56, ho_57, vc⟩ := vc
                    obtain ⟨j_58, hi_59, hj_60, vc⟩ := vc
                    refine sr_iald h dE_add_67 ho_57 hi_59 hj_60 ?_
                    refine sr_aload h dE_add_68 5 rfl ?_
                    obtain ⟨v_61, hv_62, vc⟩ := vc
                    refine sr_get h inA rfl 2 (by decide) kw_321 dE_add_70 ho_51 hv_62 ?_
                    refine sr_icmp_ge (tgt := 84) h dE_add_73 (by decide) (fun c_64 => ?_) (fun c_64 => ?_)
                    · replace vc := vc.1 c_64
                      exact vc
                    · replace vc := vc.2 c_64
                      obtain ⟨hc_63, vc⟩ := vc
                      exact sr_throw0 (names := ["java/lang/RuntimeException", "java/lang/Exception"]) h (by decide +kernel) (by decide +kernel) kw_209 kw_40 ka_E_49 kg_E_49 dE_add_76 dE_add_79 dE_add_80 dE_add_83 (fun _ z => nomatch z) (Nat.le_of_ble_eq_true rfl) (Nat.le_of_ble_eq_true rfl) hc_63.1 hc_63.2 hc_63.1 hc_63.2 vc
              · replace vc := vc'
                clear vc'
                exact st_out h (fun _ z => nomatch z) hc_43.1 hc_43.2 vc
            · replace vc := vc'
              clear vc'
              exact st_out h (fun _ z => nomatch z) hc_21.1 hc_21.2 vc
          · replace vc := vc'
            clear vc'
            exact st_out h (fun _ z => nomatch z) hc_12.1 hc_12.2 vc
        · replace vc := vc.2 c_70
          obtain ⟨hc_69, vc⟩ := vc
          exact sr_throw0 (names := ["java/lang/RuntimeException", "java/lang/Exception"]) h (by decide +kernel) (by decide +kernel) kw_247 kw_42 ka_E_69 kg_E_69 dE_add_19 dE_add_22 dE_add_23 dE_add_26 (fun _ z => nomatch z) (Nat.le_of_ble_eq_true rfl) (Nat.le_of_ble_eq_true rfl) hc_69.1 hc_69.2 hc_69.1 hc_69.2 vc
  · replace vc := vc'
    clear vc'
    exact st_out h (fun _ z => nomatch z) hc_3.1 hc_3.2 vc
set_option maxRecDepth 100000 in
set_option maxHeartbeats 4000000 in
theorem bkE_add_84 {κ : sp_K} {x : sp_X} {mc ms : Nat} {Rt : Option Value → sp_M → Prop} {Xt : String → sp_M → Prop} {μ : sp_M} {k n : Nat} {a0 : Nat} {v1 : Int32} {v2 : Int32} {r3 : Option Nat} {r4 : Option Nat} {r5 : Option Nat} (h : cxE_add κ x mc ms) (hk : k ≤ mc ∧ n ≤ ms)
    (vc : (∃ fs_1 : List Value, μ a0 = some (.inr (2, fs_1)) ∧ ∃ v_3 : Int32, fs_1[3]? = some (.int v_3) ∧ ((8192 < (v_3 + v2) → ((k + 1 ≤ mc ∧ n + 6 ≤ ms) ∧ Xt "java/lang/IllegalStateException" μ)) ∧ (¬ 8192 < (v_3 + v2) → ((r5 = none → (∃ v_7 : Int32, fs_1[1]? = some (.int v_7) ∧ ((v_7 < 16 → sp_w κ x (sp_F κ x Rt Xt mc ms) k n 118 [(0, .ref a0), (1, .int v1), (2, .int v2), (3, va_rf r3), (4, va_rf r4), (5, .null)] [] μ) ∧ (¬ v_7 < 16 → ((k + 1 ≤ mc ∧ n + 6 ≤ ms) ∧ Xt "java/lang/IllegalStateException" μ))))) ∧ (∀ a_6 : Nat, r5 = some a_6 → sp_w κ x (sp_F κ x Rt Xt mc ms) k n 118 [(0, .ref a0), (1, .int v1), (2, .int v2), (3, va_rf r3), (4, va_rf r4), (5, .ref a_6)] [] μ)))))) : sp_w κ x (sp_F κ x Rt Xt mc ms) k n 84 [(0, .ref a0), (1, .int v1), (2, .int v2), (3, va_rf r3), (4, va_rf r4), (5, va_rf r5)] [] μ := by
  refine sr_aload_n h dE_add_84 rfl 0 rfl ?_
  obtain ⟨fs_1, ho_2, vc⟩ := vc
  obtain ⟨v_3, hv_4, vc⟩ := vc
  refine sr_get h inE rfl 3 (by decide) kw_63 dE_add_85 ho_2 hv_4 ?_
  refine sr_iload_n h dE_add_88 rfl 2 rfl ?_
  refine sr_iadd h dE_add_89 ?_
  refine sr_sipush (v := 8192) h dE_add_90 (by decide) ?_
  refine sr_icmp_gt (tgt := 110) h dE_add_93 (by decide) (fun c_11 => ?_) (fun c_11 => ?_)
  · replace vc := vc.1 c_11
    obtain ⟨hc_5, vc⟩ := vc
    exact sr_throw0 (names := ["java/lang/RuntimeException", "java/lang/Exception"]) h (by decide +kernel) (by decide +kernel) kw_224 kw_41 ka_E_52 kg_E_52 dE_add_110 dE_add_113 dE_add_114 dE_add_117 (fun _ z => nomatch z) (Nat.le_of_ble_eq_true rfl) (Nat.le_of_ble_eq_true rfl) hc_5.1 hc_5.2 hc_5.1 hc_5.2 vc
  · replace vc := vc.2 c_11
    refine sr_aloadO h dE_add_96 5 rfl ?_
    rcases r5 with _ | a_6
    · replace vc := vc.1 rfl
      refine sr_ifnonnull_n h dE_add_98 ?_
      refine sr_aload_n h dE_add_101 rfl 0 rfl ?_
      obtain ⟨v_7, hv_8, vc⟩ := vc
      refine sr_get h inE rfl 1 (by decide) kw_61 dE_add_102 ho_2 hv_8 ?_
      refine sr_bipush (v := 16) h dE_add_105 (by decide) ?_
      refine sr_icmp_lt (tgt := 118) h dE_add_107 (by decide) (fun c_10 => ?_) (fun c_10 => ?_)
      · replace vc := vc.1 c_10
        exact vc
      · replace vc := vc.2 c_10
        obtain ⟨hc_9, vc⟩ := vc
        exact sr_throw0 (names := ["java/lang/RuntimeException", "java/lang/Exception"]) h (by decide +kernel) (by decide +kernel) kw_224 kw_41 ka_E_52 kg_E_52 dE_add_110 dE_add_113 dE_add_114 dE_add_117 (fun _ z => nomatch z) (Nat.le_of_ble_eq_true rfl) (Nat.le_of_ble_eq_true rfl) hc_9.1 hc_9.2 hc_9.1 hc_9.2 vc
    · replace vc := vc.2 a_6 rfl
      refine sr_ifnonnull_s (tgt := 118) h dE_add_98 (by decide) ?_
      exact vc
set_option maxRecDepth 100000 in
set_option maxHeartbeats 4000000 in
theorem bkE_add_118 {κ : sp_K} {x : sp_X} {mc ms : Nat} {Rt : Option Value → sp_M → Prop} {Xt : String → sp_M → Prop} {μ : sp_M} {k n : Nat} {a0 : Nat} {v1 : Int32} {v2 : Int32} {r3 : Option Nat} {r4 : Option Nat} {r5 : Option Nat} (h : cxE_add κ x mc ms) (hk : k ≤ mc ∧ n ≤ ms)
    (vc : (∃ mc_1 ms_2 : Nat, (k + mc_1 ≤ mc ∧ n + ms_2 ≤ ms) ∧ ∃ fs_6 : List Value, μ a0 = some (.inr (2, fs_6)) ∧ sp_m x.2.1 κ yE_endHeads wE_endHeads 7 111 mc_1 ms_2 [.ref a0, va_rf r3] μ (fun v_4 μ_5 => v_4 = none ∧ ((r5 = none → (∃ mc_10 ms_11 : Nat, ((k + mc_1) + mc_10 ≤ mc ∧ (n + ms_2) + ms_11 ≤ ms) ∧ ∃ fs_15 : List Value, μ_5 a0 = some (.inr (2, fs_15)) ∧ sp_m x.2.1 κ yE_newAgent wE_newAgent 2 44 mc_10 ms_11 [.ref a0, .int v1] μ_5 (fun v_13 μ_14 => ∃ r_18 : Option Nat, v_13 = some (va_rf r_18) ∧ sp_w κ x (sp_F κ x Rt Xt mc ms) (k + mc_1 + mc_10) (n + ms_2 + ms_11) 139 [(0, .ref a0), (1, .int v1), (2, .int v2), (3, va_rf r3), (4, va_rf r4), (5, .null)] [va_rf r_18, .ref a0] μ_14) (fun E_19 μ_14 => Xt E_19 μ_14))) ∧ (∀ a_9 : Nat, r5 = some a_9 → sp_w κ x (sp_F κ x Rt Xt mc ms) (k + mc_1) (n + ms_2) 139 [(0, .ref a0), (1, .int v1), (2, .int v2), (3, va_rf r3), (4, va_rf r4), (5, .ref a_9)] [.ref a_9, .ref a0] μ_5))) (fun E_20 μ_5 => Xt E_20 μ_5))) : sp_w κ x (sp_F κ x Rt Xt mc ms) k n 118 [(0, .ref a0), (1, .int v1), (2, .int v2), (3, va_rf r3), (4, va_rf r4), (5, va_rf r5)] [] μ := by
  refine sr_aload_n h dE_add_118 rfl 0 rfl ?_
  refine sr_aloadO_n h dE_add_119 rfl 3 rfl ?_
  obtain ⟨mc_1, ms_2, hc_3, vc⟩ := vc
  obtain ⟨fs_6, ho_7, vc⟩ := vc
  refine sr_callV (y := yE_endHeads) (n0 := 1) (As := [va_rf r3]) h (sp_gV kw_301 kw_303 kw_9 kw_34 kw_304) rfl (by decide +kernel) ⟨Nat.le_of_ble_eq_true rfl, Nat.le_of_ble_eq_true rfl⟩ (ci := 2) rfl dE_add_120 rfl rfl (Nat.le_of_ble_eq_true rfl) hc_3 ho_7 vc (fun v_4 μ_5 vc' => ?_) (fun E_20 μ_5 vc' => ?_)
  · replace vc := vc'
    clear vc'
    obtain ⟨rfl, vc⟩ := vc
    refine sr_aload_n h dE_add_123 rfl 0 rfl ?_
    refine sr_aloadO h dE_add_124 5 rfl ?_
    rcases r5 with _ | a_9
    · replace vc := vc.1 rfl
      refine sr_ifnonnull_n h dE_add_126 ?_
      refine sr_aload_n h dE_add_129 rfl 0 rfl ?_
      refine sr_iload_n h dE_add_130 rfl 1 rfl ?_
      obtain ⟨mc_10, ms_11, hc_12, vc⟩ := vc
      obtain ⟨fs_15, ho_16, vc⟩ := vc
      refine sr_callV (y := yE_newAgent) (n0 := 1) (As := [.int v1]) h (sp_gV kw_305 kw_307 kw_10 kw_34 kw_308) rfl (by decide +kernel) ⟨Nat.le_of_ble_eq_true rfl, Nat.le_of_ble_eq_true rfl⟩ (ci := 2) rfl dE_add_131 rfl rfl (Nat.le_of_ble_eq_true rfl) hc_12 ho_16 vc (fun v_13 μ_14 vc' => ?_) (fun E_19 μ_14 vc' => ?_)
      · replace vc := vc'
        clear vc'
        obtain ⟨r_18, rfl, vc⟩ := vc
        refine sr_goto (tgt := 139) h dE_add_134 (by decide) ?_
        exact vc
      · replace vc := vc'
        clear vc'
        exact st_out h (fun _ z => nomatch z) hc_12.1 hc_12.2 vc
    · replace vc := vc.2 a_9 rfl
      refine sr_ifnonnull_s (tgt := 137) h dE_add_126 (by decide) ?_
      refine sr_aload h dE_add_137 5 rfl ?_
      exact vc
  · replace vc := vc'
    clear vc'
    exact st_out h (fun _ z => nomatch z) hc_3.1 hc_3.2 vc
set_option maxRecDepth 100000 in
set_option maxHeartbeats 4000000 in
theorem bkE_add_139 {κ : sp_K} {x : sp_X} {mc ms : Nat} {Rt : Option Value → sp_M → Prop} {Xt : String → sp_M → Prop} {μ : sp_M} {k n : Nat} {a0 : Nat} {v1 : Int32} {v2 : Int32} {r3 : Option Nat} {r4 : Option Nat} {r5 : Option Nat} {as0 : Nat} {rs1 : Option Nat} (h : cxE_add κ x mc ms) (hk : k ≤ mc ∧ n ≤ ms)
    (vc : (∃ mc_1 ms_2 : Nat, (k + mc_1 ≤ mc ∧ n + ms_2 ≤ ms) ∧ ∃ fs_6 : List Value, μ as0 = some (.inr (2, fs_6)) ∧ sp_m x.2.1 κ yE_append wE_append 2 51 mc_1 ms_2 [.ref as0, va_rf rs1, .int v2, va_rf r3, va_rf r4] μ (fun v_4 μ_5 => v_4 = none ∧ (∃ fs_9 : List Value, μ_5 a0 = some (.inr (2, fs_9)) ∧ ∃ v_11 : Int32, fs_9[3]? = some (.int v_11) ∧ Rt (some (.int (v_11 - 1))) μ_5)) (fun E_13 μ_5 => Xt E_13 μ_5))) : sp_w κ x (sp_F κ x Rt Xt mc ms) k n 139 [(0, .ref a0), (1, .int v1), (2, .int v2), (3, va_rf r3), (4, va_rf r4), (5, va_rf r5)] [va_rf rs1, .ref as0] μ := by
  refine sr_iload_n h dE_add_139 rfl 2 rfl ?_
  refine sr_aloadO_n h dE_add_140 rfl 3 rfl ?_
  refine sr_aloadO h dE_add_141 4 rfl ?_
  obtain ⟨mc_1, ms_2, hc_3, vc⟩ := vc
  obtain ⟨fs_6, ho_7, vc⟩ := vc
  refine sr_callV (y := yE_append) (n0 := 4) (As := [va_rf rs1, .int v2, va_rf r3, va_rf r4]) h (sp_gV kw_342 kw_344 kw_11 kw_34 kw_345) rfl (by decide +kernel) ⟨Nat.le_of_ble_eq_true rfl, Nat.le_of_ble_eq_true rfl⟩ (ci := 2) rfl dE_add_143 rfl rfl (Nat.le_of_ble_eq_true rfl) hc_3 ho_7 vc (fun v_4 μ_5 vc' => ?_) (fun E_13 μ_5 vc' => ?_)
  · replace vc := vc'
    clear vc'
    obtain ⟨rfl, vc⟩ := vc
    refine sr_aload_n h dE_add_146 rfl 0 rfl ?_
    obtain ⟨fs_9, ho_10, vc⟩ := vc
    obtain ⟨v_11, hv_12, vc⟩ := vc
    refine sr_get h inE rfl 3 (by decide) kw_63 dE_add_147 ho_10 hv_12 ?_
    refine sr_iconst (v := 1) h dE_add_150 (by decide) ?_
    refine sr_isub h dE_add_151 ?_
    exact sr_iret h dE_add_152 hc_3.1 hc_3.2 vc
  · replace vc := vc'
    clear vc'
    exact st_out h (fun _ z => nomatch z) hc_3.1 hc_3.2 vc

abbrev cxE_takeList (κ : sp_K) (x : sp_X) (mc ms : Nat) : Prop := sp_C κ x cE_takeList 2 RE (some (.array .int)) [] "takeList" (sp_rm 2 48 mc ms)
set_option maxRecDepth 100000 in
set_option maxHeartbeats 4000000 in
theorem bkE_takeList_0 {κ : sp_K} {x : sp_X} {mc ms : Nat} {Rt : Option Value → sp_M → Prop} {Xt : String → sp_M → Prop} {μ : sp_M} {k n : Nat} {a0 : Nat} (h : cxE_takeList κ x mc ms) (hk : k ≤ mc ∧ n ≤ ms)
    (vc : (∃ fs_1 : List Value, μ a0 = some (.inr (2, fs_1)) ∧ ∃ r_3 : Option Nat, fs_1[5]? = some (va_rf r_3) ∧ (∃ v_5 : Int32, fs_1[6]? = some (.int v_5) ∧ (∃ mc_7 ms_8 : Nat, (k + mc_7 ≤ mc ∧ n + ms_8 ≤ ms) ∧ sp_m x.2.1 κ yJ_copyOf wJ_copyOf 1 26 mc_7 ms_8 [va_rf r_3, .int v_5] μ (fun v_10 μ_11 => ∃ r_13 : Option Nat, v_10 = some (va_rf r_13) ∧ (∃ fs_14 : List Value, μ_11 a0 = some (.inr (2, fs_14)) ∧ 6 < fs_14.length ∧ ∀ μ_16 : sp_M, μ_16 = va_up μ_11 a0 (some (.inr (2, fs_14.set 6 (.int 0)))) → Rt (some (va_rf r_13)) μ_16)) (fun E_18 μ_11 => Xt E_18 μ_11))))) : sp_w κ x (sp_F κ x Rt Xt mc ms) k n 0 [(0, .ref a0)] [] μ := by
  refine sr_aload_n h dE_takeList_0 rfl 0 rfl ?_
  obtain ⟨fs_1, ho_2, vc⟩ := vc
  obtain ⟨r_3, hv_4, vc⟩ := vc
  refine sr_get h inE rfl 5 (by decide) kw_65 dE_takeList_1 ho_2 hv_4 ?_
  refine sr_aload_n h dE_takeList_4 rfl 0 rfl ?_
  obtain ⟨v_5, hv_6, vc⟩ := vc
  refine sr_get h inE rfl 6 (by decide) kw_66 dE_takeList_5 ho_2 hv_6 ?_
  obtain ⟨mc_7, ms_8, hc_9, vc⟩ := vc
  refine sr_callS (y := yJ_copyOf) (n0 := 2) (As := [va_rf r_3, .int v_5]) (st := []) h (sp_gS kw_266 kw_267 kw_43 kw_268) rfl (by decide +kernel) ⟨Nat.le_of_ble_eq_true rfl, Nat.le_of_ble_eq_true rfl⟩ dE_takeList_8 rfl rfl (Nat.le_of_ble_eq_true rfl) hc_9 vc (fun v_10 μ_11 vc' => ?_) (fun E_18 μ_11 vc' => ?_)
  · replace vc := vc'
    clear vc'
    obtain ⟨r_13, rfl, vc⟩ := vc
    refine sr_astoreO_n (lv' := [(0, .ref a0), (1, va_rf r_13)]) h dE_takeList_11 rfl (by decide) rfl ?_
    refine sr_aload_n h dE_takeList_12 rfl 0 rfl ?_
    refine sr_iconst (v := 0) h dE_takeList_13 (by decide) ?_
    obtain ⟨fs_14, ho_15, vc⟩ := vc
    obtain ⟨hl_17, vc⟩ := vc
    replace vc := vc _ rfl
    refine sr_put h inE tyE tyE_ok nmE rfl 6 (by decide) kw_66 rfl dE_takeList_14 ho_15 rfl rfl hl_17 ?_
    refine sr_aloadO_n h dE_takeList_17 rfl 1 rfl ?_
    exact sr_aret (r := r_13) h (Or.inr ⟨_, rfl⟩) dE_takeList_18 hc_9.1 hc_9.2 vc
  · replace vc := vc'
    clear vc'
    exact st_out h (fun _ z => nomatch z) hc_9.1 hc_9.2 vc

abbrev cxE_seenFrom (κ : sp_K) (x : sp_X) (mc ms : Nat) : Prop := sp_C κ x cE_seenFrom 9 RE (some (.array .int)) [] "seenFrom" (sp_rm 7 111 mc ms)
set_option maxRecDepth 100000 in
set_option maxHeartbeats 4000000 in
theorem bkE_seenFrom_0 {κ : sp_K} {x : sp_X} {mc ms : Nat} {Rt : Option Value → sp_M → Prop} {Xt : String → sp_M → Prop} {μ : sp_M} {k n : Nat} {a0 : Nat} {a1 : Nat} (h : cxE_seenFrom κ x mc ms) (hk : k ≤ mc ∧ n ≤ ms)
    (vc : (∃ N_1 : Nat, 16 = nI N_1 ∧ N_1 ≤ 1000000 ∧ (k + 1 ≤ mc ∧ n + N_1 ≤ ms) ∧ ∀ q_5 : Nat, μ q_5 = none → ∀ μ_7 : sp_M, μ_7 = va_up μ q_5 (some (sp_ia κ N_1 (fun _ => 0))) → (∃ (N_8 : Nat) (f_9 : Nat → Int32), μ_7 a1 = some (sp_ia κ N_8 f_9) ∧ sp_w κ x (sp_F κ x Rt Xt mc ms) (k + 1) (n + N_1) 14 [(0, .ref a0), (1, .ref a1), (2, .ref q_5), (3, .ref a1), (4, .int (nI N_8)), (5, .int 0)] [] μ_7))) : sp_w κ x (sp_F κ x Rt Xt mc ms) k n 0 [(0, .ref a0), (1, .ref a1)] [] μ := by
  refine sr_bipush (v := 16) h dE_seenFrom_0 (by decide) ?_
  obtain ⟨N_1, hi_2, hN_3, hc_4, vc⟩ := vc
  refine sr_newa (atype := .int) (ty := .int) (t := 0) (N := N_1) (y := (N_1, .inl fun _ => 0)) h rfl (fun _ z => nomatch z) kw_82 rfl dE_seenFrom_2 (fun _ => rfl) rfl hi_2 (by omega) (by show N_1 * 4 ≤ _; omega) hc_4.1 hc_4.2 (fun q_5 hz_6 => ?_)
  replace vc := vc q_5 hz_6 _ rfl
  refine sr_astore_n (lv' := [(0, .ref a0), (1, .ref a1), (2, .ref q_5)]) h dE_seenFrom_4 rfl (by decide) rfl ?_
  refine sr_aload_n h dE_seenFrom_5 rfl 1 rfl ?_
  refine sr_astore_n (lv' := [(0, .ref a0), (1, .ref a1), (2, .ref q_5), (3, .ref a1)]) h dE_seenFrom_6 rfl (by decide) rfl ?_
  refine sr_aload_n h dE_seenFrom_7 rfl 3 rfl ?_
  obtain ⟨N_8, f_9, ho_10, vc⟩ := vc
  refine sr_alen (t := 0) h dE_seenFrom_8 ho_10 rfl ?_
  refine sr_istore (lv' := [(0, .ref a0), (1, .ref a1), (2, .ref q_5), (3, .ref a1), (4, .int (nI N_8))]) h dE_seenFrom_9 (by decide) rfl ?_
  refine sr_iconst (v := 0) h dE_seenFrom_11 (by decide) ?_
  refine sr_istore (lv' := [(0, .ref a0), (1, .ref a1), (2, .ref q_5), (3, .ref a1), (4, .int (nI N_8)), (5, .int 0)]) h dE_seenFrom_12 (by decide) rfl ?_
  exact vc
set_option maxRecDepth 100000 in
set_option maxHeartbeats 4000000 in
theorem bkE_seenFrom_14 {κ : sp_K} {x : sp_X} {mc ms : Nat} {Rt : Option Value → sp_M → Prop} {Xt : String → sp_M → Prop} {μ : sp_M} {k n : Nat} {a0 : Nat} {a1 : Nat} {a2 : Nat} {a3 : Nat} {v4 : Int32} {v5 : Int32} (h : cxE_seenFrom κ x mc ms) (hk : k ≤ mc ∧ n ≤ ms)
    (vc : ((v4 ≤ v5 → Rt (some (.ref a2)) μ) ∧ (¬ v4 ≤ v5 → (∃ (N_1 : Nat) (f_2 : Nat → Int32), μ a3 = some (sp_ia κ N_1 f_2) ∧ ∃ j_4 : Nat, v5 = nI j_4 ∧ j_4 < N_1 ∧ (∃ mc_7 ms_8 : Nat, (k + mc_7 ≤ mc ∧ n + ms_8 ≤ ms) ∧ ∃ fs_12 : List Value, μ a0 = some (.inr (2, fs_12)) ∧ sp_m x.2.1 κ yE_spanOf wE_spanOf 6 90 mc_7 ms_8 [.ref a0, .int (f_2 j_4)] μ (fun v_10 μ_11 => ∃ r_15 : Option Nat, v_10 = some (va_rf r_15) ∧ sp_w κ x (sp_F κ x Rt Xt mc ms) (k + mc_7) (n + ms_8) 38 [(0, .ref a0), (1, .ref a1), (2, .ref a2), (3, .ref a3), (4, .int v4), (5, .int v5), (6, .int (f_2 j_4)), (7, va_rf r_15), (8, .int 0)] [] μ_11) (fun E_16 μ_11 => Xt E_16 μ_11)))))) : sp_w κ x (sp_F κ x Rt Xt mc ms) k n 14 [(0, .ref a0), (1, .ref a1), (2, .ref a2), (3, .ref a3), (4, .int v4), (5, .int v5)] [] μ := by
  refine sr_iload h dE_seenFrom_14 5 rfl ?_
  refine sr_iload h dE_seenFrom_16 4 rfl ?_
  refine sr_icmp_ge (tgt := 77) h dE_seenFrom_18 (by decide) (fun c_17 => ?_) (fun c_17 => ?_)
  · replace vc := vc.1 c_17
    refine sr_aload_n h dE_seenFrom_77 rfl 2 rfl ?_
    exact sr_aret (r := some a2) h (Or.inr ⟨_, rfl⟩) dE_seenFrom_78 hk.1 hk.2 vc
  · replace vc := vc.2 c_17
    refine sr_aload_n h dE_seenFrom_21 rfl 3 rfl ?_
    refine sr_iload h dE_seenFrom_22 5 rfl ?_
    obtain ⟨N_1, f_2, ho_3, vc⟩ := vc
    obtain ⟨j_4, hi_5, hj_6, vc⟩ := vc
    refine sr_iald h dE_seenFrom_24 ho_3 hi_5 hj_6 ?_
    refine sr_istore (lv' := [(0, .ref a0), (1, .ref a1), (2, .ref a2), (3, .ref a3), (4, .int v4), (5, .int v5), (6, .int (f_2 j_4))]) h dE_seenFrom_25 (by decide) rfl ?_
    refine sr_aload_n h dE_seenFrom_27 rfl 0 rfl ?_
    refine sr_iload h dE_seenFrom_28 6 rfl ?_
    obtain ⟨mc_7, ms_8, hc_9, vc⟩ := vc
    obtain ⟨fs_12, ho_13, vc⟩ := vc
    refine sr_callV (y := yE_spanOf) (n0 := 1) (As := [.int (f_2 j_4)]) h (sp_gV kw_284 kw_286 kw_6 kw_34 kw_287) rfl (by decide +kernel) ⟨Nat.le_of_ble_eq_true rfl, Nat.le_of_ble_eq_true rfl⟩ (ci := 2) rfl dE_seenFrom_30 rfl rfl (Nat.le_of_ble_eq_true rfl) hc_9 ho_13 vc (fun v_10 μ_11 vc' => ?_) (fun E_16 μ_11 vc' => ?_)
    · replace vc := vc'
      clear vc'
      obtain ⟨r_15, rfl, vc⟩ := vc
      refine sr_astoreO (lv' := [(0, .ref a0), (1, .ref a1), (2, .ref a2), (3, .ref a3), (4, .int v4), (5, .int v5), (6, .int (f_2 j_4)), (7, va_rf r_15)]) h dE_seenFrom_33 (by decide) rfl ?_
      refine sr_iconst (v := 0) h dE_seenFrom_35 (by decide) ?_
      refine sr_istore (lv' := [(0, .ref a0), (1, .ref a1), (2, .ref a2), (3, .ref a3), (4, .int v4), (5, .int v5), (6, .int (f_2 j_4)), (7, va_rf r_15), (8, .int 0)]) h dE_seenFrom_36 (by decide) rfl ?_
      exact vc
    · replace vc := vc'
      clear vc'
      exact st_out h (fun _ z => nomatch z) hc_9.1 hc_9.2 vc
set_option maxRecDepth 100000 in
set_option maxHeartbeats 4000000 in
theorem bkE_seenFrom_38 {κ : sp_K} {x : sp_X} {mc ms : Nat} {Rt : Option Value → sp_M → Prop} {Xt : String → sp_M → Prop} {μ : sp_M} {k n : Nat} {a0 : Nat} {a1 : Nat} {a2 : Nat} {a3 : Nat} {v4 : Int32} {v5 : Int32} {v6 : Int32} {r7 : Option Nat} {v8 : Int32} (h : cxE_seenFrom κ x mc ms) (hk : k ≤ mc ∧ n ≤ ms)
    (vc : ((16 ≤ v8 → sp_w κ x (sp_F κ x Rt Xt mc ms) k n 14 [(0, .ref a0), (1, .ref a1), (2, .ref a2), (3, .ref a3), (4, .int v4), (5, .int (v5 + 1))] [] μ) ∧ (¬ 16 ≤ v8 → (∃ (N_1 : Nat) (f_2 : Nat → Int32), μ a2 = some (sp_ia κ N_1 f_2) ∧ ∃ j_4 : Nat, v8 = nI j_4 ∧ j_4 < N_1 ∧ (∃ a_12 : Nat, r7 = some a_12 ∧ ∃ mc_7 ms_8 : Nat, (k + mc_7 ≤ mc ∧ n + ms_8 ≤ ms) ∧ ∃ fs_13 : List Value, μ a_12 = some (.inr (1, fs_13)) ∧ sp_m x.2.1 κ yS_seenAt wS_seenAt 1 21 mc_7 ms_8 [.ref a_12, .int v6, .int v8] μ (fun v_10 μ_11 => ∃ v_16 : Int32, v_10 = some (.int v_16) ∧ (∃ (N_17 : Nat) (f_18 : Nat → Int32), μ_11 a2 = some (sp_ia κ N_17 f_18) ∧ ∃ j_20 : Nat, v8 = nI j_20 ∧ j_20 < N_17 ∧ ∀ μ_23 : sp_M, μ_23 = va_up μ_11 a2 (some (sp_ia κ N_17 (upd f_18 j_20 (if (f_2 j_4) < v_16 then v_16 else (f_2 j_4))))) → sp_w κ x (sp_F κ x Rt Xt mc ms) (k + mc_7) (n + ms_8) 38 [(0, .ref a0), (1, .ref a1), (2, .ref a2), (3, .ref a3), (4, .int v4), (5, .int v5), (6, .int v6), (7, .ref a_12), (8, .int (v8 + 1))] [] μ_23)) (fun E_24 μ_11 => Xt E_24 μ_11)))))) : sp_w κ x (sp_F κ x Rt Xt mc ms) k n 38 [(0, .ref a0), (1, .ref a1), (2, .ref a2), (3, .ref a3), (4, .int v4), (5, .int v5), (6, .int v6), (7, va_rf r7), (8, .int v8)] [] μ := by
  refine sr_iload h dE_seenFrom_38 8 rfl ?_
  refine sr_bipush (v := 16) h dE_seenFrom_40 (by decide) ?_
  refine sr_icmp_ge (tgt := 71) h dE_seenFrom_42 (by decide) (fun c_25 => ?_) (fun c_25 => ?_)
  · replace vc := vc.1 c_25
    refine sr_iinc (u := v5 + 1) (lv' := [(0, .ref a0), (1, .ref a1), (2, .ref a2), (3, .ref a3), (4, .int v4), (5, .int (v5 + 1)), (6, .int v6), (7, va_rf r7), (8, .int v8)]) h dE_seenFrom_71 5 rfl rfl (by decide) rfl ?_
    refine sr_goto (tgt := 14) h dE_seenFrom_74 (by decide) ?_
    exact sr_sub (lv' := [(0, .ref a0), (1, .ref a1), (2, .ref a2), (3, .ref a3), (4, .int v4), (5, .int (v5 + 1))]) [0, 1, 2, 3, 4, 5] rfl vc
  · replace vc := vc.2 c_25
    refine sr_aload_n h dE_seenFrom_45 rfl 2 rfl ?_
    refine sr_iload h dE_seenFrom_46 8 rfl ?_
    refine sr_aload_n h dE_seenFrom_48 rfl 2 rfl ?_
    refine sr_iload h dE_seenFrom_49 8 rfl ?_
    obtain ⟨N_1, f_2, ho_3, vc⟩ := vc
    obtain ⟨j_4, hi_5, hj_6, vc⟩ := vc
    refine sr_iald h dE_seenFrom_51 ho_3 hi_5 hj_6 ?_
    refine sr_aloadO h dE_seenFrom_52 7 rfl ?_
    refine sr_iload h dE_seenFrom_54 6 rfl ?_
    refine sr_iload h dE_seenFrom_56 8 rfl ?_
    obtain ⟨a_12, rfl, vc⟩ := vc
    obtain ⟨mc_7, ms_8, hc_9, vc⟩ := vc
    obtain ⟨fs_13, ho_14, vc⟩ := vc
    refine sr_callV (y := yS_seenAt) (n0 := 2) (As := [.int v6, .int v8]) h (sp_gV kw_288 kw_289 kw_290 kw_47 kw_291) rfl (by decide +kernel) ⟨Nat.le_of_ble_eq_true rfl, Nat.le_of_ble_eq_true rfl⟩ (ci := 1) rfl dE_seenFrom_58 rfl rfl (Nat.le_of_ble_eq_true rfl) hc_9 ho_14 vc (fun v_10 μ_11 vc' => ?_) (fun E_24 μ_11 vc' => ?_)
    · replace vc := vc'
      clear vc'
      obtain ⟨v_16, rfl, vc⟩ := vc
      refine sr_mmax h kw_109 kw_110 kw_44 kw_mmax dE_seenFrom_61 (Nat.le_of_ble_eq_true rfl) (Nat.le_of_ble_eq_true rfl) hc_9.1 hc_9.2 ?_
      obtain ⟨N_17, f_18, ho_19, vc⟩ := vc
      obtain ⟨j_20, hi_21, hj_22, vc⟩ := vc
      replace vc := vc _ rfl
      refine sr_iast h dE_seenFrom_64 ho_19 hi_21 hj_22 ?_
      refine sr_iinc (u := v8 + 1) (lv' := [(0, .ref a0), (1, .ref a1), (2, .ref a2), (3, .ref a3), (4, .int v4), (5, .int v5), (6, .int v6), (7, .ref a_12), (8, .int (v8 + 1))]) h dE_seenFrom_65 8 rfl rfl (by decide) rfl ?_
      refine sr_goto (tgt := 38) h dE_seenFrom_68 (by decide) ?_
      exact vc
    · replace vc := vc'
      clear vc'
      exact st_out h (fun _ z => nomatch z) hc_9.1 hc_9.2 vc

abbrev cxE_spanOf (κ : sp_K) (x : sp_X) (mc ms : Nat) : Prop := sp_C κ x cE_spanOf 2 RE (some (.object "EventSpans$Span")) [] "spanOf" (sp_rm 6 90 mc ms)
set_option maxRecDepth 100000 in
set_option maxHeartbeats 4000000 in
theorem bkE_spanOf_0 {κ : sp_K} {x : sp_X} {mc ms : Nat} {Rt : Option Value → sp_M → Prop} {Xt : String → sp_M → Prop} {μ : sp_M} {k n : Nat} {a0 : Nat} {v1 : Int32} (h : cxE_spanOf κ x mc ms) (hk : k ≤ mc ∧ n ≤ ms)
    (vc : ((v1 < 0 → ((k + 1 ≤ mc ∧ n + 6 ≤ ms) ∧ Xt "java/util/NoSuchElementException" μ)) ∧ (¬ v1 < 0 → ((8192 ≤ v1 → ((k + 1 ≤ mc ∧ n + 6 ≤ ms) ∧ Xt "java/util/NoSuchElementException" μ)) ∧ (¬ 8192 ≤ v1 → (∃ fs_3 : List Value, μ a0 = some (.inr (2, fs_3)) ∧ ∃ r_5 : Option Nat, fs_3[2]? = some (va_rf r_5) ∧ (∃ a_7 : Nat, r_5 = some a_7 ∧ ∃ (N_8 : Nat) (f_9 : Nat → Option Nat), μ a_7 = some (sp_ra κ 4 N_8 f_9) ∧ ∃ j_11 : Nat, v1 = nI j_11 ∧ j_11 < N_8 ∧ ∃ r_14 : Option Nat, f_9 j_11 = r_14 ∧ ((r_14 = none → ((k + 1 ≤ mc ∧ n + 6 ≤ ms) ∧ Xt "java/util/NoSuchElementException" μ)) ∧ (∀ a_16 : Nat, r_14 = some a_16 → ((∃ j_18 : Nat, v1 = nI j_18 ∧ j_18 < N_8 ∧ ∃ r_21 : Option Nat, f_9 j_18 = r_21 ∧ Rt (some (va_rf r_21)) μ))))))))))) : sp_w κ x (sp_F κ x Rt Xt mc ms) k n 0 [(0, .ref a0), (1, .int v1)] [] μ := by
  refine sr_iload_n h dE_spanOf_0 rfl 1 rfl ?_
  refine sr_if_lt (tgt := 20) h dE_spanOf_1 (by decide) (fun c_24 => ?_) (fun c_24 => ?_)
  · replace vc := vc.1 c_24
    obtain ⟨hc_1, vc⟩ := vc
    exact sr_throw0 (names := ["java/lang/RuntimeException", "java/lang/Exception"]) h (by decide +kernel) (by decide +kernel) kw_129 kw_39 ka_E_123 kg_E_123 dE_spanOf_20 dE_spanOf_23 dE_spanOf_24 dE_spanOf_27 (fun _ z => nomatch z) (Nat.le_of_ble_eq_true rfl) (Nat.le_of_ble_eq_true rfl) hc_1.1 hc_1.2 hc_1.1 hc_1.2 vc
  · replace vc := vc.2 c_24
    refine sr_iload_n h dE_spanOf_4 rfl 1 rfl ?_
    refine sr_sipush (v := 8192) h dE_spanOf_5 (by decide) ?_
    refine sr_icmp_ge (tgt := 20) h dE_spanOf_8 (by decide) (fun c_23 => ?_) (fun c_23 => ?_)
    · replace vc := vc.1 c_23
      obtain ⟨hc_2, vc⟩ := vc
      exact sr_throw0 (names := ["java/lang/RuntimeException", "java/lang/Exception"]) h (by decide +kernel) (by decide +kernel) kw_129 kw_39 ka_E_123 kg_E_123 dE_spanOf_20 dE_spanOf_23 dE_spanOf_24 dE_spanOf_27 (fun _ z => nomatch z) (Nat.le_of_ble_eq_true rfl) (Nat.le_of_ble_eq_true rfl) hc_2.1 hc_2.2 hc_2.1 hc_2.2 vc
    · replace vc := vc.2 c_23
      refine sr_aload_n h dE_spanOf_11 rfl 0 rfl ?_
      obtain ⟨fs_3, ho_4, vc⟩ := vc
      obtain ⟨r_5, hv_6, vc⟩ := vc
      refine sr_get h inE rfl 2 (by decide) kw_62 dE_spanOf_12 ho_4 hv_6 ?_
      refine sr_iload_n h dE_spanOf_15 rfl 1 rfl ?_
      obtain ⟨a_7, rfl, vc⟩ := vc
      obtain ⟨N_8, f_9, ho_10, vc⟩ := vc
      obtain ⟨j_11, hi_12, hj_13, vc⟩ := vc
      obtain ⟨r_14, hr_15, vc⟩ := vc
      refine sr_aald h dE_spanOf_16 rfl ho_10 hi_12 hj_13 hr_15 ?_
      rcases r_14 with _ | a_16
      · replace vc := vc.1 rfl
        refine sr_ifnonnull_n h dE_spanOf_17 ?_
        obtain ⟨hc_17, vc⟩ := vc
        exact sr_throw0 (names := ["java/lang/RuntimeException", "java/lang/Exception"]) h (by decide +kernel) (by decide +kernel) kw_129 kw_39 ka_E_123 kg_E_123 dE_spanOf_20 dE_spanOf_23 dE_spanOf_24 dE_spanOf_27 (fun _ z => nomatch z) (Nat.le_of_ble_eq_true rfl) (Nat.le_of_ble_eq_true rfl) hc_17.1 hc_17.2 hc_17.1 hc_17.2 vc
      · replace vc := vc.2 a_16 rfl
        refine sr_ifnonnull_s (tgt := 28) h dE_spanOf_17 (by decide) ?_
        refine sr_aload_n h dE_spanOf_28 rfl 0 rfl ?_
        refine sr_get h inE rfl 2 (by decide) kw_62 dE_spanOf_29 ho_4 hv_6 ?_
        refine sr_iload_n h dE_spanOf_32 rfl 1 rfl ?_
        obtain ⟨j_18, hi_19, hj_20, vc⟩ := vc
        obtain ⟨r_21, hr_22, vc⟩ := vc
        refine sr_aald h dE_spanOf_33 rfl ho_10 hi_19 hj_20 hr_22 ?_
        exact sr_aret (r := r_21) h (Or.inl ⟨_, rfl⟩) dE_spanOf_34 hk.1 hk.2 vc

abbrev cxE_holdsAncestor (κ : sp_K) (x : sp_X) (mc ms : Nat) : Prop := sp_C κ x cE_holdsAncestor 10 RE (some .boolean) [] "holdsAncestor" (sp_rm 8 135 mc ms)
set_option maxRecDepth 100000 in
set_option maxHeartbeats 4000000 in
theorem bkE_holdsAncestor_0 {κ : sp_K} {x : sp_X} {mc ms : Nat} {Rt : Option Value → sp_M → Prop} {Xt : String → sp_M → Prop} {μ : sp_M} {k n : Nat} {a0 : Nat} {a1 : Nat} (h : cxE_holdsAncestor κ x mc ms) (hk : k ≤ mc ∧ n ≤ ms)
    (vc : (∃ (N_1 : Nat) (f_2 : Nat → Int32), μ a1 = some (sp_ia κ N_1 f_2) ∧ sp_w κ x (sp_F κ x Rt Xt mc ms) k n 8 [(0, .ref a0), (1, .ref a1), (2, .ref a1), (3, .int (nI N_1)), (4, .int 0)] [] μ)) : sp_w κ x (sp_F κ x Rt Xt mc ms) k n 0 [(0, .ref a0), (1, .ref a1)] [] μ := by
  refine sr_aload_n h dE_holdsAncestor_0 rfl 1 rfl ?_
  refine sr_astore_n (lv' := [(0, .ref a0), (1, .ref a1), (2, .ref a1)]) h dE_holdsAncestor_1 rfl (by decide) rfl ?_
  refine sr_aload_n h dE_holdsAncestor_2 rfl 2 rfl ?_
  obtain ⟨N_1, f_2, ho_3, vc⟩ := vc
  refine sr_alen (t := 0) h dE_holdsAncestor_3 ho_3 rfl ?_
  refine sr_istore_n (lv' := [(0, .ref a0), (1, .ref a1), (2, .ref a1), (3, .int (nI N_1))]) h dE_holdsAncestor_4 rfl (by decide) rfl ?_
  refine sr_iconst (v := 0) h dE_holdsAncestor_5 (by decide) ?_
  refine sr_istore (lv' := [(0, .ref a0), (1, .ref a1), (2, .ref a1), (3, .int (nI N_1)), (4, .int 0)]) h dE_holdsAncestor_6 (by decide) rfl ?_
  exact vc
set_option maxRecDepth 100000 in
set_option maxHeartbeats 4000000 in
theorem bkE_holdsAncestor_8 {κ : sp_K} {x : sp_X} {mc ms : Nat} {Rt : Option Value → sp_M → Prop} {Xt : String → sp_M → Prop} {μ : sp_M} {k n : Nat} {a0 : Nat} {a1 : Nat} {a2 : Nat} {v3 : Int32} {v4 : Int32} (h : cxE_holdsAncestor κ x mc ms) (hk : k ≤ mc ∧ n ≤ ms)
    (vc : ((v3 ≤ v4 → Rt (some (.int 0)) μ) ∧ (¬ v3 ≤ v4 → (∃ (N_1 : Nat) (f_2 : Nat → Int32), μ a2 = some (sp_ia κ N_1 f_2) ∧ ∃ j_4 : Nat, v4 = nI j_4 ∧ j_4 < N_1 ∧ (∃ (N_7 : Nat) (f_8 : Nat → Int32), μ a1 = some (sp_ia κ N_7 f_8) ∧ sp_w κ x (sp_F κ x Rt Xt mc ms) k n 31 [(0, .ref a0), (1, .ref a1), (2, .ref a2), (3, .int v3), (4, .int v4), (5, .int (f_2 j_4)), (6, .ref a1), (7, .int (nI N_7)), (8, .int 0)] [] μ))))) : sp_w κ x (sp_F κ x Rt Xt mc ms) k n 8 [(0, .ref a0), (1, .ref a1), (2, .ref a2), (3, .int v3), (4, .int v4)] [] μ := by
  refine sr_iload h dE_holdsAncestor_8 4 rfl ?_
  refine sr_iload_n h dE_holdsAncestor_10 rfl 3 rfl ?_
  refine sr_icmp_ge (tgt := 70) h dE_holdsAncestor_11 (by decide) (fun c_10 => ?_) (fun c_10 => ?_)
  · replace vc := vc.1 c_10
    refine sr_iconst (v := 0) h dE_holdsAncestor_70 (by decide) ?_
    exact sr_zret h dE_holdsAncestor_71 rfl hk.1 hk.2 vc
  · replace vc := vc.2 c_10
    refine sr_aload_n h dE_holdsAncestor_14 rfl 2 rfl ?_
    refine sr_iload h dE_holdsAncestor_15 4 rfl ?_
    obtain ⟨N_1, f_2, ho_3, vc⟩ := vc
    obtain ⟨j_4, hi_5, hj_6, vc⟩ := vc
    refine sr_iald h dE_holdsAncestor_17 ho_3 hi_5 hj_6 ?_
    refine sr_istore (lv' := [(0, .ref a0), (1, .ref a1), (2, .ref a2), (3, .int v3), (4, .int v4), (5, .int (f_2 j_4))]) h dE_holdsAncestor_18 (by decide) rfl ?_
    refine sr_aload_n h dE_holdsAncestor_20 rfl 1 rfl ?_
    refine sr_astore (lv' := [(0, .ref a0), (1, .ref a1), (2, .ref a2), (3, .int v3), (4, .int v4), (5, .int (f_2 j_4)), (6, .ref a1)]) h dE_holdsAncestor_21 (by decide) rfl ?_
    refine sr_aload h dE_holdsAncestor_23 6 rfl ?_
    obtain ⟨N_7, f_8, ho_9, vc⟩ := vc
    refine sr_alen (t := 0) h dE_holdsAncestor_25 ho_9 rfl ?_
    refine sr_istore (lv' := [(0, .ref a0), (1, .ref a1), (2, .ref a2), (3, .int v3), (4, .int v4), (5, .int (f_2 j_4)), (6, .ref a1), (7, .int (nI N_7))]) h dE_holdsAncestor_26 (by decide) rfl ?_
    refine sr_iconst (v := 0) h dE_holdsAncestor_28 (by decide) ?_
    refine sr_istore (lv' := [(0, .ref a0), (1, .ref a1), (2, .ref a2), (3, .int v3), (4, .int v4), (5, .int (f_2 j_4)), (6, .ref a1), (7, .int (nI N_7)), (8, .int 0)]) h dE_holdsAncestor_29 (by decide) rfl ?_
    exact vc
set_option maxRecDepth 100000 in
set_option maxHeartbeats 4000000 in
theorem bkE_holdsAncestor_31 {κ : sp_K} {x : sp_X} {mc ms : Nat} {Rt : Option Value → sp_M → Prop} {Xt : String → sp_M → Prop} {μ : sp_M} {k n : Nat} {a0 : Nat} {a1 : Nat} {a2 : Nat} {v3 : Int32} {v4 : Int32} {v5 : Int32} {a6 : Nat} {v7 : Int32} {v8 : Int32} (h : cxE_holdsAncestor κ x mc ms) (hk : k ≤ mc ∧ n ≤ ms)
    (vc : ((v7 ≤ v8 → sp_w κ x (sp_F κ x Rt Xt mc ms) k n 8 [(0, .ref a0), (1, .ref a1), (2, .ref a2), (3, .int v3), (4, .int (v4 + 1))] [] μ) ∧ (¬ v7 ≤ v8 → (∃ (N_1 : Nat) (f_2 : Nat → Int32), μ a6 = some (sp_ia κ N_1 f_2) ∧ ∃ j_4 : Nat, v8 = nI j_4 ∧ j_4 < N_1 ∧ (∃ mc_7 ms_8 : Nat, (k + mc_7 ≤ mc ∧ n + ms_8 ≤ ms) ∧ ∃ fs_12 : List Value, μ a0 = some (.inr (2, fs_12)) ∧ sp_m x.2.1 κ yE_isAncestor wE_isAncestor 7 111 mc_7 ms_8 [.ref a0, .int v5, .int (f_2 j_4)] μ (fun v_10 μ_11 => ∃ v_15 : Int32, v_10 = some (.int v_15) ∧ ((v_15 = 0 → sp_w κ x (sp_F κ x Rt Xt mc ms) (k + mc_7) (n + ms_8) 31 [(0, .ref a0), (1, .ref a1), (2, .ref a2), (3, .int v3), (4, .int v4), (5, .int v5), (6, .ref a6), (7, .int v7), (8, .int (v8 + 1))] [] μ_11) ∧ (¬ v_15 = 0 → Rt (some (.int 1)) μ_11))) (fun E_17 μ_11 => Xt E_17 μ_11)))))) : sp_w κ x (sp_F κ x Rt Xt mc ms) k n 31 [(0, .ref a0), (1, .ref a1), (2, .ref a2), (3, .int v3), (4, .int v4), (5, .int v5), (6, .ref a6), (7, .int v7), (8, .int v8)] [] μ := by
  refine sr_iload h dE_holdsAncestor_31 8 rfl ?_
  refine sr_iload h dE_holdsAncestor_33 7 rfl ?_
  refine sr_icmp_ge (tgt := 64) h dE_holdsAncestor_35 (by decide) (fun c_18 => ?_) (fun c_18 => ?_)
  · replace vc := vc.1 c_18
    refine sr_iinc (u := v4 + 1) (lv' := [(0, .ref a0), (1, .ref a1), (2, .ref a2), (3, .int v3), (4, .int (v4 + 1)), (5, .int v5), (6, .ref a6), (7, .int v7), (8, .int v8)]) h dE_holdsAncestor_64 4 rfl rfl (by decide) rfl ?_
    refine sr_goto (tgt := 8) h dE_holdsAncestor_67 (by decide) ?_
    exact sr_sub (lv' := [(0, .ref a0), (1, .ref a1), (2, .ref a2), (3, .int v3), (4, .int (v4 + 1))]) [0, 1, 2, 3, 4] rfl vc
  · replace vc := vc.2 c_18
    refine sr_aload h dE_holdsAncestor_38 6 rfl ?_
    refine sr_iload h dE_holdsAncestor_40 8 rfl ?_
    obtain ⟨N_1, f_2, ho_3, vc⟩ := vc
    obtain ⟨j_4, hi_5, hj_6, vc⟩ := vc
    refine sr_iald h dE_holdsAncestor_42 ho_3 hi_5 hj_6 ?_
    refine sr_istore (lv' := [(0, .ref a0), (1, .ref a1), (2, .ref a2), (3, .int v3), (4, .int v4), (5, .int v5), (6, .ref a6), (7, .int v7), (8, .int v8), (9, .int (f_2 j_4))]) h dE_holdsAncestor_43 (by decide) rfl ?_
    refine sr_aload_n h dE_holdsAncestor_45 rfl 0 rfl ?_
    refine sr_iload h dE_holdsAncestor_46 5 rfl ?_
    refine sr_iload h dE_holdsAncestor_48 9 rfl ?_
    obtain ⟨mc_7, ms_8, hc_9, vc⟩ := vc
    obtain ⟨fs_12, ho_13, vc⟩ := vc
    refine sr_callV (y := yE_isAncestor) (n0 := 2) (As := [.int v5, .int (f_2 j_4)]) h (sp_gV kw_296 kw_298 kw_8 kw_34 kw_299) rfl (by decide +kernel) ⟨Nat.le_of_ble_eq_true rfl, Nat.le_of_ble_eq_true rfl⟩ (ci := 2) rfl dE_holdsAncestor_50 rfl rfl (Nat.le_of_ble_eq_true rfl) hc_9 ho_13 vc (fun v_10 μ_11 vc' => ?_) (fun E_17 μ_11 vc' => ?_)
    · replace vc := vc'
      clear vc'
      obtain ⟨v_15, rfl, vc⟩ := vc
      refine sr_if_eq (tgt := 58) h dE_holdsAncestor_53 (by decide) (fun c_16 => ?_) (fun c_16 => ?_)
      · replace vc := vc.1 c_16
        refine sr_iinc (u := v8 + 1) (lv' := [(0, .ref a0), (1, .ref a1), (2, .ref a2), (3, .int v3), (4, .int v4), (5, .int v5), (6, .ref a6), (7, .int v7), (8, .int (v8 + 1)), (9, .int (f_2 j_4))]) h dE_holdsAncestor_58 8 rfl rfl (by decide) rfl ?_
        refine sr_goto (tgt := 31) h dE_holdsAncestor_61 (by decide) ?_
        exact sr_sub (lv' := [(0, .ref a0), (1, .ref a1), (2, .ref a2), (3, .int v3), (4, .int v4), (5, .int v5), (6, .ref a6), (7, .int v7), (8, .int (v8 + 1))]) [0, 1, 2, 3, 4, 5, 6, 7, 8] rfl vc
      · replace vc := vc.2 c_16
        refine sr_iconst (v := 1) h dE_holdsAncestor_56 (by decide) ?_
        exact sr_zret h dE_holdsAncestor_57 rfl hc_9.1 hc_9.2 vc
    · replace vc := vc'
      clear vc'
      exact st_out h (fun _ z => nomatch z) hc_9.1 hc_9.2 vc

abbrev cxE_isAncestor (κ : sp_K) (x : sp_X) (mc ms : Nat) : Prop := sp_C κ x cE_isAncestor 5 RE (some .boolean) [] "isAncestor" (sp_rm 7 111 mc ms)
set_option maxRecDepth 100000 in
set_option maxHeartbeats 4000000 in
theorem bkE_isAncestor_0 {κ : sp_K} {x : sp_X} {mc ms : Nat} {Rt : Option Value → sp_M → Prop} {Xt : String → sp_M → Prop} {μ : sp_M} {k n : Nat} {a0 : Nat} {v1 : Int32} {v2 : Int32} (h : cxE_isAncestor κ x mc ms) (hk : k ≤ mc ∧ n ≤ ms)
    (vc : (∃ mc_1 ms_2 : Nat, (k + mc_1 ≤ mc ∧ n + ms_2 ≤ ms) ∧ ∃ fs_6 : List Value, μ a0 = some (.inr (2, fs_6)) ∧ sp_m x.2.1 κ yE_spanOf wE_spanOf 6 90 mc_1 ms_2 [.ref a0, .int v1] μ (fun v_4 μ_5 => ∃ r_9 : Option Nat, v_4 = some (va_rf r_9) ∧ (∃ mc_10 ms_11 : Nat, ((k + mc_1) + mc_10 ≤ mc ∧ (n + ms_2) + ms_11 ≤ ms) ∧ ∃ fs_15 : List Value, μ_5 a0 = some (.inr (2, fs_15)) ∧ sp_m x.2.1 κ yE_spanOf wE_spanOf 6 90 mc_10 ms_11 [.ref a0, .int v2] μ_5 (fun v_13 μ_14 => ∃ r_18 : Option Nat, v_13 = some (va_rf r_18) ∧ ((v1 = v2 → Rt (some (.int 0)) μ_14) ∧ (¬ v1 = v2 → (∃ a_19 : Nat, r_9 = some a_19 ∧ ∃ fs_20 : List Value, μ_14 a_19 = some (.inr (1, fs_20)) ∧ ∃ r_22 : Option Nat, fs_20[0]? = some (va_rf r_22) ∧ (∃ a_24 : Nat, r_22 = some a_24 ∧ ∃ fs_25 : List Value, μ_14 a_24 = some (.inr (0, fs_25)) ∧ ∃ v_27 : Int32, fs_25[1]? = some (.int v_27) ∧ (∃ a_34 : Nat, r_18 = some a_34 ∧ ∃ mc_29 ms_30 : Nat, ((k + mc_1 + mc_10) + mc_29 ≤ mc ∧ (n + ms_2 + ms_11) + ms_30 ≤ ms) ∧ ∃ fs_35 : List Value, μ_14 a_34 = some (.inr (1, fs_35)) ∧ sp_m x.2.1 κ yS_seenAt wS_seenAt 1 21 mc_29 ms_30 [.ref a_34, .int v2, .int v_27] μ_14 (fun v_32 μ_33 => ∃ v_38 : Int32, v_32 = some (.int v_38) ∧ (∃ mc_39 ms_40 : Nat, ((k + mc_1 + mc_10 + mc_29) + mc_39 ≤ mc ∧ (n + ms_2 + ms_11 + ms_30) + ms_40 ≤ ms) ∧ ∃ fs_44 : List Value, μ_33 a_19 = some (.inr (1, fs_44)) ∧ sp_m x.2.1 κ yS_numberAt wS_numberAt 0 0 mc_39 ms_40 [.ref a_19, .int v1] μ_33 (fun v_42 μ_43 => ∃ v_47 : Int32, v_42 = some (.int v_47) ∧ ((v_38 ≤ v_47 → Rt (some (.int 0)) μ_43) ∧ (¬ v_38 ≤ v_47 → Rt (some (.int 1)) μ_43))) (fun E_49 μ_43 => Xt E_49 μ_43))) (fun E_50 μ_33 => Xt E_50 μ_33))))))) (fun E_52 μ_14 => Xt E_52 μ_14))) (fun E_53 μ_5 => Xt E_53 μ_5))) : sp_w κ x (sp_F κ x Rt Xt mc ms) k n 0 [(0, .ref a0), (1, .int v1), (2, .int v2)] [] μ := by
  refine sr_aload_n h dE_isAncestor_0 rfl 0 rfl ?_
  refine sr_iload_n h dE_isAncestor_1 rfl 1 rfl ?_
  obtain ⟨mc_1, ms_2, hc_3, vc⟩ := vc
  obtain ⟨fs_6, ho_7, vc⟩ := vc
  refine sr_callV (y := yE_spanOf) (n0 := 1) (As := [.int v1]) h (sp_gV kw_284 kw_286 kw_6 kw_34 kw_287) rfl (by decide +kernel) ⟨Nat.le_of_ble_eq_true rfl, Nat.le_of_ble_eq_true rfl⟩ (ci := 2) rfl dE_isAncestor_2 rfl rfl (Nat.le_of_ble_eq_true rfl) hc_3 ho_7 vc (fun v_4 μ_5 vc' => ?_) (fun E_53 μ_5 vc' => ?_)
  · replace vc := vc'
    clear vc'
    obtain ⟨r_9, rfl, vc⟩ := vc
    refine sr_astoreO_n (lv' := [(0, .ref a0), (1, .int v1), (2, .int v2), (3, va_rf r_9)]) h dE_isAncestor_5 rfl (by decide) rfl ?_
    refine sr_aload_n h dE_isAncestor_6 rfl 0 rfl ?_
    refine sr_iload_n h dE_isAncestor_7 rfl 2 rfl ?_
    obtain ⟨mc_10, ms_11, hc_12, vc⟩ := vc
    obtain ⟨fs_15, ho_16, vc⟩ := vc
    refine sr_callV (y := yE_spanOf) (n0 := 1) (As := [.int v2]) h (sp_gV kw_284 kw_286 kw_6 kw_34 kw_287) rfl (by decide +kernel) ⟨Nat.le_of_ble_eq_true rfl, Nat.le_of_ble_eq_true rfl⟩ (ci := 2) rfl dE_isAncestor_8 rfl rfl (Nat.le_of_ble_eq_true rfl) hc_12 ho_16 vc (fun v_13 μ_14 vc' => ?_) (fun E_52 μ_14 vc' => ?_)
    · replace vc := vc'
      clear vc'
      obtain ⟨r_18, rfl, vc⟩ := vc
      refine sr_astoreO (lv' := [(0, .ref a0), (1, .int v1), (2, .int v2), (3, va_rf r_9), (4, va_rf r_18)]) h dE_isAncestor_11 (by decide) rfl ?_
      refine sr_iload_n h dE_isAncestor_13 rfl 1 rfl ?_
      refine sr_iload_n h dE_isAncestor_14 rfl 2 rfl ?_
      refine sr_icmp_eq (tgt := 43) h dE_isAncestor_15 (by decide) (fun c_51 => ?_) (fun c_51 => ?_)
      · replace vc := vc.1 c_51
        refine sr_iconst (v := 0) h dE_isAncestor_43 (by decide) ?_
        exact sr_zret h dE_isAncestor_44 rfl hc_12.1 hc_12.2 vc
      · replace vc := vc.2 c_51
        refine sr_aloadO h dE_isAncestor_18 4 rfl ?_
        refine sr_iload_n h dE_isAncestor_20 rfl 2 rfl ?_
        refine sr_aloadO_n h dE_isAncestor_21 rfl 3 rfl ?_
        obtain ⟨a_19, rfl, vc⟩ := vc
        obtain ⟨fs_20, ho_21, vc⟩ := vc
        obtain ⟨r_22, hv_23, vc⟩ := vc
        refine sr_get h inS rfl 0 (by decide) kw_355 dE_isAncestor_22 ho_21 hv_23 ?_
        obtain ⟨a_24, rfl, vc⟩ := vc
        obtain ⟨fs_25, ho_26, vc⟩ := vc
        obtain ⟨v_27, hv_28, vc⟩ := vc
        refine sr_get h inA rfl 1 (by decide) kw_317 dE_isAncestor_25 ho_26 hv_28 ?_
        obtain ⟨a_34, rfl, vc⟩ := vc
        obtain ⟨mc_29, ms_30, hc_31, vc⟩ := vc
        obtain ⟨fs_35, ho_36, vc⟩ := vc
        refine sr_callV (y := yS_seenAt) (n0 := 2) (As := [.int v2, .int v_27]) h (sp_gV kw_288 kw_289 kw_290 kw_47 kw_291) rfl (by decide +kernel) ⟨Nat.le_of_ble_eq_true rfl, Nat.le_of_ble_eq_true rfl⟩ (ci := 1) rfl dE_isAncestor_28 rfl rfl (Nat.le_of_ble_eq_true rfl) hc_31 ho_36 vc (fun v_32 μ_33 vc' => ?_) (fun E_50 μ_33 vc' => ?_)
        · replace vc := vc'
          clear vc'
          obtain ⟨v_38, rfl, vc⟩ := vc
          refine sr_aload_n h dE_isAncestor_31 rfl 3 rfl ?_
          refine sr_iload_n h dE_isAncestor_32 rfl 1 rfl ?_
          obtain ⟨mc_39, ms_40, hc_41, vc⟩ := vc
          obtain ⟨fs_44, ho_45, vc⟩ := vc
          refine sr_callV (y := yS_numberAt) (n0 := 1) (As := [.int v1]) h (sp_gV kw_300 kw_198 kw_199 kw_47 kw_200) rfl (by decide +kernel) ⟨Nat.le_of_ble_eq_true rfl, Nat.le_of_ble_eq_true rfl⟩ (ci := 1) rfl dE_isAncestor_33 rfl rfl (Nat.le_of_ble_eq_true rfl) hc_41 ho_45 vc (fun v_42 μ_43 vc' => ?_) (fun E_49 μ_43 vc' => ?_)
          · replace vc := vc'
            clear vc'
            obtain ⟨v_47, rfl, vc⟩ := vc
            refine sr_icmp_le (tgt := 43) h dE_isAncestor_36 (by decide) (fun c_48 => ?_) (fun c_48 => ?_)
            · replace vc := vc.1 c_48
              refine sr_iconst (v := 0) h dE_isAncestor_43 (by decide) ?_
              exact sr_zret h dE_isAncestor_44 rfl hc_41.1 hc_41.2 vc
            · replace vc := vc.2 c_48
              refine sr_iconst (v := 1) h dE_isAncestor_39 (by decide) ?_
              refine sr_goto (tgt := 44) h dE_isAncestor_40 (by decide) ?_
              exact sr_zret h dE_isAncestor_44 rfl hc_41.1 hc_41.2 vc
          · replace vc := vc'
            clear vc'
            exact st_out h (fun _ z => nomatch z) hc_41.1 hc_41.2 vc
        · replace vc := vc'
          clear vc'
          exact st_out h (fun _ z => nomatch z) hc_31.1 hc_31.2 vc
    · replace vc := vc'
      clear vc'
      exact st_out h (fun _ z => nomatch z) hc_12.1 hc_12.2 vc
  · replace vc := vc'
    clear vc'
    exact st_out h (fun _ z => nomatch z) hc_3.1 hc_3.2 vc

abbrev cxE_endHeads (κ : sp_K) (x : sp_X) (mc ms : Nat) : Prop := sp_C κ x cE_endHeads 7 RE none [] "endHeads" (sp_rm 7 111 mc ms)
set_option maxRecDepth 100000 in
set_option maxHeartbeats 4000000 in
theorem bkE_endHeads_0 {κ : sp_K} {x : sp_X} {mc ms : Nat} {Rt : Option Value → sp_M → Prop} {Xt : String → sp_M → Prop} {μ : sp_M} {k n : Nat} {a0 : Nat} {a1 : Nat} (h : cxE_endHeads κ x mc ms) (hk : k ≤ mc ∧ n ≤ ms)
    (vc : (∃ (N_1 : Nat) (f_2 : Nat → Int32), μ a1 = some (sp_ia κ N_1 f_2) ∧ sp_w κ x (sp_F κ x Rt Xt mc ms) k n 8 [(0, .ref a0), (1, .ref a1), (2, .ref a1), (3, .int (nI N_1)), (4, .int 0)] [] μ)) : sp_w κ x (sp_F κ x Rt Xt mc ms) k n 0 [(0, .ref a0), (1, .ref a1)] [] μ := by
  refine sr_aload_n h dE_endHeads_0 rfl 1 rfl ?_
  refine sr_astore_n (lv' := [(0, .ref a0), (1, .ref a1), (2, .ref a1)]) h dE_endHeads_1 rfl (by decide) rfl ?_
  refine sr_aload_n h dE_endHeads_2 rfl 2 rfl ?_
  obtain ⟨N_1, f_2, ho_3, vc⟩ := vc
  refine sr_alen (t := 0) h dE_endHeads_3 ho_3 rfl ?_
  refine sr_istore_n (lv' := [(0, .ref a0), (1, .ref a1), (2, .ref a1), (3, .int (nI N_1))]) h dE_endHeads_4 rfl (by decide) rfl ?_
  refine sr_iconst (v := 0) h dE_endHeads_5 (by decide) ?_
  refine sr_istore (lv' := [(0, .ref a0), (1, .ref a1), (2, .ref a1), (3, .int (nI N_1)), (4, .int 0)]) h dE_endHeads_6 (by decide) rfl ?_
  exact vc
set_option maxRecDepth 100000 in
set_option maxHeartbeats 4000000 in
theorem bkE_endHeads_8 {κ : sp_K} {x : sp_X} {mc ms : Nat} {Rt : Option Value → sp_M → Prop} {Xt : String → sp_M → Prop} {μ : sp_M} {k n : Nat} {a0 : Nat} {a1 : Nat} {a2 : Nat} {v3 : Int32} {v4 : Int32} (h : cxE_endHeads κ x mc ms) (hk : k ≤ mc ∧ n ≤ ms)
    (vc : ((v3 ≤ v4 → Rt none μ) ∧ (¬ v3 ≤ v4 → (∃ (N_1 : Nat) (f_2 : Nat → Int32), μ a2 = some (sp_ia κ N_1 f_2) ∧ ∃ j_4 : Nat, v4 = nI j_4 ∧ j_4 < N_1 ∧ (∃ mc_7 ms_8 : Nat, (k + mc_7 ≤ mc ∧ n + ms_8 ≤ ms) ∧ ∃ fs_12 : List Value, μ a0 = some (.inr (2, fs_12)) ∧ sp_m x.2.1 κ yE_spanOf wE_spanOf 6 90 mc_7 ms_8 [.ref a0, .int (f_2 j_4)] μ (fun v_10 μ_11 => ∃ r_15 : Option Nat, v_10 = some (va_rf r_15) ∧ (∃ a_16 : Nat, r_15 = some a_16 ∧ ∃ fs_17 : List Value, μ_11 a_16 = some (.inr (1, fs_17)) ∧ ∃ r_19 : Option Nat, fs_17[0]? = some (va_rf r_19) ∧ (∃ a_21 : Nat, r_19 = some a_21 ∧ ∃ fs_22 : List Value, μ_11 a_21 = some (.inr (0, fs_22)) ∧ ∃ v_24 : Int32, fs_22[3]? = some (.int v_24) ∧ ((¬ v_24 = (f_2 j_4) → sp_w κ x (sp_F κ x Rt Xt mc ms) (k + mc_7) (n + ms_8) 8 [(0, .ref a0), (1, .ref a1), (2, .ref a2), (3, .int v3), (4, .int (v4 + 1))] [] μ_11) ∧ (v_24 = (f_2 j_4) → (4 < fs_22.length ∧ (narrow (tyA 4) (.int 0) = (.int 0) ∧ fits (tyA 4) (.int 0) = true) ∧ ∀ μ_26 : sp_M, μ_26 = va_up μ_11 a_21 (some (.inr (0, fs_22.set 4 (.int 0)))) → sp_w κ x (sp_F κ x Rt Xt mc ms) (k + mc_7) (n + ms_8) 8 [(0, .ref a0), (1, .ref a1), (2, .ref a2), (3, .int v3), (4, .int (v4 + 1))] [] μ_26)))))) (fun E_30 μ_11 => Xt E_30 μ_11)))))) : sp_w κ x (sp_F κ x Rt Xt mc ms) k n 8 [(0, .ref a0), (1, .ref a1), (2, .ref a2), (3, .int v3), (4, .int v4)] [] μ := by
  refine sr_iload h dE_endHeads_8 4 rfl ?_
  refine sr_iload_n h dE_endHeads_10 rfl 3 rfl ?_
  refine sr_icmp_ge (tgt := 53) h dE_endHeads_11 (by decide) (fun c_31 => ?_) (fun c_31 => ?_)
  · replace vc := vc.1 c_31
    exact sr_vret h dE_endHeads_53 hk.1 hk.2 vc
  · replace vc := vc.2 c_31
    refine sr_aload_n h dE_endHeads_14 rfl 2 rfl ?_
    refine sr_iload h dE_endHeads_15 4 rfl ?_
    obtain ⟨N_1, f_2, ho_3, vc⟩ := vc
    obtain ⟨j_4, hi_5, hj_6, vc⟩ := vc
    refine sr_iald h dE_endHeads_17 ho_3 hi_5 hj_6 ?_
    refine sr_istore (lv' := [(0, .ref a0), (1, .ref a1), (2, .ref a2), (3, .int v3), (4, .int v4), (5, .int (f_2 j_4))]) h dE_endHeads_18 (by decide) rfl ?_
    refine sr_aload_n h dE_endHeads_20 rfl 0 rfl ?_
    refine sr_iload h dE_endHeads_21 5 rfl ?_
    obtain ⟨mc_7, ms_8, hc_9, vc⟩ := vc
    obtain ⟨fs_12, ho_13, vc⟩ := vc
    refine sr_callV (y := yE_spanOf) (n0 := 1) (As := [.int (f_2 j_4)]) h (sp_gV kw_284 kw_286 kw_6 kw_34 kw_287) rfl (by decide +kernel) ⟨Nat.le_of_ble_eq_true rfl, Nat.le_of_ble_eq_true rfl⟩ (ci := 2) rfl dE_endHeads_23 rfl rfl (Nat.le_of_ble_eq_true rfl) hc_9 ho_13 vc (fun v_10 μ_11 vc' => ?_) (fun E_30 μ_11 vc' => ?_)
    · replace vc := vc'
      clear vc'
      obtain ⟨r_15, rfl, vc⟩ := vc
      obtain ⟨a_16, rfl, vc⟩ := vc
      obtain ⟨fs_17, ho_18, vc⟩ := vc
      obtain ⟨r_19, hv_20, vc⟩ := vc
      refine sr_get h inS rfl 0 (by decide) kw_355 dE_endHeads_26 ho_18 hv_20 ?_
      refine sr_astoreO (lv' := [(0, .ref a0), (1, .ref a1), (2, .ref a2), (3, .int v3), (4, .int v4), (5, .int (f_2 j_4)), (6, va_rf r_19)]) h dE_endHeads_29 (by decide) rfl ?_
      refine sr_aloadO h dE_endHeads_31 6 rfl ?_
      obtain ⟨a_21, rfl, vc⟩ := vc
      obtain ⟨fs_22, ho_23, vc⟩ := vc
      obtain ⟨v_24, hv_25, vc⟩ := vc
      refine sr_get h inA rfl 3 (by decide) kw_323 dE_endHeads_33 ho_23 hv_25 ?_
      refine sr_iload h dE_endHeads_36 5 rfl ?_
      refine sr_icmp_ne (tgt := 47) h dE_endHeads_38 (by decide) (fun c_29 => ?_) (fun c_29 => ?_)
      · replace vc := vc.1 c_29
        refine sr_iinc (u := v4 + 1) (lv' := [(0, .ref a0), (1, .ref a1), (2, .ref a2), (3, .int v3), (4, .int (v4 + 1)), (5, .int (f_2 j_4)), (6, .ref a_21)]) h dE_endHeads_47 4 rfl rfl (by decide) rfl ?_
        refine sr_goto (tgt := 8) h dE_endHeads_50 (by decide) ?_
        exact sr_sub (lv' := [(0, .ref a0), (1, .ref a1), (2, .ref a2), (3, .int v3), (4, .int (v4 + 1))]) [0, 1, 2, 3, 4] rfl vc
      · replace vc := vc.2 c_29
        refine sr_aload h dE_endHeads_41 6 rfl ?_
        refine sr_iconst (v := 0) h dE_endHeads_43 (by decide) ?_
        obtain ⟨hl_27, hn_28, vc⟩ := vc
        replace vc := vc _ rfl
        refine sr_put h inA tyA tyA_ok nmA rfl 4 (by decide) kw_325 rfl dE_endHeads_44 ho_23 hn_28.1 hn_28.2 hl_27 ?_
        refine sr_iinc (u := v4 + 1) (lv' := [(0, .ref a0), (1, .ref a1), (2, .ref a2), (3, .int v3), (4, .int (v4 + 1)), (5, .int (f_2 j_4)), (6, .ref a_21)]) h dE_endHeads_47 4 rfl rfl (by decide) rfl ?_
        refine sr_goto (tgt := 8) h dE_endHeads_50 (by decide) ?_
        exact sr_sub (lv' := [(0, .ref a0), (1, .ref a1), (2, .ref a2), (3, .int v3), (4, .int (v4 + 1))]) [0, 1, 2, 3, 4] rfl vc
    · replace vc := vc'
      clear vc'
      exact st_out h (fun _ z => nomatch z) hc_9.1 hc_9.2 vc

abbrev cxE_newAgent (κ : sp_K) (x : sp_X) (mc ms : Nat) : Prop := sp_C κ x cE_newAgent 3 RE (some (.object "EventSpans$Agent")) [] "newAgent" (sp_rm 2 44 mc ms)
set_option maxRecDepth 100000 in
set_option maxHeartbeats 4000000 in
theorem bkE_newAgent_0 {κ : sp_K} {x : sp_X} {mc ms : Nat} {Rt : Option Value → sp_M → Prop} {Xt : String → sp_M → Prop} {μ : sp_M} {k n : Nat} {a0 : Nat} {v1 : Int32} (h : cxE_newAgent κ x mc ms) (hk : k ≤ mc ∧ n ≤ ms)
    (vc : ((k + 1 ≤ mc ∧ n + 6 ≤ ms) ∧ ∀ q_1 : Nat, μ q_1 = none → ∀ μ_3 : sp_M, μ_3 = va_up μ q_1 (some (.inr (0, [.int 0, .int 0, .int 0, .int 0, .int 0, .null]))) → (∃ fs_5 : List Value, μ_3 a0 = some (.inr (2, fs_5)) ∧ ∃ v_7 : Int32, fs_5[1]? = some (.int v_7) ∧ (∃ mc_9 ms_10 : Nat, ((k + 1) + mc_9 ≤ mc ∧ (n + 6) + ms_10 ≤ ms) ∧ sp_m x.2.1 κ yA_init wA_init 1 22 mc_9 ms_10 [.ref q_1, .int v1, .int v_7] μ_3 (fun v_12 μ_13 => v_12 = none ∧ (∃ fs_15 : List Value, μ_13 a0 = some (.inr (2, fs_15)) ∧ ∃ r_17 : Option Nat, fs_15[0]? = some (va_rf r_17) ∧ (∃ a_19 : Nat, r_17 = some a_19 ∧ ∃ (N_20 : Nat) (f_21 : Nat → Option Nat), μ_13 a_19 = some (sp_ra κ 3 N_20 f_21) ∧ ∃ fs_27 : List Value, μ_13 q_1 = some (.inr (0, fs_27)) ∧ ∃ j_23 : Nat, v1 = nI j_23 ∧ j_23 < N_20 ∧ ∀ μ_26 : sp_M, μ_26 = va_up μ_13 a_19 (some (sp_ra κ 3 N_20 (va_up f_21 j_23 (some q_1)))) → (∃ fs_29 : List Value, μ_26 a0 = some (.inr (2, fs_29)) ∧ ∃ v_31 : Int32, fs_29[1]? = some (.int v_31) ∧ (1 < fs_29.length ∧ ∀ μ_33 : sp_M, μ_33 = va_up μ_26 a0 (some (.inr (2, fs_29.set 1 (.int (v_31 + 1))))) → Rt (some (.ref q_1)) μ_33))))) (fun E_35 μ_13 => False))))) : sp_w κ x (sp_F κ x Rt Xt mc ms) k n 0 [(0, .ref a0), (1, .int v1)] [] μ := by
  obtain ⟨hc_4, vc⟩ := vc
  refine sr_new (ci := 0) (fs := [.int 0, .int 0, .int 0, .int 0, .int 0, .null]) h inA tyA tyA_ok rfl kw_56 kw_309 kw_46 (fun j hj => by rcases (show j = 0 ∨ j = 1 ∨ j = 2 ∨ j = 3 ∨ j = 4 ∨ j = 5 by omega) with rfl | rfl | rfl | rfl | rfl | rfl <;> rfl) dE_newAgent_0 hc_4.1 hc_4.2 (fun q_1 hz_2 => ?_)
  replace vc := vc q_1 hz_2 _ rfl
  refine sr_dup h dE_newAgent_3 (sp_c1r _) ?_
  refine sr_iload_n h dE_newAgent_4 rfl 1 rfl ?_
  refine sr_aload_n h dE_newAgent_5 rfl 0 rfl ?_
  obtain ⟨fs_5, ho_6, vc⟩ := vc
  obtain ⟨v_7, hv_8, vc⟩ := vc
  refine sr_get h inE rfl 1 (by decide) kw_61 dE_newAgent_6 ho_6 hv_8 ?_
  obtain ⟨mc_9, ms_10, hc_11, vc⟩ := vc
  refine sr_callI (y := yA_init) (n0 := 2) (As := [.int v1, .int v_7]) h (sp_gI kw_312) rfl rfl kw_46 kw_310 kw_311 (by decide +kernel) ⟨Nat.le_of_ble_eq_true rfl, Nat.le_of_ble_eq_true rfl⟩ dE_newAgent_9 rfl rfl (Nat.le_of_ble_eq_true rfl) hc_11 vc (fun v_12 μ_13 vc' => ?_)
  replace vc := vc'
  clear vc'
  obtain ⟨rfl, vc⟩ := vc
  refine sr_astore_n (lv' := [(0, .ref a0), (1, .int v1), (2, .ref q_1)]) h dE_newAgent_12 rfl (by decide) rfl ?_
  refine sr_aload_n h dE_newAgent_13 rfl 0 rfl ?_
  obtain ⟨fs_15, ho_16, vc⟩ := vc
  obtain ⟨r_17, hv_18, vc⟩ := vc
  refine sr_get h inE rfl 0 (by decide) kw_60 dE_newAgent_14 ho_16 hv_18 ?_
  refine sr_iload_n h dE_newAgent_17 rfl 1 rfl ?_
  refine sr_aload_n h dE_newAgent_18 rfl 2 rfl ?_
  obtain ⟨a_19, rfl, vc⟩ := vc
  obtain ⟨N_20, f_21, ho_22, vc⟩ := vc
  obtain ⟨fs_27, ho_28, vc⟩ := vc
  obtain ⟨j_23, hi_24, hj_25, vc⟩ := vc
  replace vc := vc _ rfl
  refine sr_aast h dE_newAgent_19 rfl (ci := 0) rfl ho_22 hi_24 hj_25 ho_28 ?_
  refine sr_aload_n h dE_newAgent_20 rfl 0 rfl ?_
  refine sr_dup h dE_newAgent_21 (sp_c1r _) ?_
  obtain ⟨fs_29, ho_30, vc⟩ := vc
  obtain ⟨v_31, hv_32, vc⟩ := vc
  refine sr_get h inE rfl 1 (by decide) kw_61 dE_newAgent_22 ho_30 hv_32 ?_
  refine sr_iconst (v := 1) h dE_newAgent_25 (by decide) ?_
  refine sr_iadd h dE_newAgent_26 ?_
  obtain ⟨hl_34, vc⟩ := vc
  replace vc := vc _ rfl
  refine sr_put h inE tyE tyE_ok nmE rfl 1 (by decide) kw_61 rfl dE_newAgent_27 ho_30 rfl rfl hl_34 ?_
  refine sr_aload_n h dE_newAgent_30 rfl 2 rfl ?_
  exact sr_aret (r := some q_1) h (Or.inl ⟨_, rfl⟩) dE_newAgent_31 hc_11.1 hc_11.2 vc

abbrev cxE_append (κ : sp_K) (x : sp_X) (mc ms : Nat) : Prop := sp_C κ x cE_append 7 RE none [] "append" (sp_rm 2 51 mc ms)
set_option maxRecDepth 100000 in
set_option maxHeartbeats 4000000 in
theorem bkE_append_0 {κ : sp_K} {x : sp_X} {mc ms : Nat} {Rt : Option Value → sp_M → Prop} {Xt : String → sp_M → Prop} {μ : sp_M} {k n : Nat} {a0 : Nat} {a1 : Nat} {v2 : Int32} {a3 : Nat} {a4 : Nat} (h : cxE_append κ x mc ms) (hk : k ≤ mc ∧ n ≤ ms)
    (vc : (∃ fs_1 : List Value, μ a1 = some (.inr (0, fs_1)) ∧ ∃ v_3 : Int32, fs_1[1]? = some (.int v_3) ∧ (∃ v_5 : Int32, fs_1[2]? = some (.int v_5) ∧ (∃ (N_7 : Nat) (f_8 : Nat → Int32), μ a4 = some (sp_ia κ N_7 f_8) ∧ ∃ j_10 : Nat, v_3 = nI j_10 ∧ j_10 < N_7 ∧ ∀ μ_13 : sp_M, μ_13 = va_up μ a4 (some (sp_ia κ N_7 (upd f_8 j_10 (v_5 + 1)))) → ((k + 1 ≤ mc ∧ n + 9 ≤ ms) ∧ ∀ q_14 : Nat, μ_13 q_14 = none → ∀ μ_16 : sp_M, μ_16 = va_up μ_13 q_14 (some (.inr (1, [.null, .int 0, .int 0, .int 0, .null, .null, .int 0, .null, .null]))) → (∃ fs_18 : List Value, μ_16 a0 = some (.inr (2, fs_18)) ∧ ∃ v_20 : Int32, fs_18[3]? = some (.int v_20) ∧ (∃ r_22 : Option Nat, fs_18[4]? = some (va_rf r_22) ∧ (∃ mc_24 ms_25 : Nat, ((k + 1) + mc_24 ≤ mc ∧ (n + 9) + ms_25 ≤ ms) ∧ sp_m x.2.1 κ yS_init wS_init 1 25 mc_24 ms_25 [.ref q_14, .ref a1, .int v_20, .int v2, .ref a3, .ref a4, va_rf r_22] μ_16 (fun v_27 μ_28 => v_27 = none ∧ (∃ fs_30 : List Value, μ_28 q_14 = some (.inr (1, fs_30)) ∧ ∃ v_32 : Int32, fs_30[1]? = some (.int v_32) ∧ sp_w κ x (sp_F κ x Rt Xt mc ms) (k + 1 + mc_24) (n + 9 + ms_25) 42 [(0, .ref a0), (1, .ref a1), (2, .int v2), (3, .ref a3), (4, .ref a4), (5, .ref q_14), (6, .int v_32)] [] μ_28)) (fun E_34 μ_28 => False))))))))) : sp_w κ x (sp_F κ x Rt Xt mc ms) k n 0 [(0, .ref a0), (1, .ref a1), (2, .int v2), (3, .ref a3), (4, .ref a4)] [] μ := by
  refine sr_aload h dE_append_0 4 rfl ?_
  refine sr_aload_n h dE_append_2 rfl 1 rfl ?_
  obtain ⟨fs_1, ho_2, vc⟩ := vc
  obtain ⟨v_3, hv_4, vc⟩ := vc
  refine sr_get h inA rfl 1 (by decide) kw_317 dE_append_3 ho_2 hv_4 ?_
  refine sr_aload_n h dE_append_6 rfl 1 rfl ?_
  obtain ⟨v_5, hv_6, vc⟩ := vc
  refine sr_get h inA rfl 2 (by decide) kw_321 dE_append_7 ho_2 hv_6 ?_
  refine sr_iconst (v := 1) h dE_append_10 (by decide) ?_
  refine sr_iadd h dE_append_11 ?_
  obtain ⟨N_7, f_8, ho_9, vc⟩ := vc
  obtain ⟨j_10, hi_11, hj_12, vc⟩ := vc
  replace vc := vc _ rfl
  refine sr_iast h dE_append_12 ho_9 hi_11 hj_12 ?_
  obtain ⟨hc_17, vc⟩ := vc
  refine sr_new (ci := 1) (fs := [.null, .int 0, .int 0, .int 0, .null, .null, .int 0, .null, .null]) h inS tyS tyS_ok rfl kw_58 kw_346 kw_47 (fun j hj => by rcases (show j = 0 ∨ j = 1 ∨ j = 2 ∨ j = 3 ∨ j = 4 ∨ j = 5 ∨ j = 6 ∨ j = 7 ∨ j = 8 by omega) with rfl | rfl | rfl | rfl | rfl | rfl | rfl | rfl | rfl <;> rfl) dE_append_13 hc_17.1 hc_17.2 (fun q_14 hz_15 => ?_)
  replace vc := vc q_14 hz_15 _ rfl
  refine sr_dup h dE_append_16 (sp_c1r _) ?_
  refine sr_aload_n h dE_append_17 rfl 1 rfl ?_
  refine sr_aload_n h dE_append_18 rfl 0 rfl ?_
  obtain ⟨fs_18, ho_19, vc⟩ := vc
  obtain ⟨v_20, hv_21, vc⟩ := vc
  refine sr_get h inE rfl 3 (by decide) kw_63 dE_append_19 ho_19 hv_21 ?_
  refine sr_iload_n h dE_append_22 rfl 2 rfl ?_
  refine sr_aload_n h dE_append_23 rfl 3 rfl ?_
  refine sr_aload h dE_append_24 4 rfl ?_
  refine sr_aload_n h dE_append_26 rfl 0 rfl ?_
  obtain ⟨r_22, hv_23, vc⟩ := vc
  refine sr_get h inE rfl 4 (by decide) kw_64 dE_append_27 ho_19 hv_23 ?_
  obtain ⟨mc_24, ms_25, hc_26, vc⟩ := vc
  refine sr_callI (y := yS_init) (n0 := 6) (As := [.ref a1, .int v_20, .int v2, .ref a3, .ref a4, va_rf r_22]) h (sp_gI kw_349) rfl rfl kw_47 kw_347 kw_348 (by decide +kernel) ⟨Nat.le_of_ble_eq_true rfl, Nat.le_of_ble_eq_true rfl⟩ dE_append_30 rfl rfl (Nat.le_of_ble_eq_true rfl) hc_26 vc (fun v_27 μ_28 vc' => ?_)
  replace vc := vc'
  clear vc'
  obtain ⟨rfl, vc⟩ := vc
  refine sr_astore (lv' := [(0, .ref a0), (1, .ref a1), (2, .int v2), (3, .ref a3), (4, .ref a4), (5, .ref q_14)]) h dE_append_33 (by decide) rfl ?_
  refine sr_aload h dE_append_35 5 rfl ?_
  obtain ⟨fs_30, ho_31, vc⟩ := vc
  obtain ⟨v_32, hv_33, vc⟩ := vc
  refine sr_get h inS rfl 1 (by decide) kw_357 dE_append_37 ho_31 hv_33 ?_
  refine sr_istore (lv' := [(0, .ref a0), (1, .ref a1), (2, .int v2), (3, .ref a3), (4, .ref a4), (5, .ref q_14), (6, .int v_32)]) h dE_append_40 (by decide) rfl ?_
  exact vc
set_option maxRecDepth 100000 in
set_option maxHeartbeats 4000000 in
theorem bkE_append_42 {κ : sp_K} {x : sp_X} {mc ms : Nat} {Rt : Option Value → sp_M → Prop} {Xt : String → sp_M → Prop} {μ : sp_M} {k n : Nat} {a0 : Nat} {a1 : Nat} {v2 : Int32} {a3 : Nat} {a4 : Nat} {a5 : Nat} {v6 : Int32} (h : cxE_append κ x mc ms) (hk : k ≤ mc ∧ n ≤ ms)
    (vc : (∃ fs_1 : List Value, μ a5 = some (.inr (1, fs_1)) ∧ ∃ v_3 : Int32, fs_1[2]? = some (.int v_3) ∧ ((v_3 < v6 → (∃ fs_5 : List Value, μ a1 = some (.inr (0, fs_5)) ∧ ∃ v_7 : Int32, fs_5[2]? = some (.int v_7) ∧ (2 < fs_5.length ∧ ∀ μ_9 : sp_M, μ_9 = va_up μ a1 (some (.inr (0, fs_5.set 2 (.int (v_7 + v2))))) → (∃ fs_11 : List Value, μ_9 a5 = some (.inr (1, fs_11)) ∧ ∃ v_13 : Int32, fs_11[2]? = some (.int v_13) ∧ (∃ fs_15 : List Value, μ_9 a1 = some (.inr (0, fs_15)) ∧ 3 < fs_15.length ∧ ∀ μ_17 : sp_M, μ_17 = va_up μ_9 a1 (some (.inr (0, fs_15.set 3 (.int v_13)))) → (∃ fs_19 : List Value, μ_17 a1 = some (.inr (0, fs_19)) ∧ 4 < fs_19.length ∧ (narrow (tyA 4) (.int 1) = (.int 1) ∧ fits (tyA 4) (.int 1) = true) ∧ ∀ μ_21 : sp_M, μ_21 = va_up μ_17 a1 (some (.inr (0, fs_19.set 4 (.int 1)))) → (∃ fs_24 : List Value, μ_21 a1 = some (.inr (0, fs_24)) ∧ 5 < fs_24.length ∧ ∀ μ_26 : sp_M, μ_26 = va_up μ_21 a1 (some (.inr (0, fs_24.set 5 (.ref a5)))) → (∃ fs_28 : List Value, μ_26 a0 = some (.inr (2, fs_28)) ∧ ∃ v_30 : Int32, fs_28[3]? = some (.int v_30) ∧ (3 < fs_28.length ∧ ∀ μ_32 : sp_M, μ_32 = va_up μ_26 a0 (some (.inr (2, fs_28.set 3 (.int (v_30 + v2))))) → (∃ fs_34 : List Value, μ_32 a0 = some (.inr (2, fs_34)) ∧ 4 < fs_34.length ∧ ∀ μ_36 : sp_M, μ_36 = va_up μ_32 a0 (some (.inr (2, fs_34.set 4 (.ref a5)))) → Rt none μ_36)))))))))) ∧ (¬ v_3 < v6 → (∃ fs_38 : List Value, μ a0 = some (.inr (2, fs_38)) ∧ ∃ r_40 : Option Nat, fs_38[2]? = some (va_rf r_40) ∧ (∃ a_42 : Nat, r_40 = some a_42 ∧ ∃ (N_43 : Nat) (f_44 : Nat → Option Nat), μ a_42 = some (sp_ra κ 4 N_43 f_44) ∧ ∃ j_46 : Nat, v6 = nI j_46 ∧ j_46 < N_43 ∧ ∀ μ_49 : sp_M, μ_49 = va_up μ a_42 (some (sp_ra κ 4 N_43 (va_up f_44 j_46 (some a5)))) → sp_w κ x (sp_F κ x Rt Xt mc ms) k n 42 [(0, .ref a0), (1, .ref a1), (2, .int v2), (3, .ref a3), (4, .ref a4), (5, .ref a5), (6, .int (v6 + 1))] [] μ_49)))))) : sp_w κ x (sp_F κ x Rt Xt mc ms) k n 42 [(0, .ref a0), (1, .ref a1), (2, .int v2), (3, .ref a3), (4, .ref a4), (5, .ref a5), (6, .int v6)] [] μ := by
  refine sr_iload h dE_append_42 6 rfl ?_
  refine sr_aload h dE_append_44 5 rfl ?_
  obtain ⟨fs_1, ho_2, vc⟩ := vc
  obtain ⟨v_3, hv_4, vc⟩ := vc
  refine sr_get h inS rfl 2 (by decide) kw_359 dE_append_46 ho_2 hv_4 ?_
  refine sr_icmp_gt (tgt := 67) h dE_append_49 (by decide) (fun c_50 => ?_) (fun c_50 => ?_)
  · replace vc := vc.1 c_50
    refine sr_aload_n h dE_append_67 rfl 1 rfl ?_
    refine sr_dup h dE_append_68 (sp_c1r _) ?_
    obtain ⟨fs_5, ho_6, vc⟩ := vc
    obtain ⟨v_7, hv_8, vc⟩ := vc
    refine sr_get h inA rfl 2 (by decide) kw_321 dE_append_69 ho_6 hv_8 ?_
    refine sr_iload_n h dE_append_72 rfl 2 rfl ?_
    refine sr_iadd h dE_append_73 ?_
    obtain ⟨hl_10, vc⟩ := vc
    replace vc := vc _ rfl
    refine sr_put h inA tyA tyA_ok nmA rfl 2 (by decide) kw_321 rfl dE_append_74 ho_6 rfl rfl hl_10 ?_
    refine sr_aload_n h dE_append_77 rfl 1 rfl ?_
    refine sr_aload h dE_append_78 5 rfl ?_
    obtain ⟨fs_11, ho_12, vc⟩ := vc
    obtain ⟨v_13, hv_14, vc⟩ := vc
    refine sr_get h inS rfl 2 (by decide) kw_359 dE_append_80 ho_12 hv_14 ?_
    obtain ⟨fs_15, ho_16, vc⟩ := vc
    obtain ⟨hl_18, vc⟩ := vc
    replace vc := vc _ rfl
    refine sr_put h inA tyA tyA_ok nmA rfl 3 (by decide) kw_323 rfl dE_append_83 ho_16 rfl rfl hl_18 ?_
    refine sr_aload_n h dE_append_86 rfl 1 rfl ?_
    refine sr_iconst (v := 1) h dE_append_87 (by decide) ?_
    obtain ⟨fs_19, ho_20, vc⟩ := vc
    obtain ⟨hl_22, hn_23, vc⟩ := vc
    replace vc := vc _ rfl
    refine sr_put h inA tyA tyA_ok nmA rfl 4 (by decide) kw_325 rfl dE_append_88 ho_20 hn_23.1 hn_23.2 hl_22 ?_
    refine sr_aload_n h dE_append_91 rfl 1 rfl ?_
    refine sr_aload h dE_append_92 5 rfl ?_
    obtain ⟨fs_24, ho_25, vc⟩ := vc
    obtain ⟨hl_27, vc⟩ := vc
    replace vc := vc _ rfl
    refine sr_put h inA tyA tyA_ok nmA rfl 5 (by decide) kw_328 rfl dE_append_94 ho_25 rfl rfl hl_27 ?_
    refine sr_aload_n h dE_append_97 rfl 0 rfl ?_
    refine sr_dup h dE_append_98 (sp_c1r _) ?_
    obtain ⟨fs_28, ho_29, vc⟩ := vc
    obtain ⟨v_30, hv_31, vc⟩ := vc
    refine sr_get h inE rfl 3 (by decide) kw_63 dE_append_99 ho_29 hv_31 ?_
    refine sr_iload_n h dE_append_102 rfl 2 rfl ?_
    refine sr_iadd h dE_append_103 ?_
    obtain ⟨hl_33, vc⟩ := vc
    replace vc := vc _ rfl
    refine sr_put h inE tyE tyE_ok nmE rfl 3 (by decide) kw_63 rfl dE_append_104 ho_29 rfl rfl hl_33 ?_
    refine sr_aload_n h dE_append_107 rfl 0 rfl ?_
    refine sr_aload h dE_append_108 5 rfl ?_
    obtain ⟨fs_34, ho_35, vc⟩ := vc
    obtain ⟨hl_37, vc⟩ := vc
    replace vc := vc _ rfl
    refine sr_put h inE tyE tyE_ok nmE rfl 4 (by decide) kw_64 rfl dE_append_110 ho_35 rfl rfl hl_37 ?_
    exact sr_vret h dE_append_113 hk.1 hk.2 vc
  · replace vc := vc.2 c_50
    refine sr_aload_n h dE_append_52 rfl 0 rfl ?_
    obtain ⟨fs_38, ho_39, vc⟩ := vc
    obtain ⟨r_40, hv_41, vc⟩ := vc
    refine sr_get h inE rfl 2 (by decide) kw_62 dE_append_53 ho_39 hv_41 ?_
    refine sr_iload h dE_append_56 6 rfl ?_
    refine sr_aload h dE_append_58 5 rfl ?_
    obtain ⟨a_42, rfl, vc⟩ := vc
    obtain ⟨N_43, f_44, ho_45, vc⟩ := vc
    obtain ⟨j_46, hi_47, hj_48, vc⟩ := vc
    replace vc := vc _ rfl
    refine sr_aast h dE_append_60 rfl (ci := 1) rfl ho_45 hi_47 hj_48 ho_2 ?_
    refine sr_iinc (u := v6 + 1) (lv' := [(0, .ref a0), (1, .ref a1), (2, .int v2), (3, .ref a3), (4, .ref a4), (5, .ref a5), (6, .int (v6 + 1))]) h dE_append_61 6 rfl rfl (by decide) rfl ?_
    refine sr_goto (tgt := 42) h dE_append_64 (by decide) ?_
    exact vc

abbrev cxE_events (κ : sp_K) (x : sp_X) (mc ms : Nat) : Prop := sp_C κ x cE_events 2 RE (some .int) [] "events" (sp_rm 6 90 mc ms)
set_option maxRecDepth 100000 in
set_option maxHeartbeats 4000000 in
theorem bkE_events_0 {κ : sp_K} {x : sp_X} {mc ms : Nat} {Rt : Option Value → sp_M → Prop} {Xt : String → sp_M → Prop} {μ : sp_M} {k n : Nat} {a0 : Nat} {v1 : Int32} (h : cxE_events κ x mc ms) (hk : k ≤ mc ∧ n ≤ ms)
    (vc : ((¬ v1 = (-1) → (∃ mc_1 ms_2 : Nat, (k + mc_1 ≤ mc ∧ n + ms_2 ≤ ms) ∧ sp_m x.2.1 κ yE_isAgentName wE_isAgentName 0 0 mc_1 ms_2 [.int v1] μ (fun v_4 μ_5 => ∃ v_7 : Int32, v_4 = some (.int v_7) ∧ ((¬ v_7 = 0 → (∃ fs_8 : List Value, μ_5 a0 = some (.inr (2, fs_8)) ∧ ∃ r_10 : Option Nat, fs_8[0]? = some (va_rf r_10) ∧ (∃ a_12 : Nat, r_10 = some a_12 ∧ ∃ (N_13 : Nat) (f_14 : Nat → Option Nat), μ_5 a_12 = some (sp_ra κ 3 N_13 f_14) ∧ ∃ j_16 : Nat, v1 = nI j_16 ∧ j_16 < N_13 ∧ ∃ r_19 : Option Nat, f_14 j_16 = r_19 ∧ ((r_19 = none → Rt (some (.int 0)) μ_5) ∧ (∀ a_21 : Nat, r_19 = some a_21 → ((∃ j_22 : Nat, v1 = nI j_22 ∧ j_22 < N_13 ∧ ∃ r_25 : Option Nat, f_14 j_22 = r_25 ∧ (∃ a_27 : Nat, r_25 = some a_27 ∧ ∃ fs_28 : List Value, μ_5 a_27 = some (.inr (0, fs_28)) ∧ ∃ v_30 : Int32, fs_28[2]? = some (.int v_30) ∧ Rt (some (.int v_30)) μ_5)))))))) ∧ (v_7 = 0 → (((k + mc_1) + 1 ≤ mc ∧ (n + ms_2) + 6 ≤ ms) ∧ Xt "java/lang/IllegalArgumentException" μ_5)))) (fun E_34 μ_5 => Xt E_34 μ_5))) ∧ (v1 = (-1) → (∃ fs_35 : List Value, μ a0 = some (.inr (2, fs_35)) ∧ ∃ v_37 : Int32, fs_35[3]? = some (.int v_37) ∧ Rt (some (.int v_37)) μ)))) : sp_w κ x (sp_F κ x Rt Xt mc ms) k n 0 [(0, .ref a0), (1, .int v1)] [] μ := by
  refine sr_iload_n h dE_events_0 rfl 1 rfl ?_
  refine sr_iconst (v := -1) h dE_events_1 (by decide) ?_
  refine sr_icmp_ne (tgt := 10) h dE_events_2 (by decide) (fun c_39 => ?_) (fun c_39 => ?_)
  · replace vc := vc.1 c_39
    refine sr_iload_n h dE_events_10 rfl 1 rfl ?_
    obtain ⟨mc_1, ms_2, hc_3, vc⟩ := vc
    refine sr_callS (y := yE_isAgentName) (n0 := 1) (As := [.int v1]) (st := []) h (sp_gS kw_126 kw_127 kw_34 kw_128) rfl (by decide +kernel) ⟨Nat.le_of_ble_eq_true rfl, Nat.le_of_ble_eq_true rfl⟩ dE_events_11 rfl rfl (Nat.le_of_ble_eq_true rfl) hc_3 vc (fun v_4 μ_5 vc' => ?_) (fun E_34 μ_5 vc' => ?_)
    · replace vc := vc'
      clear vc'
      obtain ⟨v_7, rfl, vc⟩ := vc
      refine sr_if_ne (tgt := 25) h dE_events_14 (by decide) (fun c_33 => ?_) (fun c_33 => ?_)
      · replace vc := vc.1 c_33
        refine sr_aload_n h dE_events_25 rfl 0 rfl ?_
        obtain ⟨fs_8, ho_9, vc⟩ := vc
        obtain ⟨r_10, hv_11, vc⟩ := vc
        refine sr_get h inE rfl 0 (by decide) kw_60 dE_events_26 ho_9 hv_11 ?_
        refine sr_iload_n h dE_events_29 rfl 1 rfl ?_
        obtain ⟨a_12, rfl, vc⟩ := vc
        obtain ⟨N_13, f_14, ho_15, vc⟩ := vc
        obtain ⟨j_16, hi_17, hj_18, vc⟩ := vc
        obtain ⟨r_19, hr_20, vc⟩ := vc
        refine sr_aald h dE_events_30 rfl ho_15 hi_17 hj_18 hr_20 ?_
        rcases r_19 with _ | a_21
        · replace vc := vc.1 rfl
          refine sr_ifnonnull_n h dE_events_31 ?_
          refine sr_iconst (v := 0) h dE_events_34 (by decide) ?_
          refine sr_goto (tgt := 47) h dE_events_35 (by decide) ?_
          exact sr_iret h dE_events_47 hc_3.1 hc_3.2 vc
        · replace vc := vc.2 a_21 rfl
          refine sr_ifnonnull_s (tgt := 38) h dE_events_31 (by decide) ?_
          refine sr_aload_n h dE_events_38 rfl 0 rfl ?_
          refine sr_get h inE rfl 0 (by decide) kw_60 dE_events_39 ho_9 hv_11 ?_
          refine sr_iload_n h dE_events_42 rfl 1 rfl ?_
          obtain ⟨j_22, hi_23, hj_24, vc⟩ := vc
          obtain ⟨r_25, hr_26, vc⟩ := vc
          refine sr_aald h dE_events_43 rfl ho_15 hi_23 hj_24 hr_26 ?_
          obtain ⟨a_27, rfl, vc⟩ := vc
          obtain ⟨fs_28, ho_29, vc⟩ := vc
          obtain ⟨v_30, hv_31, vc⟩ := vc
          refine sr_get h inA rfl 2 (by decide) kw_321 dE_events_44 ho_29 hv_31 ?_
          exact sr_iret h dE_events_47 hc_3.1 hc_3.2 vc
      · replace vc := vc.2 c_33
        obtain ⟨hc_32, vc⟩ := vc
        exact sr_throw0 (names := ["java/lang/RuntimeException", "java/lang/Exception"]) h (by decide +kernel) (by decide +kernel) kw_247 kw_42 ka_E_69 kg_E_69 dE_events_17 dE_events_20 dE_events_21 dE_events_24 (fun _ z => nomatch z) (Nat.le_of_ble_eq_true rfl) (Nat.le_of_ble_eq_true rfl) hc_32.1 hc_32.2 hc_32.1 hc_32.2 vc
    · replace vc := vc'
      clear vc'
      exact st_out h (fun _ z => nomatch z) hc_3.1 hc_3.2 vc
  · replace vc := vc.2 c_39
    refine sr_aload_n h dE_events_5 rfl 0 rfl ?_
    obtain ⟨fs_35, ho_36, vc⟩ := vc
    obtain ⟨v_37, hv_38, vc⟩ := vc
    refine sr_get h inE rfl 3 (by decide) kw_63 dE_events_6 ho_36 hv_38 ?_
    exact sr_iret h dE_events_9 hk.1 hk.2 vc

abbrev cxE_place (κ : sp_K) (x : sp_X) (mc ms : Nat) : Prop := sp_C κ x cE_place 3 RE (some .int) [] "place" (sp_rm 7 113 mc ms)
set_option maxRecDepth 100000 in
set_option maxHeartbeats 4000000 in
theorem bkE_place_0 {κ : sp_K} {x : sp_X} {mc ms : Nat} {Rt : Option Value → sp_M → Prop} {Xt : String → sp_M → Prop} {μ : sp_M} {k n : Nat} {a0 : Nat} {v1 : Int32} {v2 : Int32} (h : cxE_place κ x mc ms) (hk : k ≤ mc ∧ n ≤ ms)
    (vc : (∃ mc_1 ms_2 : Nat, (k + mc_1 ≤ mc ∧ n + ms_2 ≤ ms) ∧ ∃ fs_6 : List Value, μ a0 = some (.inr (2, fs_6)) ∧ sp_m x.2.1 κ yE_find wE_find 6 90 mc_1 ms_2 [.ref a0, .int v1, .int v2] μ (fun v_4 μ_5 => ∃ v_9 : Int32, v_4 = some (.int v_9) ∧ Rt (some (.int v_9)) μ_5) (fun E_10 μ_5 => Xt E_10 μ_5))) : sp_w κ x (sp_F κ x Rt Xt mc ms) k n 0 [(0, .ref a0), (1, .int v1), (2, .int v2)] [] μ := by
  refine sr_aload_n h dE_place_0 rfl 0 rfl ?_
  refine sr_iload_n h dE_place_1 rfl 1 rfl ?_
  refine sr_iload_n h dE_place_2 rfl 2 rfl ?_
  obtain ⟨mc_1, ms_2, hc_3, vc⟩ := vc
  obtain ⟨fs_6, ho_7, vc⟩ := vc
  refine sr_callV (y := yE_find) (n0 := 2) (As := [.int v1, .int v2]) h (sp_gV kw_122 kw_124 kw_1 kw_34 kw_125) rfl (by decide +kernel) ⟨Nat.le_of_ble_eq_true rfl, Nat.le_of_ble_eq_true rfl⟩ (ci := 2) rfl dE_place_3 rfl rfl (Nat.le_of_ble_eq_true rfl) hc_3 ho_7 vc (fun v_4 μ_5 vc' => ?_) (fun E_10 μ_5 vc' => ?_)
  · replace vc := vc'
    clear vc'
    obtain ⟨v_9, rfl, vc⟩ := vc
    exact sr_iret h dE_place_6 hc_3.1 hc_3.2 vc
  · replace vc := vc'
    clear vc'
    exact st_out h (fun _ z => nomatch z) hc_3.1 hc_3.2 vc

abbrev cxE_id (κ : sp_K) (x : sp_X) (mc ms : Nat) : Prop := sp_C κ x cE_id 3 RE (some .long) [] "id" (sp_rm 7 111 mc ms)
set_option maxRecDepth 100000 in
set_option maxHeartbeats 4000000 in
theorem bkE_id_0 {κ : sp_K} {x : sp_X} {mc ms : Nat} {Rt : Option Value → sp_M → Prop} {Xt : String → sp_M → Prop} {μ : sp_M} {k n : Nat} {a0 : Nat} {v1 : Int32} (h : cxE_id κ x mc ms) (hk : k ≤ mc ∧ n ≤ ms)
    (vc : (∃ mc_1 ms_2 : Nat, (k + mc_1 ≤ mc ∧ n + ms_2 ≤ ms) ∧ ∃ fs_6 : List Value, μ a0 = some (.inr (2, fs_6)) ∧ sp_m x.2.1 κ yE_spanOf wE_spanOf 6 90 mc_1 ms_2 [.ref a0, .int v1] μ (fun v_4 μ_5 => ∃ r_9 : Option Nat, v_4 = some (va_rf r_9) ∧ (∃ a_10 : Nat, r_9 = some a_10 ∧ ∃ fs_11 : List Value, μ_5 a_10 = some (.inr (1, fs_11)) ∧ ∃ r_13 : Option Nat, fs_11[0]? = some (va_rf r_13) ∧ (∃ a_15 : Nat, r_13 = some a_15 ∧ ∃ fs_16 : List Value, μ_5 a_15 = some (.inr (0, fs_16)) ∧ ∃ v_18 : Int32, fs_16[0]? = some (.int v_18) ∧ (∃ mc_20 ms_21 : Nat, ((k + mc_1) + mc_20 ≤ mc ∧ (n + ms_2) + ms_21 ≤ ms) ∧ sp_m x.2.1 κ yS_numberAt wS_numberAt 0 0 mc_20 ms_21 [.ref a_10, .int v1] μ_5 (fun v_23 μ_24 => ∃ v_26 : Int32, v_23 = some (.int v_26) ∧ Rt (some (.long (((Int32.toInt64 v_18) <<< (Int32.toInt64 32 &&& 63)) + (Int32.toInt64 v_26)))) μ_24) (fun E_27 μ_24 => Xt E_27 μ_24))))) (fun E_28 μ_5 => Xt E_28 μ_5))) : sp_w κ x (sp_F κ x Rt Xt mc ms) k n 0 [(0, .ref a0), (1, .int v1)] [] μ := by
  refine sr_aload_n h dE_id_0 rfl 0 rfl ?_
  refine sr_iload_n h dE_id_1 rfl 1 rfl ?_
  obtain ⟨mc_1, ms_2, hc_3, vc⟩ := vc
  obtain ⟨fs_6, ho_7, vc⟩ := vc
  refine sr_callV (y := yE_spanOf) (n0 := 1) (As := [.int v1]) h (sp_gV kw_284 kw_286 kw_6 kw_34 kw_287) rfl (by decide +kernel) ⟨Nat.le_of_ble_eq_true rfl, Nat.le_of_ble_eq_true rfl⟩ (ci := 2) rfl dE_id_2 rfl rfl (Nat.le_of_ble_eq_true rfl) hc_3 ho_7 vc (fun v_4 μ_5 vc' => ?_) (fun E_28 μ_5 vc' => ?_)
  · replace vc := vc'
    clear vc'
    obtain ⟨r_9, rfl, vc⟩ := vc
    refine sr_astoreO_n (lv' := [(0, .ref a0), (1, .int v1), (2, va_rf r_9)]) h dE_id_5 rfl (by decide) rfl ?_
    refine sr_aloadO_n h dE_id_6 rfl 2 rfl ?_
    obtain ⟨a_10, rfl, vc⟩ := vc
    obtain ⟨fs_11, ho_12, vc⟩ := vc
    obtain ⟨r_13, hv_14, vc⟩ := vc
    refine sr_get h inS rfl 0 (by decide) kw_355 dE_id_7 ho_12 hv_14 ?_
    obtain ⟨a_15, rfl, vc⟩ := vc
    obtain ⟨fs_16, ho_17, vc⟩ := vc
    obtain ⟨v_18, hv_19, vc⟩ := vc
    refine sr_get h inA rfl 0 (by decide) kw_315 dE_id_10 ho_17 hv_19 ?_
    refine sr_i2l h dE_id_13 ?_
    refine sr_bipush (v := 32) h dE_id_14 (by decide) ?_
    refine sr_lshl h dE_id_16 ?_
    refine sr_aload_n h dE_id_17 rfl 2 rfl ?_
    refine sr_iload_n h dE_id_18 rfl 1 rfl ?_
    obtain ⟨mc_20, ms_21, hc_22, vc⟩ := vc
    refine sr_callV (y := yS_numberAt) (n0 := 1) (As := [.int v1]) h (sp_gV kw_300 kw_198 kw_199 kw_47 kw_200) rfl (by decide +kernel) ⟨Nat.le_of_ble_eq_true rfl, Nat.le_of_ble_eq_true rfl⟩ (ci := 1) rfl dE_id_19 rfl rfl (Nat.le_of_ble_eq_true rfl) hc_22 ho_12 vc (fun v_23 μ_24 vc' => ?_) (fun E_27 μ_24 vc' => ?_)
    · replace vc := vc'
      clear vc'
      obtain ⟨v_26, rfl, vc⟩ := vc
      refine sr_i2l h dE_id_22 ?_
      refine sr_ladd h dE_id_23 ?_
      exact sr_lret h dE_id_24 hc_22.1 hc_22.2 vc
    · replace vc := vc'
      clear vc'
      exact st_out h (fun _ z => nomatch z) hc_22.1 hc_22.2 vc
  · replace vc := vc'
    clear vc'
    exact st_out h (fun _ z => nomatch z) hc_3.1 hc_3.2 vc

abbrev cxE_parentOf (κ : sp_K) (x : sp_X) (mc ms : Nat) : Prop := sp_C κ x cE_parentOf 6 RE (some .int) [] "parentOf" (sp_rm 7 111 mc ms)
set_option maxRecDepth 100000 in
set_option maxHeartbeats 4000000 in
theorem bkE_parentOf_0 {κ : sp_K} {x : sp_X} {mc ms : Nat} {Rt : Option Value → sp_M → Prop} {Xt : String → sp_M → Prop} {μ : sp_M} {k n : Nat} {a0 : Nat} {v1 : Int32} {v2 : Int32} (h : cxE_parentOf κ x mc ms) (hk : k ≤ mc ∧ n ≤ ms)
    (vc : (∃ mc_1 ms_2 : Nat, (k + mc_1 ≤ mc ∧ n + ms_2 ≤ ms) ∧ ∃ fs_6 : List Value, μ a0 = some (.inr (2, fs_6)) ∧ sp_m x.2.1 κ yE_spanOf wE_spanOf 6 90 mc_1 ms_2 [.ref a0, .int v1] μ (fun v_4 μ_5 => ∃ r_9 : Option Nat, v_4 = some (va_rf r_9) ∧ (∃ a_10 : Nat, r_9 = some a_10 ∧ ∃ fs_11 : List Value, μ_5 a_10 = some (.inr (1, fs_11)) ∧ ∃ v_13 : Int32, fs_11[1]? = some (.int v_13) ∧ ((¬ v1 = v_13 → sp_w κ x (sp_F κ x Rt Xt mc ms) (k + mc_1) (n + ms_2) 19 [(0, .ref a0), (1, .int v1), (2, .int v2), (3, .ref a_10)] [.int 0] μ_5) ∧ (v1 = v_13 → sp_w κ x (sp_F κ x Rt Xt mc ms) (k + mc_1) (n + ms_2) 19 [(0, .ref a0), (1, .int v1), (2, .int v2), (3, .ref a_10)] [.int 1] μ_5)))) (fun E_16 μ_5 => Xt E_16 μ_5))) : sp_w κ x (sp_F κ x Rt Xt mc ms) k n 0 [(0, .ref a0), (1, .int v1), (2, .int v2)] [] μ := by
  refine sr_aload_n h dE_parentOf_0 rfl 0 rfl ?_
  refine sr_iload_n h dE_parentOf_1 rfl 1 rfl ?_
  obtain ⟨mc_1, ms_2, hc_3, vc⟩ := vc
  obtain ⟨fs_6, ho_7, vc⟩ := vc
  refine sr_callV (y := yE_spanOf) (n0 := 1) (As := [.int v1]) h (sp_gV kw_284 kw_286 kw_6 kw_34 kw_287) rfl (by decide +kernel) ⟨Nat.le_of_ble_eq_true rfl, Nat.le_of_ble_eq_true rfl⟩ (ci := 2) rfl dE_parentOf_2 rfl rfl (Nat.le_of_ble_eq_true rfl) hc_3 ho_7 vc (fun v_4 μ_5 vc' => ?_) (fun E_16 μ_5 vc' => ?_)
  · replace vc := vc'
    clear vc'
    obtain ⟨r_9, rfl, vc⟩ := vc
    refine sr_astoreO_n (lv' := [(0, .ref a0), (1, .int v1), (2, .int v2), (3, va_rf r_9)]) h dE_parentOf_5 rfl (by decide) rfl ?_
    refine sr_iload_n h dE_parentOf_6 rfl 1 rfl ?_
    refine sr_aloadO_n h dE_parentOf_7 rfl 3 rfl ?_
    obtain ⟨a_10, rfl, vc⟩ := vc
    obtain ⟨fs_11, ho_12, vc⟩ := vc
    obtain ⟨v_13, hv_14, vc⟩ := vc
    refine sr_get h inS rfl 1 (by decide) kw_357 dE_parentOf_8 ho_12 hv_14 ?_
    refine sr_icmp_ne (tgt := 18) h dE_parentOf_11 (by decide) (fun c_15 => ?_) (fun c_15 => ?_)
    · replace vc := vc.1 c_15
      refine sr_iconst (v := 0) h dE_parentOf_18 (by decide) ?_
      exact vc
    · replace vc := vc.2 c_15
      refine sr_iconst (v := 1) h dE_parentOf_14 (by decide) ?_
      refine sr_goto (tgt := 19) h dE_parentOf_15 (by decide) ?_
      exact vc
  · replace vc := vc'
    clear vc'
    exact st_out h (fun _ z => nomatch z) hc_3.1 hc_3.2 vc
set_option maxRecDepth 100000 in
set_option maxHeartbeats 4000000 in
theorem bkE_parentOf_19 {κ : sp_K} {x : sp_X} {mc ms : Nat} {Rt : Option Value → sp_M → Prop} {Xt : String → sp_M → Prop} {μ : sp_M} {k n : Nat} {a0 : Nat} {v1 : Int32} {v2 : Int32} {a3 : Nat} {vs0 : Int32} (h : cxE_parentOf κ x mc ms) (hk : k ≤ mc ∧ n ≤ ms)
    (vc : ((vs0 = 0 → sp_w κ x (sp_F κ x Rt Xt mc ms) k n 35 [(0, .ref a0), (1, .int v1), (2, .int v2), (3, .ref a3), (4, .int vs0)] [.int 1] μ) ∧ (¬ vs0 = 0 → (∃ fs_1 : List Value, μ a3 = some (.inr (1, fs_1)) ∧ ∃ r_3 : Option Nat, fs_1[4]? = some (va_rf r_3) ∧ (∃ a_5 : Nat, r_3 = some a_5 ∧ ∃ (N_6 : Nat) (f_7 : Nat → Int32), μ a_5 = some (sp_ia κ N_6 f_7) ∧ sp_w κ x (sp_F κ x Rt Xt mc ms) k n 35 [(0, .ref a0), (1, .int v1), (2, .int v2), (3, .ref a3), (4, .int vs0)] [.int (nI N_6)] μ))))) : sp_w κ x (sp_F κ x Rt Xt mc ms) k n 19 [(0, .ref a0), (1, .int v1), (2, .int v2), (3, .ref a3)] [.int vs0] μ := by
  refine sr_istore (lv' := [(0, .ref a0), (1, .int v1), (2, .int v2), (3, .ref a3), (4, .int vs0)]) h dE_parentOf_19 (by decide) rfl ?_
  refine sr_iload h dE_parentOf_21 4 rfl ?_
  refine sr_if_eq (tgt := 34) h dE_parentOf_23 (by decide) (fun c_9 => ?_) (fun c_9 => ?_)
  · replace vc := vc.1 c_9
    refine sr_iconst (v := 1) h dE_parentOf_34 (by decide) ?_
    exact vc
  · replace vc := vc.2 c_9
    refine sr_aload_n h dE_parentOf_26 rfl 3 rfl ?_
    obtain ⟨fs_1, ho_2, vc⟩ := vc
    obtain ⟨r_3, hv_4, vc⟩ := vc
    refine sr_get h inS rfl 4 (by decide) kw_362 dE_parentOf_27 ho_2 hv_4 ?_
    obtain ⟨a_5, rfl, vc⟩ := vc
    obtain ⟨N_6, f_7, ho_8, vc⟩ := vc
    refine sr_alen (t := 0) h dE_parentOf_30 ho_8 rfl ?_
    refine sr_goto (tgt := 35) h dE_parentOf_31 (by decide) ?_
    exact vc
set_option maxRecDepth 100000 in
set_option maxHeartbeats 4000000 in
theorem bkE_parentOf_35 {κ : sp_K} {x : sp_X} {mc ms : Nat} {Rt : Option Value → sp_M → Prop} {Xt : String → sp_M → Prop} {μ : sp_M} {k n : Nat} {a0 : Nat} {v1 : Int32} {v2 : Int32} {a3 : Nat} {v4 : Int32} {vs0 : Int32} (h : cxE_parentOf κ x mc ms) (hk : k ≤ mc ∧ n ≤ ms)
    (vc : ((¬ v2 = (-1) → ((v2 < 0 → ((k + 1 ≤ mc ∧ n + 6 ≤ ms) ∧ Xt "java/util/NoSuchElementException" μ)) ∧ (¬ v2 < 0 → ((v2 < vs0 → ((v4 = 0 → Rt (some (.int (v1 - 1))) μ) ∧ (¬ v4 = 0 → (∃ fs_2 : List Value, μ a3 = some (.inr (1, fs_2)) ∧ ∃ r_4 : Option Nat, fs_2[4]? = some (va_rf r_4) ∧ (∃ a_6 : Nat, r_4 = some a_6 ∧ ∃ (N_7 : Nat) (f_8 : Nat → Int32), μ a_6 = some (sp_ia κ N_7 f_8) ∧ ∃ j_10 : Nat, v2 = nI j_10 ∧ j_10 < N_7 ∧ Rt (some (.int (f_8 j_10))) μ))))) ∧ (¬ v2 < vs0 → ((k + 1 ≤ mc ∧ n + 6 ≤ ms) ∧ Xt "java/util/NoSuchElementException" μ)))))) ∧ (v2 = (-1) → Rt (some (.int vs0)) μ))) : sp_w κ x (sp_F κ x Rt Xt mc ms) k n 35 [(0, .ref a0), (1, .int v1), (2, .int v2), (3, .ref a3), (4, .int v4)] [.int vs0] μ := by
  refine sr_istore (lv' := [(0, .ref a0), (1, .int v1), (2, .int v2), (3, .ref a3), (4, .int v4), (5, .int vs0)]) h dE_parentOf_35 (by decide) rfl ?_
  refine sr_iload_n h dE_parentOf_37 rfl 2 rfl ?_
  refine sr_iconst (v := -1) h dE_parentOf_38 (by decide) ?_
  refine sr_icmp_ne (tgt := 45) h dE_parentOf_39 (by decide) (fun c_17 => ?_) (fun c_17 => ?_)
  · replace vc := vc.1 c_17
    refine sr_iload_n h dE_parentOf_45 rfl 2 rfl ?_
    refine sr_if_lt (tgt := 55) h dE_parentOf_46 (by decide) (fun c_16 => ?_) (fun c_16 => ?_)
    · replace vc := vc.1 c_16
      obtain ⟨hc_1, vc⟩ := vc
      exact sr_throw0 (names := ["java/lang/RuntimeException", "java/lang/Exception"]) h (by decide +kernel) (by decide +kernel) kw_129 kw_39 ka_E_123 kg_E_123 dE_parentOf_55 dE_parentOf_58 dE_parentOf_59 dE_parentOf_62 (fun _ z => nomatch z) (Nat.le_of_ble_eq_true rfl) (Nat.le_of_ble_eq_true rfl) hc_1.1 hc_1.2 hc_1.1 hc_1.2 vc
    · replace vc := vc.2 c_16
      refine sr_iload_n h dE_parentOf_49 rfl 2 rfl ?_
      refine sr_iload h dE_parentOf_50 5 rfl ?_
      refine sr_icmp_lt (tgt := 63) h dE_parentOf_52 (by decide) (fun c_15 => ?_) (fun c_15 => ?_)
      · replace vc := vc.1 c_15
        refine sr_iload h dE_parentOf_63 4 rfl ?_
        refine sr_if_eq (tgt := 77) h dE_parentOf_65 (by decide) (fun c_13 => ?_) (fun c_13 => ?_)
        · replace vc := vc.1 c_13
          refine sr_iload_n h dE_parentOf_77 rfl 1 rfl ?_
          refine sr_iconst (v := 1) h dE_parentOf_78 (by decide) ?_
          refine sr_isub h dE_parentOf_79 ?_
          exact sr_iret h dE_parentOf_80 hk.1 hk.2 vc
        · replace vc := vc.2 c_13
          refine sr_aload_n h dE_parentOf_68 rfl 3 rfl ?_
          obtain ⟨fs_2, ho_3, vc⟩ := vc
          obtain ⟨r_4, hv_5, vc⟩ := vc
          refine sr_get h inS rfl 4 (by decide) kw_362 dE_parentOf_69 ho_3 hv_5 ?_
          refine sr_iload_n h dE_parentOf_72 rfl 2 rfl ?_
          obtain ⟨a_6, rfl, vc⟩ := vc
          obtain ⟨N_7, f_8, ho_9, vc⟩ := vc
          obtain ⟨j_10, hi_11, hj_12, vc⟩ := vc
          refine sr_iald h dE_parentOf_73 ho_9 hi_11 hj_12 ?_
          refine sr_goto (tgt := 80) h dE_parentOf_74 (by decide) ?_
          exact sr_iret h dE_parentOf_80 hk.1 hk.2 vc
      · replace vc := vc.2 c_15
        obtain ⟨hc_14, vc⟩ := vc
        exact sr_throw0 (names := ["java/lang/RuntimeException", "java/lang/Exception"]) h (by decide +kernel) (by decide +kernel) kw_129 kw_39 ka_E_123 kg_E_123 dE_parentOf_55 dE_parentOf_58 dE_parentOf_59 dE_parentOf_62 (fun _ z => nomatch z) (Nat.le_of_ble_eq_true rfl) (Nat.le_of_ble_eq_true rfl) hc_14.1 hc_14.2 hc_14.1 hc_14.2 vc
  · replace vc := vc.2 c_17
    refine sr_iload h dE_parentOf_42 5 rfl ?_
    exact sr_iret h dE_parentOf_44 hk.1 hk.2 vc

abbrev cxE_related (κ : sp_K) (x : sp_X) (mc ms : Nat) : Prop := sp_C κ x cE_related 3 RE (some .int) [] "related" (sp_rm 8 135 mc ms)
set_option maxRecDepth 100000 in
set_option maxHeartbeats 4000000 in
theorem bkE_related_0 {κ : sp_K} {x : sp_X} {mc ms : Nat} {Rt : Option Value → sp_M → Prop} {Xt : String → sp_M → Prop} {μ : sp_M} {k n : Nat} {a0 : Nat} {v1 : Int32} {v2 : Int32} (h : cxE_related κ x mc ms) (hk : k ≤ mc ∧ n ≤ ms)
    (vc : (∃ mc_1 ms_2 : Nat, (k + mc_1 ≤ mc ∧ n + ms_2 ≤ ms) ∧ ∃ fs_6 : List Value, μ a0 = some (.inr (2, fs_6)) ∧ sp_m x.2.1 κ yE_isAncestor wE_isAncestor 7 111 mc_1 ms_2 [.ref a0, .int v1, .int v2] μ (fun v_4 μ_5 => ∃ v_9 : Int32, v_4 = some (.int v_9) ∧ ((v_9 = 0 → (∃ mc_10 ms_11 : Nat, ((k + mc_1) + mc_10 ≤ mc ∧ (n + ms_2) + ms_11 ≤ ms) ∧ ∃ fs_15 : List Value, μ_5 a0 = some (.inr (2, fs_15)) ∧ sp_m x.2.1 κ yE_isAncestor wE_isAncestor 7 111 mc_10 ms_11 [.ref a0, .int v2, .int v1] μ_5 (fun v_13 μ_14 => ∃ v_18 : Int32, v_13 = some (.int v_18) ∧ ((v_18 = 0 → ((¬ v1 = v2 → Rt (some (.int 3)) μ_14) ∧ (v1 = v2 → Rt (some (.int 0)) μ_14))) ∧ (¬ v_18 = 0 → Rt (some (.int 2)) μ_14))) (fun E_21 μ_14 => Xt E_21 μ_14))) ∧ (¬ v_9 = 0 → Rt (some (.int 1)) μ_5))) (fun E_23 μ_5 => Xt E_23 μ_5))) : sp_w κ x (sp_F κ x Rt Xt mc ms) k n 0 [(0, .ref a0), (1, .int v1), (2, .int v2)] [] μ := by
  refine sr_aload_n h dE_related_0 rfl 0 rfl ?_
  refine sr_iload_n h dE_related_1 rfl 1 rfl ?_
  refine sr_iload_n h dE_related_2 rfl 2 rfl ?_
  obtain ⟨mc_1, ms_2, hc_3, vc⟩ := vc
  obtain ⟨fs_6, ho_7, vc⟩ := vc
  refine sr_callV (y := yE_isAncestor) (n0 := 2) (As := [.int v1, .int v2]) h (sp_gV kw_296 kw_298 kw_8 kw_34 kw_299) rfl (by decide +kernel) ⟨Nat.le_of_ble_eq_true rfl, Nat.le_of_ble_eq_true rfl⟩ (ci := 2) rfl dE_related_3 rfl rfl (Nat.le_of_ble_eq_true rfl) hc_3 ho_7 vc (fun v_4 μ_5 vc' => ?_) (fun E_23 μ_5 vc' => ?_)
  · replace vc := vc'
    clear vc'
    obtain ⟨v_9, rfl, vc⟩ := vc
    refine sr_if_eq (tgt := 11) h dE_related_6 (by decide) (fun c_22 => ?_) (fun c_22 => ?_)
    · replace vc := vc.1 c_22
      refine sr_aload_n h dE_related_11 rfl 0 rfl ?_
      refine sr_iload_n h dE_related_12 rfl 2 rfl ?_
      refine sr_iload_n h dE_related_13 rfl 1 rfl ?_
      obtain ⟨mc_10, ms_11, hc_12, vc⟩ := vc
      obtain ⟨fs_15, ho_16, vc⟩ := vc
      refine sr_callV (y := yE_isAncestor) (n0 := 2) (As := [.int v2, .int v1]) h (sp_gV kw_296 kw_298 kw_8 kw_34 kw_299) rfl (by decide +kernel) ⟨Nat.le_of_ble_eq_true rfl, Nat.le_of_ble_eq_true rfl⟩ (ci := 2) rfl dE_related_14 rfl rfl (Nat.le_of_ble_eq_true rfl) hc_12 ho_16 vc (fun v_13 μ_14 vc' => ?_) (fun E_21 μ_14 vc' => ?_)
      · replace vc := vc'
        clear vc'
        obtain ⟨v_18, rfl, vc⟩ := vc
        refine sr_if_eq (tgt := 22) h dE_related_17 (by decide) (fun c_20 => ?_) (fun c_20 => ?_)
        · replace vc := vc.1 c_20
          refine sr_iload_n h dE_related_22 rfl 1 rfl ?_
          refine sr_iload_n h dE_related_23 rfl 2 rfl ?_
          refine sr_icmp_ne (tgt := 31) h dE_related_24 (by decide) (fun c_19 => ?_) (fun c_19 => ?_)
          · replace vc := vc.1 c_19
            refine sr_iconst (v := 3) h dE_related_31 (by decide) ?_
            exact sr_iret h dE_related_32 hc_12.1 hc_12.2 vc
          · replace vc := vc.2 c_19
            refine sr_iconst (v := 0) h dE_related_27 (by decide) ?_
            refine sr_goto (tgt := 32) h dE_related_28 (by decide) ?_
            exact sr_iret h dE_related_32 hc_12.1 hc_12.2 vc
        · replace vc := vc.2 c_20
          refine sr_iconst (v := 2) h dE_related_20 (by decide) ?_
          exact sr_iret h dE_related_21 hc_12.1 hc_12.2 vc
      · replace vc := vc'
        clear vc'
        exact st_out h (fun _ z => nomatch z) hc_12.1 hc_12.2 vc
    · replace vc := vc.2 c_22
      refine sr_iconst (v := 1) h dE_related_9 (by decide) ?_
      exact sr_iret h dE_related_10 hc_3.1 hc_3.2 vc
  · replace vc := vc'
    clear vc'
    exact st_out h (fun _ z => nomatch z) hc_3.1 hc_3.2 vc

abbrev cxE_apart (κ : sp_K) (x : sp_X) (mc ms : Nat) : Prop := sp_C κ x cE_apart 7 RE (some .int) [] "apart" (sp_rm 7 111 mc ms)
set_option maxRecDepth 100000 in
set_option maxHeartbeats 4000000 in
theorem bkE_apart_0 {κ : sp_K} {x : sp_X} {mc ms : Nat} {Rt : Option Value → sp_M → Prop} {Xt : String → sp_M → Prop} {μ : sp_M} {k n : Nat} {a0 : Nat} {v1 : Int32} {v2 : Int32} (h : cxE_apart κ x mc ms) (hk : k ≤ mc ∧ n ≤ ms)
    (vc : (∃ mc_1 ms_2 : Nat, (k + mc_1 ≤ mc ∧ n + ms_2 ≤ ms) ∧ ∃ fs_6 : List Value, μ a0 = some (.inr (2, fs_6)) ∧ sp_m x.2.1 κ yE_spanOf wE_spanOf 6 90 mc_1 ms_2 [.ref a0, .int v1] μ (fun v_4 μ_5 => ∃ r_9 : Option Nat, v_4 = some (va_rf r_9) ∧ (∃ mc_10 ms_11 : Nat, ((k + mc_1) + mc_10 ≤ mc ∧ (n + ms_2) + ms_11 ≤ ms) ∧ ∃ fs_15 : List Value, μ_5 a0 = some (.inr (2, fs_15)) ∧ sp_m x.2.1 κ yE_spanOf wE_spanOf 6 90 mc_10 ms_11 [.ref a0, .int v2] μ_5 (fun v_13 μ_14 => ∃ r_18 : Option Nat, v_13 = some (va_rf r_18) ∧ sp_w κ x (sp_F κ x Rt Xt mc ms) (k + mc_1 + mc_10) (n + ms_2 + ms_11) 19 [(0, .ref a0), (1, .int v1), (2, .int v2), (3, va_rf r_9), (4, va_rf r_18), (5, .int 0), (6, .int 0)] [] μ_14) (fun E_19 μ_14 => Xt E_19 μ_14))) (fun E_20 μ_5 => Xt E_20 μ_5))) : sp_w κ x (sp_F κ x Rt Xt mc ms) k n 0 [(0, .ref a0), (1, .int v1), (2, .int v2)] [] μ := by
  refine sr_aload_n h dE_apart_0 rfl 0 rfl ?_
  refine sr_iload_n h dE_apart_1 rfl 1 rfl ?_
  obtain ⟨mc_1, ms_2, hc_3, vc⟩ := vc
  obtain ⟨fs_6, ho_7, vc⟩ := vc
  refine sr_callV (y := yE_spanOf) (n0 := 1) (As := [.int v1]) h (sp_gV kw_284 kw_286 kw_6 kw_34 kw_287) rfl (by decide +kernel) ⟨Nat.le_of_ble_eq_true rfl, Nat.le_of_ble_eq_true rfl⟩ (ci := 2) rfl dE_apart_2 rfl rfl (Nat.le_of_ble_eq_true rfl) hc_3 ho_7 vc (fun v_4 μ_5 vc' => ?_) (fun E_20 μ_5 vc' => ?_)
  · replace vc := vc'
    clear vc'
    obtain ⟨r_9, rfl, vc⟩ := vc
    refine sr_astoreO_n (lv' := [(0, .ref a0), (1, .int v1), (2, .int v2), (3, va_rf r_9)]) h dE_apart_5 rfl (by decide) rfl ?_
    refine sr_aload_n h dE_apart_6 rfl 0 rfl ?_
    refine sr_iload_n h dE_apart_7 rfl 2 rfl ?_
    obtain ⟨mc_10, ms_11, hc_12, vc⟩ := vc
    obtain ⟨fs_15, ho_16, vc⟩ := vc
    refine sr_callV (y := yE_spanOf) (n0 := 1) (As := [.int v2]) h (sp_gV kw_284 kw_286 kw_6 kw_34 kw_287) rfl (by decide +kernel) ⟨Nat.le_of_ble_eq_true rfl, Nat.le_of_ble_eq_true rfl⟩ (ci := 2) rfl dE_apart_8 rfl rfl (Nat.le_of_ble_eq_true rfl) hc_12 ho_16 vc (fun v_13 μ_14 vc' => ?_) (fun E_19 μ_14 vc' => ?_)
    · replace vc := vc'
      clear vc'
      obtain ⟨r_18, rfl, vc⟩ := vc
      refine sr_astoreO (lv' := [(0, .ref a0), (1, .int v1), (2, .int v2), (3, va_rf r_9), (4, va_rf r_18)]) h dE_apart_11 (by decide) rfl ?_
      refine sr_iconst (v := 0) h dE_apart_13 (by decide) ?_
      refine sr_istore (lv' := [(0, .ref a0), (1, .int v1), (2, .int v2), (3, va_rf r_9), (4, va_rf r_18), (5, .int 0)]) h dE_apart_14 (by decide) rfl ?_
      refine sr_iconst (v := 0) h dE_apart_16 (by decide) ?_
      refine sr_istore (lv' := [(0, .ref a0), (1, .int v1), (2, .int v2), (3, va_rf r_9), (4, va_rf r_18), (5, .int 0), (6, .int 0)]) h dE_apart_17 (by decide) rfl ?_
      exact vc
    · replace vc := vc'
      clear vc'
      exact st_out h (fun _ z => nomatch z) hc_12.1 hc_12.2 vc
  · replace vc := vc'
    clear vc'
    exact st_out h (fun _ z => nomatch z) hc_3.1 hc_3.2 vc
set_option maxRecDepth 100000 in
set_option maxHeartbeats 4000000 in
theorem bkE_apart_19 {κ : sp_K} {x : sp_X} {mc ms : Nat} {Rt : Option Value → sp_M → Prop} {Xt : String → sp_M → Prop} {μ : sp_M} {k n : Nat} {a0 : Nat} {v1 : Int32} {v2 : Int32} {r3 : Option Nat} {r4 : Option Nat} {v5 : Int32} {v6 : Int32} (h : cxE_apart κ x mc ms) (hk : k ≤ mc ∧ n ≤ ms)
    (vc : ((16 ≤ v6 → Rt (some (.int v5)) μ) ∧ (¬ 16 ≤ v6 → (∃ a_6 : Nat, r3 = some a_6 ∧ ∃ mc_1 ms_2 : Nat, (k + mc_1 ≤ mc ∧ n + ms_2 ≤ ms) ∧ ∃ fs_7 : List Value, μ a_6 = some (.inr (1, fs_7)) ∧ sp_m x.2.1 κ yS_seenAt wS_seenAt 1 21 mc_1 ms_2 [.ref a_6, .int v1, .int v6] μ (fun v_4 μ_5 => ∃ v_10 : Int32, v_4 = some (.int v_10) ∧ (∃ a_16 : Nat, r4 = some a_16 ∧ ∃ mc_11 ms_12 : Nat, ((k + mc_1) + mc_11 ≤ mc ∧ (n + ms_2) + ms_12 ≤ ms) ∧ ∃ fs_17 : List Value, μ_5 a_16 = some (.inr (1, fs_17)) ∧ sp_m x.2.1 κ yS_seenAt wS_seenAt 1 21 mc_11 ms_12 [.ref a_16, .int v2, .int v6] μ_5 (fun v_14 μ_15 => ∃ v_20 : Int32, v_14 = some (.int v_20) ∧ sp_w κ x (sp_F κ x Rt Xt mc ms) (k + mc_1 + mc_11) (n + ms_2 + ms_12) 19 [(0, .ref a0), (1, .int v1), (2, .int v2), (3, .ref a_6), (4, .ref a_16), (5, .int (v5 + (if 0 < (v_10 - v_20) then (v_10 - v_20) else 0))), (6, .int (v6 + 1))] [] μ_15) (fun E_21 μ_15 => Xt E_21 μ_15))) (fun E_22 μ_5 => Xt E_22 μ_5))))) : sp_w κ x (sp_F κ x Rt Xt mc ms) k n 19 [(0, .ref a0), (1, .int v1), (2, .int v2), (3, va_rf r3), (4, va_rf r4), (5, .int v5), (6, .int v6)] [] μ := by
  refine sr_iload h dE_apart_19 6 rfl ?_
  refine sr_bipush (v := 16) h dE_apart_21 (by decide) ?_
  refine sr_icmp_ge (tgt := 57) h dE_apart_23 (by decide) (fun c_23 => ?_) (fun c_23 => ?_)
  · replace vc := vc.1 c_23
    refine sr_iload h dE_apart_57 5 rfl ?_
    exact sr_iret h dE_apart_59 hk.1 hk.2 vc
  · replace vc := vc.2 c_23
    refine sr_iload h dE_apart_26 5 rfl ?_
    refine sr_iconst (v := 0) h dE_apart_28 (by decide) ?_
    refine sr_aloadO_n h dE_apart_29 rfl 3 rfl ?_
    refine sr_iload_n h dE_apart_30 rfl 1 rfl ?_
    refine sr_iload h dE_apart_31 6 rfl ?_
    obtain ⟨a_6, rfl, vc⟩ := vc
    obtain ⟨mc_1, ms_2, hc_3, vc⟩ := vc
    obtain ⟨fs_7, ho_8, vc⟩ := vc
    refine sr_callV (y := yS_seenAt) (n0 := 2) (As := [.int v1, .int v6]) h (sp_gV kw_288 kw_289 kw_290 kw_47 kw_291) rfl (by decide +kernel) ⟨Nat.le_of_ble_eq_true rfl, Nat.le_of_ble_eq_true rfl⟩ (ci := 1) rfl dE_apart_33 rfl rfl (Nat.le_of_ble_eq_true rfl) hc_3 ho_8 vc (fun v_4 μ_5 vc' => ?_) (fun E_22 μ_5 vc' => ?_)
    · replace vc := vc'
      clear vc'
      obtain ⟨v_10, rfl, vc⟩ := vc
      refine sr_aloadO h dE_apart_36 4 rfl ?_
      refine sr_iload_n h dE_apart_38 rfl 2 rfl ?_
      refine sr_iload h dE_apart_39 6 rfl ?_
      obtain ⟨a_16, rfl, vc⟩ := vc
      obtain ⟨mc_11, ms_12, hc_13, vc⟩ := vc
      obtain ⟨fs_17, ho_18, vc⟩ := vc
      refine sr_callV (y := yS_seenAt) (n0 := 2) (As := [.int v2, .int v6]) h (sp_gV kw_288 kw_289 kw_290 kw_47 kw_291) rfl (by decide +kernel) ⟨Nat.le_of_ble_eq_true rfl, Nat.le_of_ble_eq_true rfl⟩ (ci := 1) rfl dE_apart_41 rfl rfl (Nat.le_of_ble_eq_true rfl) hc_13 ho_18 vc (fun v_14 μ_15 vc' => ?_) (fun E_21 μ_15 vc' => ?_)
      · replace vc := vc'
        clear vc'
        obtain ⟨v_20, rfl, vc⟩ := vc
        refine sr_isub h dE_apart_44 ?_
        refine sr_mmax h kw_109 kw_110 kw_44 kw_mmax dE_apart_45 (Nat.le_of_ble_eq_true rfl) (Nat.le_of_ble_eq_true rfl) hc_13.1 hc_13.2 ?_
        refine sr_iadd h dE_apart_48 ?_
        refine sr_istore (lv' := [(0, .ref a0), (1, .int v1), (2, .int v2), (3, .ref a_6), (4, .ref a_16), (5, .int (v5 + (if 0 < (v_10 - v_20) then (v_10 - v_20) else 0))), (6, .int v6)]) h dE_apart_49 (by decide) rfl ?_
        refine sr_iinc (u := v6 + 1) (lv' := [(0, .ref a0), (1, .int v1), (2, .int v2), (3, .ref a_6), (4, .ref a_16), (5, .int (v5 + (if 0 < (v_10 - v_20) then (v_10 - v_20) else 0))), (6, .int (v6 + 1))]) h dE_apart_51 6 rfl rfl (by decide) rfl ?_
        refine sr_goto (tgt := 19) h dE_apart_54 (by decide) ?_
        exact vc
      · replace vc := vc'
        clear vc'
        exact st_out h (fun _ z => nomatch z) hc_13.1 hc_13.2 vc
    · replace vc := vc'
      clear vc'
      exact st_out h (fun _ z => nomatch z) hc_3.1 hc_3.2 vc

abbrev cxE_latest (κ : sp_K) (x : sp_X) (mc ms : Nat) : Prop := sp_C κ x cE_latest 12 RE (some .int) [] "latest" (sp_rm 7 111 mc ms)
set_option maxRecDepth 100000 in
set_option maxHeartbeats 4000000 in
theorem bkE_latest_0 {κ : sp_K} {x : sp_X} {mc ms : Nat} {Rt : Option Value → sp_M → Prop} {Xt : String → sp_M → Prop} {μ : sp_M} {k n : Nat} {a0 : Nat} {v1 : Int32} {v2 : Int32} {v3 : Int32} (h : cxE_latest κ x mc ms) (hk : k ≤ mc ∧ n ≤ ms)
    (vc : (∃ mc_1 ms_2 : Nat, (k + mc_1 ≤ mc ∧ n + ms_2 ≤ ms) ∧ ∃ fs_6 : List Value, μ a0 = some (.inr (2, fs_6)) ∧ sp_m x.2.1 κ yE_spanOf wE_spanOf 6 90 mc_1 ms_2 [.ref a0, .int v1] μ (fun v_4 μ_5 => ∃ r_9 : Option Nat, v_4 = some (va_rf r_9) ∧ (∃ mc_10 ms_11 : Nat, ((k + mc_1) + mc_10 ≤ mc ∧ (n + ms_2) + ms_11 ≤ ms) ∧ ∃ fs_15 : List Value, μ_5 a0 = some (.inr (2, fs_15)) ∧ sp_m x.2.1 κ yE_spanOf wE_spanOf 6 90 mc_10 ms_11 [.ref a0, .int v2] μ_5 (fun v_13 μ_14 => ∃ r_18 : Option Nat, v_13 = some (va_rf r_18) ∧ (∃ mc_19 ms_20 : Nat, ((k + mc_1 + mc_10) + mc_19 ≤ mc ∧ (n + ms_2 + ms_11) + ms_20 ≤ ms) ∧ sp_m x.2.1 κ yE_highestBelow wE_highestBelow 1 22 mc_19 ms_20 [.int v3] μ_14 (fun v_22 μ_23 => ∃ v_25 : Int32, v_22 = some (.int v_25) ∧ (∃ fs_26 : List Value, μ_23 a0 = some (.inr (2, fs_26)) ∧ ∃ r_28 : Option Nat, fs_26[4]? = some (va_rf r_28) ∧ sp_w κ x (sp_F κ x Rt Xt mc ms) (k + mc_1 + mc_10 + mc_19) (n + ms_2 + ms_11 + ms_20) 26 [(0, .ref a0), (1, .int v1), (2, .int v2), (3, .int v3), (4, va_rf r_9), (5, va_rf r_18), (6, .int v_25), (7, va_rf r_28)] [] μ_23)) (fun E_30 μ_23 => Xt E_30 μ_23))) (fun E_31 μ_14 => Xt E_31 μ_14))) (fun E_32 μ_5 => Xt E_32 μ_5))) : sp_w κ x (sp_F κ x Rt Xt mc ms) k n 0 [(0, .ref a0), (1, .int v1), (2, .int v2), (3, .int v3)] [] μ := by
  refine sr_aload_n h dE_latest_0 rfl 0 rfl ?_
  refine sr_iload_n h dE_latest_1 rfl 1 rfl ?_
  obtain ⟨mc_1, ms_2, hc_3, vc⟩ := vc
  obtain ⟨fs_6, ho_7, vc⟩ := vc
  refine sr_callV (y := yE_spanOf) (n0 := 1) (As := [.int v1]) h (sp_gV kw_284 kw_286 kw_6 kw_34 kw_287) rfl (by decide +kernel) ⟨Nat.le_of_ble_eq_true rfl, Nat.le_of_ble_eq_true rfl⟩ (ci := 2) rfl dE_latest_2 rfl rfl (Nat.le_of_ble_eq_true rfl) hc_3 ho_7 vc (fun v_4 μ_5 vc' => ?_) (fun E_32 μ_5 vc' => ?_)
  · replace vc := vc'
    clear vc'
    obtain ⟨r_9, rfl, vc⟩ := vc
    refine sr_astoreO (lv' := [(0, .ref a0), (1, .int v1), (2, .int v2), (3, .int v3), (4, va_rf r_9)]) h dE_latest_5 (by decide) rfl ?_
    refine sr_aload_n h dE_latest_7 rfl 0 rfl ?_
    refine sr_iload_n h dE_latest_8 rfl 2 rfl ?_
    obtain ⟨mc_10, ms_11, hc_12, vc⟩ := vc
    obtain ⟨fs_15, ho_16, vc⟩ := vc
    refine sr_callV (y := yE_spanOf) (n0 := 1) (As := [.int v2]) h (sp_gV kw_284 kw_286 kw_6 kw_34 kw_287) rfl (by decide +kernel) ⟨Nat.le_of_ble_eq_true rfl, Nat.le_of_ble_eq_true rfl⟩ (ci := 2) rfl dE_latest_9 rfl rfl (Nat.le_of_ble_eq_true rfl) hc_12 ho_16 vc (fun v_13 μ_14 vc' => ?_) (fun E_31 μ_14 vc' => ?_)
    · replace vc := vc'
      clear vc'
      obtain ⟨r_18, rfl, vc⟩ := vc
      refine sr_astoreO (lv' := [(0, .ref a0), (1, .int v1), (2, .int v2), (3, .int v3), (4, va_rf r_9), (5, va_rf r_18)]) h dE_latest_12 (by decide) rfl ?_
      refine sr_iload_n h dE_latest_14 rfl 3 rfl ?_
      obtain ⟨mc_19, ms_20, hc_21, vc⟩ := vc
      refine sr_callS (y := yE_highestBelow) (n0 := 1) (As := [.int v3]) (st := []) h (sp_gS kw_106 kw_107 kw_34 kw_108) rfl (by decide +kernel) ⟨Nat.le_of_ble_eq_true rfl, Nat.le_of_ble_eq_true rfl⟩ dE_latest_15 rfl rfl (Nat.le_of_ble_eq_true rfl) hc_21 vc (fun v_22 μ_23 vc' => ?_) (fun E_30 μ_23 vc' => ?_)
      · replace vc := vc'
        clear vc'
        obtain ⟨v_25, rfl, vc⟩ := vc
        refine sr_istore (lv' := [(0, .ref a0), (1, .int v1), (2, .int v2), (3, .int v3), (4, va_rf r_9), (5, va_rf r_18), (6, .int v_25)]) h dE_latest_18 (by decide) rfl ?_
        refine sr_aload_n h dE_latest_20 rfl 0 rfl ?_
        obtain ⟨fs_26, ho_27, vc⟩ := vc
        obtain ⟨r_28, hv_29, vc⟩ := vc
        refine sr_get h inE rfl 4 (by decide) kw_64 dE_latest_21 ho_27 hv_29 ?_
        refine sr_astoreO (lv' := [(0, .ref a0), (1, .int v1), (2, .int v2), (3, .int v3), (4, va_rf r_9), (5, va_rf r_18), (6, .int v_25), (7, va_rf r_28)]) h dE_latest_24 (by decide) rfl ?_
        exact vc
      · replace vc := vc'
        clear vc'
        exact st_out h (fun _ z => nomatch z) hc_21.1 hc_21.2 vc
    · replace vc := vc'
      clear vc'
      exact st_out h (fun _ z => nomatch z) hc_12.1 hc_12.2 vc
  · replace vc := vc'
    clear vc'
    exact st_out h (fun _ z => nomatch z) hc_3.1 hc_3.2 vc
set_option maxRecDepth 100000 in
set_option maxHeartbeats 4000000 in
theorem bkE_latest_26 {κ : sp_K} {x : sp_X} {mc ms : Nat} {Rt : Option Value → sp_M → Prop} {Xt : String → sp_M → Prop} {μ : sp_M} {k n : Nat} {a0 : Nat} {v1 : Int32} {v2 : Int32} {v3 : Int32} {r4 : Option Nat} {r5 : Option Nat} {v6 : Int32} {r7 : Option Nat} (h : cxE_latest κ x mc ms) (hk : k ≤ mc ∧ n ≤ ms)
    (vc : ((r7 = none → Rt (some (.int (-1))) μ) ∧ (∀ a_1 : Nat, r7 = some a_1 → (∃ fs_2 : List Value, μ a_1 = some (.inr (1, fs_2)) ∧ ∃ r_4 : Option Nat, fs_2[0]? = some (va_rf r_4) ∧ (∃ a_6 : Nat, r_4 = some a_6 ∧ ∃ fs_7 : List Value, μ a_6 = some (.inr (0, fs_7)) ∧ ∃ v_9 : Int32, fs_7[1]? = some (.int v_9) ∧ (∃ a_16 : Nat, r4 = some a_16 ∧ ∃ mc_11 ms_12 : Nat, (k + mc_11 ≤ mc ∧ n + ms_12 ≤ ms) ∧ ∃ fs_17 : List Value, μ a_16 = some (.inr (1, fs_17)) ∧ sp_m x.2.1 κ yS_seenAt wS_seenAt 1 21 mc_11 ms_12 [.ref a_16, .int v1, .int v_9] μ (fun v_14 μ_15 => ∃ v_20 : Int32, v_14 = some (.int v_20) ∧ (∃ mc_21 ms_22 : Nat, ((k + mc_11) + mc_21 ≤ mc ∧ (n + ms_12) + ms_22 ≤ ms) ∧ ∃ fs_26 : List Value, μ_15 a_1 = some (.inr (1, fs_26)) ∧ sp_m x.2.1 κ yS_placeOfNumber wS_placeOfNumber 0 0 mc_21 ms_22 [.ref a_1, .int (v_20 - 1)] μ_15 (fun v_24 μ_25 => ∃ v_29 : Int32, v_24 = some (.int v_29) ∧ (∃ a_35 : Nat, r5 = some a_35 ∧ ∃ mc_30 ms_31 : Nat, ((k + mc_11 + mc_21) + mc_30 ≤ mc ∧ (n + ms_12 + ms_22) + ms_31 ≤ ms) ∧ ∃ fs_36 : List Value, μ_25 a_35 = some (.inr (1, fs_36)) ∧ sp_m x.2.1 κ yS_seenAt wS_seenAt 1 21 mc_30 ms_31 [.ref a_35, .int v2, .int v_9] μ_25 (fun v_33 μ_34 => ∃ v_39 : Int32, v_33 = some (.int v_39) ∧ (∃ mc_40 ms_41 : Nat, ((k + mc_11 + mc_21 + mc_30) + mc_40 ≤ mc ∧ (n + ms_12 + ms_22 + ms_31) + ms_41 ≤ ms) ∧ ∃ fs_45 : List Value, μ_34 a_1 = some (.inr (1, fs_45)) ∧ sp_m x.2.1 κ yS_placeOfNumber wS_placeOfNumber 0 0 mc_40 ms_41 [.ref a_1, .int v_39] μ_34 (fun v_43 μ_44 => ∃ v_48 : Int32, v_43 = some (.int v_48) ∧ (∃ fs_49 : List Value, μ_44 a_1 = some (.inr (1, fs_49)) ∧ ∃ v_51 : Int32, fs_49[2]? = some (.int v_51) ∧ (∃ v_53 : Int32, fs_49[1]? = some (.int v_53) ∧ (((if (if v_29 < v_51 then v_29 else v_51) < v6 then (if v_29 < v_51 then v_29 else v_51) else v6) < (if v_53 < v_48 then v_48 else v_53) → (∃ r_55 : Option Nat, fs_49[7]? = some (va_rf r_55) ∧ sp_w κ x (sp_F κ x Rt Xt mc ms) (k + mc_11 + mc_21 + mc_30 + mc_40) (n + ms_12 + ms_22 + ms_31 + ms_41) 26 [(0, .ref a0), (1, .int v1), (2, .int v2), (3, .int v3), (4, .ref a_16), (5, .ref a_35), (6, .int v6), (7, va_rf r_55)] [] μ_44)) ∧ (¬ (if (if v_29 < v_51 then v_29 else v_51) < v6 then (if v_29 < v_51 then v_29 else v_51) else v6) < (if v_53 < v_48 then v_48 else v_53) → Rt (some (.int (if (if v_29 < v_51 then v_29 else v_51) < v6 then (if v_29 < v_51 then v_29 else v_51) else v6))) μ_44))))) (fun E_58 μ_44 => Xt E_58 μ_44))) (fun E_59 μ_34 => Xt E_59 μ_34))) (fun E_60 μ_25 => Xt E_60 μ_25))) (fun E_61 μ_15 => Xt E_61 μ_15))))))) : sp_w κ x (sp_F κ x Rt Xt mc ms) k n 26 [(0, .ref a0), (1, .int v1), (2, .int v2), (3, .int v3), (4, va_rf r4), (5, va_rf r5), (6, .int v6), (7, va_rf r7)] [] μ := by
  refine sr_aloadO h dE_latest_26 7 rfl ?_
  rcases r7 with _ | a_1
  · replace vc := vc.1 rfl
    refine sr_ifnull_n (tgt := 118) h dE_latest_28 (by decide) ?_
    refine sr_iconst (v := -1) h dE_latest_118 (by decide) ?_
    exact sr_iret h dE_latest_119 hk.1 hk.2 vc
  · replace vc := vc.2 a_1 rfl
    refine sr_ifnull_s h dE_latest_28 ?_
    refine sr_aload h dE_latest_31 7 rfl ?_
    obtain ⟨fs_2, ho_3, vc⟩ := vc
    obtain ⟨r_4, hv_5, vc⟩ := vc
    refine sr_get h inS rfl 0 (by decide) kw_355 dE_latest_33 ho_3 hv_5 ?_
    obtain ⟨a_6, rfl, vc⟩ := vc
    obtain ⟨fs_7, ho_8, vc⟩ := vc
    obtain ⟨v_9, hv_10, vc⟩ := vc
    refine sr_get h inA rfl 1 (by decide) kw_317 dE_latest_36 ho_8 hv_10 ?_
    refine sr_istore (lv' := [(0, .ref a0), (1, .int v1), (2, .int v2), (3, .int v3), (4, va_rf r4), (5, va_rf r5), (6, .int v6), (7, .ref a_1), (8, .int v_9)]) h dE_latest_39 (by decide) rfl ?_
    refine sr_aload h dE_latest_41 7 rfl ?_
    refine sr_aloadO h dE_latest_43 4 rfl ?_
    refine sr_iload_n h dE_latest_45 rfl 1 rfl ?_
    refine sr_iload h dE_latest_46 8 rfl ?_
    obtain ⟨a_16, rfl, vc⟩ := vc
    obtain ⟨mc_11, ms_12, hc_13, vc⟩ := vc
    obtain ⟨fs_17, ho_18, vc⟩ := vc
    refine sr_callV (y := yS_seenAt) (n0 := 2) (As := [.int v1, .int v_9]) h (sp_gV kw_288 kw_289 kw_290 kw_47 kw_291) rfl (by decide +kernel) ⟨Nat.le_of_ble_eq_true rfl, Nat.le_of_ble_eq_true rfl⟩ (ci := 1) rfl dE_latest_48 rfl rfl (Nat.le_of_ble_eq_true rfl) hc_13 ho_18 vc (fun v_14 μ_15 vc' => ?_) (fun E_61 μ_15 vc' => ?_)
    · replace vc := vc'
      clear vc'
      obtain ⟨v_20, rfl, vc⟩ := vc
      refine sr_iconst (v := 1) h dE_latest_51 (by decide) ?_
      refine sr_isub h dE_latest_52 ?_
      obtain ⟨mc_21, ms_22, hc_23, vc⟩ := vc
      obtain ⟨fs_26, ho_27, vc⟩ := vc
      refine sr_callV (y := yS_placeOfNumber) (n0 := 1) (As := [.int (v_20 - 1)]) h (sp_gV kw_201 kw_202 kw_203 kw_47 kw_204) rfl (by decide +kernel) ⟨Nat.le_of_ble_eq_true rfl, Nat.le_of_ble_eq_true rfl⟩ (ci := 1) rfl dE_latest_53 rfl rfl (Nat.le_of_ble_eq_true rfl) hc_23 ho_27 vc (fun v_24 μ_25 vc' => ?_) (fun E_60 μ_25 vc' => ?_)
      · replace vc := vc'
        clear vc'
        obtain ⟨v_29, rfl, vc⟩ := vc
        refine sr_istore (lv' := [(0, .ref a0), (1, .int v1), (2, .int v2), (3, .int v3), (4, .ref a_16), (5, va_rf r5), (6, .int v6), (7, .ref a_1), (8, .int v_9), (9, .int v_29)]) h dE_latest_56 (by decide) rfl ?_
        refine sr_aload h dE_latest_58 7 rfl ?_
        refine sr_aloadO h dE_latest_60 5 rfl ?_
        refine sr_iload_n h dE_latest_62 rfl 2 rfl ?_
        refine sr_iload h dE_latest_63 8 rfl ?_
        obtain ⟨a_35, rfl, vc⟩ := vc
        obtain ⟨mc_30, ms_31, hc_32, vc⟩ := vc
        obtain ⟨fs_36, ho_37, vc⟩ := vc
        refine sr_callV (y := yS_seenAt) (n0 := 2) (As := [.int v2, .int v_9]) h (sp_gV kw_288 kw_289 kw_290 kw_47 kw_291) rfl (by decide +kernel) ⟨Nat.le_of_ble_eq_true rfl, Nat.le_of_ble_eq_true rfl⟩ (ci := 1) rfl dE_latest_65 rfl rfl (Nat.le_of_ble_eq_true rfl) hc_32 ho_37 vc (fun v_33 μ_34 vc' => ?_) (fun E_59 μ_34 vc' => ?_)
        · replace vc := vc'
          clear vc'
          obtain ⟨v_39, rfl, vc⟩ := vc
          obtain ⟨mc_40, ms_41, hc_42, vc⟩ := vc
          obtain ⟨fs_45, ho_46, vc⟩ := vc
          refine sr_callV (y := yS_placeOfNumber) (n0 := 1) (As := [.int v_39]) h (sp_gV kw_201 kw_202 kw_203 kw_47 kw_204) rfl (by decide +kernel) ⟨Nat.le_of_ble_eq_true rfl, Nat.le_of_ble_eq_true rfl⟩ (ci := 1) rfl dE_latest_68 rfl rfl (Nat.le_of_ble_eq_true rfl) hc_42 ho_46 vc (fun v_43 μ_44 vc' => ?_) (fun E_58 μ_44 vc' => ?_)
          · replace vc := vc'
            clear vc'
            obtain ⟨v_48, rfl, vc⟩ := vc
            refine sr_istore (lv' := [(0, .ref a0), (1, .int v1), (2, .int v2), (3, .int v3), (4, .ref a_16), (5, .ref a_35), (6, .int v6), (7, .ref a_1), (8, .int v_9), (9, .int v_29), (10, .int v_48)]) h dE_latest_71 (by decide) rfl ?_
            refine sr_iload h dE_latest_73 6 rfl ?_
            refine sr_aload h dE_latest_75 7 rfl ?_
            obtain ⟨fs_49, ho_50, vc⟩ := vc
            obtain ⟨v_51, hv_52, vc⟩ := vc
            refine sr_get h inS rfl 2 (by decide) kw_359 dE_latest_77 ho_50 hv_52 ?_
            refine sr_iload h dE_latest_80 9 rfl ?_
            refine sr_mmin h kw_95 kw_96 kw_44 kw_mmin dE_latest_82 (Nat.le_of_ble_eq_true rfl) (Nat.le_of_ble_eq_true rfl) hc_42.1 hc_42.2 ?_
            refine sr_mmin h kw_95 kw_96 kw_44 kw_mmin dE_latest_85 (Nat.le_of_ble_eq_true rfl) (Nat.le_of_ble_eq_true rfl) hc_42.1 hc_42.2 ?_
            refine sr_istore (lv' := [(0, .ref a0), (1, .int v1), (2, .int v2), (3, .int v3), (4, .ref a_16), (5, .ref a_35), (6, .int v6), (7, .ref a_1), (8, .int v_9), (9, .int v_29), (10, .int v_48), (11, .int (if (if v_29 < v_51 then v_29 else v_51) < v6 then (if v_29 < v_51 then v_29 else v_51) else v6))]) h dE_latest_88 (by decide) rfl ?_
            refine sr_iload h dE_latest_90 11 rfl ?_
            refine sr_aload h dE_latest_92 7 rfl ?_
            obtain ⟨v_53, hv_54, vc⟩ := vc
            refine sr_get h inS rfl 1 (by decide) kw_357 dE_latest_94 ho_50 hv_54 ?_
            refine sr_iload h dE_latest_97 10 rfl ?_
            refine sr_mmax h kw_109 kw_110 kw_44 kw_mmax dE_latest_99 (Nat.le_of_ble_eq_true rfl) (Nat.le_of_ble_eq_true rfl) hc_42.1 hc_42.2 ?_
            refine sr_icmp_lt (tgt := 108) h dE_latest_102 (by decide) (fun c_57 => ?_) (fun c_57 => ?_)
            · replace vc := vc.1 c_57
              refine sr_aload h dE_latest_108 7 rfl ?_
              obtain ⟨r_55, hv_56, vc⟩ := vc
              refine sr_get h inS rfl 7 (by decide) kw_367 dE_latest_110 ho_50 hv_56 ?_
              refine sr_astoreO (lv' := [(0, .ref a0), (1, .int v1), (2, .int v2), (3, .int v3), (4, .ref a_16), (5, .ref a_35), (6, .int v6), (7, va_rf r_55), (8, .int v_9), (9, .int v_29), (10, .int v_48), (11, .int (if (if v_29 < v_51 then v_29 else v_51) < v6 then (if v_29 < v_51 then v_29 else v_51) else v6))]) h dE_latest_113 (by decide) rfl ?_
              refine sr_goto (tgt := 26) h dE_latest_115 (by decide) ?_
              exact sr_sub (lv' := [(0, .ref a0), (1, .int v1), (2, .int v2), (3, .int v3), (4, .ref a_16), (5, .ref a_35), (6, .int v6), (7, va_rf r_55)]) [0, 1, 2, 3, 4, 5, 6, 7] rfl vc
            · replace vc := vc.2 c_57
              refine sr_iload h dE_latest_105 11 rfl ?_
              exact sr_iret h dE_latest_107 hc_42.1 hc_42.2 vc
          · replace vc := vc'
            clear vc'
            exact st_out h (fun _ z => nomatch z) hc_42.1 hc_42.2 vc
        · replace vc := vc'
          clear vc'
          exact st_out h (fun _ z => nomatch z) hc_32.1 hc_32.2 vc
      · replace vc := vc'
        clear vc'
        exact st_out h (fun _ z => nomatch z) hc_23.1 hc_23.2 vc
    · replace vc := vc'
      clear vc'
      exact st_out h (fun _ z => nomatch z) hc_13.1 hc_13.2 vc

abbrev cxE_head (κ : sp_K) (x : sp_X) (mc ms : Nat) : Prop := sp_C κ x cE_head 7 RE (some .int) [] "head" (sp_rm 6 90 mc ms)
set_option maxRecDepth 100000 in
set_option maxHeartbeats 4000000 in
theorem bkE_head_0 {κ : sp_K} {x : sp_X} {mc ms : Nat} {Rt : Option Value → sp_M → Prop} {Xt : String → sp_M → Prop} {μ : sp_M} {k n : Nat} {a0 : Nat} {v1 : Int32} (h : cxE_head κ x mc ms) (hk : k ≤ mc ∧ n ≤ ms)
    (vc : (∃ fs_1 : List Value, μ a0 = some (.inr (2, fs_1)) ∧ ∃ r_3 : Option Nat, fs_1[0]? = some (va_rf r_3) ∧ (∃ a_5 : Nat, r_3 = some a_5 ∧ ∃ (N_6 : Nat) (f_7 : Nat → Option Nat), μ a_5 = some (sp_ra κ 3 N_6 f_7) ∧ sp_w κ x (sp_F κ x Rt Xt mc ms) k n 14 [(0, .ref a0), (1, .int v1), (2, .int 0), (3, .ref a_5), (4, .int (nI N_6)), (5, .int 0)] [] μ))) : sp_w κ x (sp_F κ x Rt Xt mc ms) k n 0 [(0, .ref a0), (1, .int v1)] [] μ := by
  refine sr_iconst (v := 0) h dE_head_0 (by decide) ?_
  refine sr_istore_n (lv' := [(0, .ref a0), (1, .int v1), (2, .int 0)]) h dE_head_1 rfl (by decide) rfl ?_
  refine sr_aload_n h dE_head_2 rfl 0 rfl ?_
  obtain ⟨fs_1, ho_2, vc⟩ := vc
  obtain ⟨r_3, hv_4, vc⟩ := vc
  refine sr_get h inE rfl 0 (by decide) kw_60 dE_head_3 ho_2 hv_4 ?_
  refine sr_astoreO_n (lv' := [(0, .ref a0), (1, .int v1), (2, .int 0), (3, va_rf r_3)]) h dE_head_6 rfl (by decide) rfl ?_
  refine sr_aloadO_n h dE_head_7 rfl 3 rfl ?_
  obtain ⟨a_5, rfl, vc⟩ := vc
  obtain ⟨N_6, f_7, ho_8, vc⟩ := vc
  refine sr_alen (t := 3) h dE_head_8 ho_8 rfl ?_
  refine sr_istore (lv' := [(0, .ref a0), (1, .int v1), (2, .int 0), (3, .ref a_5), (4, .int (nI N_6))]) h dE_head_9 (by decide) rfl ?_
  refine sr_iconst (v := 0) h dE_head_11 (by decide) ?_
  refine sr_istore (lv' := [(0, .ref a0), (1, .int v1), (2, .int 0), (3, .ref a_5), (4, .int (nI N_6)), (5, .int 0)]) h dE_head_12 (by decide) rfl ?_
  exact vc
set_option maxRecDepth 100000 in
set_option maxHeartbeats 4000000 in
theorem bkE_head_14 {κ : sp_K} {x : sp_X} {mc ms : Nat} {Rt : Option Value → sp_M → Prop} {Xt : String → sp_M → Prop} {μ : sp_M} {k n : Nat} {a0 : Nat} {v1 : Int32} {v2 : Int32} {a3 : Nat} {v4 : Int32} {v5 : Int32} (h : cxE_head κ x mc ms) (hk : k ≤ mc ∧ n ≤ ms)
    (vc : ((v4 ≤ v5 → ((k + 1 ≤ mc ∧ n + 6 ≤ ms) ∧ Xt "java/util/NoSuchElementException" μ)) ∧ (¬ v4 ≤ v5 → (∃ (N_2 : Nat) (f_3 : Nat → Option Nat), μ a3 = some (sp_ra κ 3 N_2 f_3) ∧ ∃ j_5 : Nat, v5 = nI j_5 ∧ j_5 < N_2 ∧ ∃ r_8 : Option Nat, f_3 j_5 = r_8 ∧ ((r_8 = none → sp_w κ x (sp_F κ x Rt Xt mc ms) k n 14 [(0, .ref a0), (1, .int v1), (2, .int v2), (3, .ref a3), (4, .int v4), (5, .int (v5 + 1))] [] μ) ∧ (∀ a_10 : Nat, r_8 = some a_10 → (∃ fs_11 : List Value, μ a_10 = some (.inr (0, fs_11)) ∧ ∃ v_13 : Int32, fs_11[4]? = some (.int v_13) ∧ ((v_13 = 0 → sp_w κ x (sp_F κ x Rt Xt mc ms) k n 14 [(0, .ref a0), (1, .int v1), (2, .int v2), (3, .ref a3), (4, .int v4), (5, .int (v5 + 1))] [] μ) ∧ (¬ v_13 = 0 → ((¬ v2 = v1 → sp_w κ x (sp_F κ x Rt Xt mc ms) k n 14 [(0, .ref a0), (1, .int v1), (2, .int (v2 + 1)), (3, .ref a3), (4, .int v4), (5, .int (v5 + 1))] [] μ) ∧ (v2 = v1 → (∃ v_15 : Int32, fs_11[3]? = some (.int v_15) ∧ Rt (some (.int v_15)) μ)))))))))))) : sp_w κ x (sp_F κ x Rt Xt mc ms) k n 14 [(0, .ref a0), (1, .int v1), (2, .int v2), (3, .ref a3), (4, .int v4), (5, .int v5)] [] μ := by
  refine sr_iload h dE_head_14 5 rfl ?_
  refine sr_iload h dE_head_16 4 rfl ?_
  refine sr_icmp_ge (tgt := 60) h dE_head_18 (by decide) (fun c_19 => ?_) (fun c_19 => ?_)
  · replace vc := vc.1 c_19
    obtain ⟨hc_1, vc⟩ := vc
    exact sr_throw0 (names := ["java/lang/RuntimeException", "java/lang/Exception"]) h (by decide +kernel) (by decide +kernel) kw_129 kw_39 ka_E_123 kg_E_123 dE_head_60 dE_head_63 dE_head_64 dE_head_67 (fun _ z => nomatch z) (Nat.le_of_ble_eq_true rfl) (Nat.le_of_ble_eq_true rfl) hc_1.1 hc_1.2 hc_1.1 hc_1.2 vc
  · replace vc := vc.2 c_19
    refine sr_aload_n h dE_head_21 rfl 3 rfl ?_
    refine sr_iload h dE_head_22 5 rfl ?_
    obtain ⟨N_2, f_3, ho_4, vc⟩ := vc
    obtain ⟨j_5, hi_6, hj_7, vc⟩ := vc
    obtain ⟨r_8, hr_9, vc⟩ := vc
    refine sr_aald h dE_head_24 rfl ho_4 hi_6 hj_7 hr_9 ?_
    refine sr_astoreO (lv' := [(0, .ref a0), (1, .int v1), (2, .int v2), (3, .ref a3), (4, .int v4), (5, .int v5), (6, va_rf r_8)]) h dE_head_25 (by decide) rfl ?_
    refine sr_aloadO h dE_head_27 6 rfl ?_
    rcases r_8 with _ | a_10
    · replace vc := vc.1 rfl
      refine sr_ifnull_n (tgt := 54) h dE_head_29 (by decide) ?_
      refine sr_iinc (u := v5 + 1) (lv' := [(0, .ref a0), (1, .int v1), (2, .int v2), (3, .ref a3), (4, .int v4), (5, .int (v5 + 1)), (6, .null)]) h dE_head_54 5 rfl rfl (by decide) rfl ?_
      refine sr_goto (tgt := 14) h dE_head_57 (by decide) ?_
      exact sr_sub (lv' := [(0, .ref a0), (1, .int v1), (2, .int v2), (3, .ref a3), (4, .int v4), (5, .int (v5 + 1))]) [0, 1, 2, 3, 4, 5] rfl vc
    · replace vc := vc.2 a_10 rfl
      refine sr_ifnull_s h dE_head_29 ?_
      refine sr_aload h dE_head_32 6 rfl ?_
      obtain ⟨fs_11, ho_12, vc⟩ := vc
      obtain ⟨v_13, hv_14, vc⟩ := vc
      refine sr_get h inA rfl 4 (by decide) kw_325 dE_head_34 ho_12 hv_14 ?_
      refine sr_if_eq (tgt := 54) h dE_head_37 (by decide) (fun c_18 => ?_) (fun c_18 => ?_)
      · replace vc := vc.1 c_18
        refine sr_iinc (u := v5 + 1) (lv' := [(0, .ref a0), (1, .int v1), (2, .int v2), (3, .ref a3), (4, .int v4), (5, .int (v5 + 1)), (6, .ref a_10)]) h dE_head_54 5 rfl rfl (by decide) rfl ?_
        refine sr_goto (tgt := 14) h dE_head_57 (by decide) ?_
        exact sr_sub (lv' := [(0, .ref a0), (1, .int v1), (2, .int v2), (3, .ref a3), (4, .int v4), (5, .int (v5 + 1))]) [0, 1, 2, 3, 4, 5] rfl vc
      · replace vc := vc.2 c_18
        refine sr_iload_n h dE_head_40 rfl 2 rfl ?_
        refine sr_iload_n h dE_head_41 rfl 1 rfl ?_
        refine sr_icmp_ne (tgt := 51) h dE_head_42 (by decide) (fun c_17 => ?_) (fun c_17 => ?_)
        · replace vc := vc.1 c_17
          refine sr_iinc (u := v2 + 1) (lv' := [(0, .ref a0), (1, .int v1), (2, .int (v2 + 1)), (3, .ref a3), (4, .int v4), (5, .int v5), (6, .ref a_10)]) h dE_head_51 2 rfl rfl (by decide) rfl ?_
          refine sr_iinc (u := v5 + 1) (lv' := [(0, .ref a0), (1, .int v1), (2, .int (v2 + 1)), (3, .ref a3), (4, .int v4), (5, .int (v5 + 1)), (6, .ref a_10)]) h dE_head_54 5 rfl rfl (by decide) rfl ?_
          refine sr_goto (tgt := 14) h dE_head_57 (by decide) ?_
          exact sr_sub (lv' := [(0, .ref a0), (1, .int v1), (2, .int (v2 + 1)), (3, .ref a3), (4, .int v4), (5, .int (v5 + 1))]) [0, 1, 2, 3, 4, 5] rfl vc
        · replace vc := vc.2 c_17
          refine sr_aload h dE_head_45 6 rfl ?_
          obtain ⟨v_15, hv_16, vc⟩ := vc
          refine sr_get h inA rfl 3 (by decide) kw_323 dE_head_47 ho_12 hv_16 ?_
          exact sr_iret h dE_head_50 hk.1 hk.2 vc
end
section
abbrev cxM_thrown (κ : sp_K) (x : sp_X) (mc ms : Nat) : Prop := sp_C κ x cM_thrown 1 RM (some .int) [] "thrown" (sp_rm 0 0 mc ms)
set_option maxRecDepth 100000 in
set_option maxHeartbeats 4000000 in
theorem bkM_thrown_0 {κ : sp_K} {x : sp_X} {mc ms : Nat} {Rt : Option Value → sp_M → Prop} {Xt : String → sp_M → Prop} {μ : sp_M} {k n : Nat} {a0 : Nat} (h : cxM_thrown κ x mc ms) (hk : k ≤ mc ∧ n ≤ ms)
    (vc : (∃ fs_1 : List Value, μ a0 = some (.inr (3, fs_1)) ∧ ∃ v_3 : Int32, fs_1[13]? = some (.int v_3) ∧ Rt (some (.int v_3)) μ)) : sp_w κ x (sp_F κ x Rt Xt mc ms) k n 0 [(0, .ref a0)] [] μ := by
  refine sr_aload_n h dM_thrown_0 rfl 0 rfl ?_
  obtain ⟨fs_1, ho_2, vc⟩ := vc
  obtain ⟨v_3, hv_4, vc⟩ := vc
  refine sr_get h inM rfl 13 (by decide) kw_467 dM_thrown_1 ho_2 hv_4 ?_
  exact sr_iret h dM_thrown_4 hk.1 hk.2 vc

abbrev cxM_parent (κ : sp_K) (x : sp_X) (mc ms : Nat) : Prop := sp_C κ x cM_parent 4 RM (some .int) (tableOf hhM_parent) "parent" (sp_rm 8 134 mc ms)
set_option maxRecDepth 100000 in
set_option maxHeartbeats 4000000 in
theorem bkM_parent_0 {κ : sp_K} {x : sp_X} {mc ms : Nat} {Rt : Option Value → sp_M → Prop} {Xt : String → sp_M → Prop} {μ : sp_M} {k n : Nat} {a0 : Nat} {v1 : Int32} {v2 : Int32} (h : cxM_parent κ x mc ms) (hk : k ≤ mc ∧ n ≤ ms)
    (vc : (∃ fs_1 : List Value, μ a0 = some (.inr (3, fs_1)) ∧ 13 < fs_1.length ∧ ∀ μ_3 : sp_M, μ_3 = va_up μ a0 (some (.inr (3, fs_1.set 13 (.int 0)))) → (∃ mc_5 ms_6 : Nat, (k + mc_5 ≤ mc ∧ n + ms_6 ≤ ms) ∧ ∃ fs_10 : List Value, μ_3 a0 = some (.inr (3, fs_10)) ∧ sp_m x.2.1 κ yM_parent0 wM_parent0 7 110 mc_5 ms_6 [.ref a0, .int v1, .int v2] μ_3 (fun v_8 μ_9 => ∃ v_13 : Int32, v_8 = some (.int v_13) ∧ Rt (some (.int v_13)) μ_9) (fun E_14 μ_9 => ((E_14 = "java/util/NoSuchElementException" ∧ ∀ q_15 : Nat, (∃ fs_16 : List Value, μ_9 a0 = some (.inr (3, fs_16)) ∧ 13 < fs_16.length ∧ ∀ μ_18 : sp_M, μ_18 = va_up μ_9 a0 (some (.inr (3, fs_16.set 13 (.int 1)))) → Rt (some (.int 0)) μ_18)) ∨ (E_14 = "java/lang/UnsupportedOperationException" ∧ ∀ q_20 : Nat, (∃ fs_21 : List Value, μ_9 a0 = some (.inr (3, fs_21)) ∧ 13 < fs_21.length ∧ ∀ μ_23 : sp_M, μ_23 = va_up μ_9 a0 (some (.inr (3, fs_21.set 13 (.int 2)))) → Rt (some (.int 0)) μ_23)) ∨ (E_14 = "java/lang/IllegalStateException" ∧ ∀ q_25 : Nat, (∃ fs_26 : List Value, μ_9 a0 = some (.inr (3, fs_26)) ∧ 13 < fs_26.length ∧ ∀ μ_28 : sp_M, μ_28 = va_up μ_9 a0 (some (.inr (3, fs_26.set 13 (.int 3)))) → Rt (some (.int 0)) μ_28))))))) : sp_w κ x (sp_F κ x Rt Xt mc ms) k n 0 [(0, .ref a0), (1, .int v1), (2, .int v2)] [] μ := by
  refine sr_aload_n h dM_parent_0 rfl 0 rfl ?_
  refine sr_iconst (v := 0) h dM_parent_1 (by decide) ?_
  obtain ⟨fs_1, ho_2, vc⟩ := vc
  obtain ⟨hl_4, vc⟩ := vc
  replace vc := vc _ rfl
  refine sr_put h inM tyM tyM_ok nmM rfl 13 (by decide) kw_467 rfl dM_parent_2 ho_2 rfl rfl hl_4 ?_
  refine sr_aload_n h dM_parent_5 rfl 0 rfl ?_
  refine sr_iload_n h dM_parent_6 rfl 1 rfl ?_
  refine sr_iload_n h dM_parent_7 rfl 2 rfl ?_
  obtain ⟨mc_5, ms_6, hc_7, vc⟩ := vc
  obtain ⟨fs_10, ho_11, vc⟩ := vc
  refine sr_callV (y := yM_parent0) (n0 := 2) (As := [.int v1, .int v2]) h (sp_gV kw_509 kw_511 kw_12 kw_35 kw_512) rfl (by decide +kernel) ⟨Nat.le_of_ble_eq_true rfl, Nat.le_of_ble_eq_true rfl⟩ (ci := 3) rfl dM_parent_8 rfl rfl (Nat.le_of_ble_eq_true rfl) hc_7 ho_11 vc (fun v_8 μ_9 vc' => ?_) (fun E_14 μ_9 vc' => ?_)
  · replace vc := vc'
    clear vc'
    obtain ⟨v_13, rfl, vc⟩ := vc
    exact sr_iret h dM_parent_11 hc_7.1 hc_7.2 vc
  · replace vc := vc'
    clear vc'
    rcases vc with ⟨rfl, vc⟩ | ⟨rfl, vc⟩ | ⟨rfl, vc⟩
    · refine st_catch h [] ({ startPc := 5, endPc := 11, handlerPc := 12, catchType := 44 }) [{ startPc := 5, endPc := 11, handlerPc := 21, catchType := 69 }, { startPc := 5, endPc := 11, handlerPc := 30, catchType := 72 }] rfl (fun _ z => nomatch z) (by decide) (by decide) (name := "java/util/NoSuchElementException") kw_506 kt_131 (fun q_15 => ?_)
      replace vc := vc q_15
      refine sr_astore_n (lv' := [(0, .ref a0), (1, .int v1), (2, .int v2), (3, .ref q_15)]) h dM_parent_12 rfl (by decide) rfl ?_
      refine sr_aload_n h dM_parent_13 rfl 0 rfl ?_
      refine sr_iconst (v := 1) h dM_parent_14 (by decide) ?_
      obtain ⟨fs_16, ho_17, vc⟩ := vc
      obtain ⟨hl_19, vc⟩ := vc
      replace vc := vc _ rfl
      refine sr_put h inM tyM tyM_ok nmM rfl 13 (by decide) kw_467 rfl dM_parent_15 ho_17 rfl rfl hl_19 ?_
      refine sr_goto (tgt := 36) h dM_parent_18 (by decide) ?_
      refine sr_iconst (v := 0) h dM_parent_36 (by decide) ?_
      exact sr_iret h dM_parent_37 hc_7.1 hc_7.2 vc
    · refine st_catch h [{ startPc := 5, endPc := 11, handlerPc := 12, catchType := 44 }] ({ startPc := 5, endPc := 11, handlerPc := 21, catchType := 69 }) [{ startPc := 5, endPc := 11, handlerPc := 30, catchType := 72 }] rfl (fun w hw => by simp only [List.mem_cons, List.not_mem_nil, or_false] at hw; subst hw; exact Or.inr ⟨by decide, "java/util/NoSuchElementException", kw_506, by decide +kernel⟩) (by decide) (by decide) (name := "java/lang/UnsupportedOperationException") kw_507 kt_211 (fun q_20 => ?_)
      replace vc := vc q_20
      refine sr_astore_n (lv' := [(0, .ref a0), (1, .int v1), (2, .int v2), (3, .ref q_20)]) h dM_parent_21 rfl (by decide) rfl ?_
      refine sr_aload_n h dM_parent_22 rfl 0 rfl ?_
      refine sr_iconst (v := 2) h dM_parent_23 (by decide) ?_
      obtain ⟨fs_21, ho_22, vc⟩ := vc
      obtain ⟨hl_24, vc⟩ := vc
      replace vc := vc _ rfl
      refine sr_put h inM tyM tyM_ok nmM rfl 13 (by decide) kw_467 rfl dM_parent_24 ho_22 rfl rfl hl_24 ?_
      refine sr_goto (tgt := 36) h dM_parent_27 (by decide) ?_
      refine sr_iconst (v := 0) h dM_parent_36 (by decide) ?_
      exact sr_iret h dM_parent_37 hc_7.1 hc_7.2 vc
    · refine st_catch h [{ startPc := 5, endPc := 11, handlerPc := 12, catchType := 44 }, { startPc := 5, endPc := 11, handlerPc := 21, catchType := 69 }] ({ startPc := 5, endPc := 11, handlerPc := 30, catchType := 72 }) [] rfl (fun w hw => by simp only [List.mem_cons, List.not_mem_nil, or_false] at hw; rcases hw with rfl | rfl <;> first | exact Or.inr ⟨by decide, "java/util/NoSuchElementException", kw_506, by decide +kernel⟩ | exact Or.inr ⟨by decide, "java/lang/UnsupportedOperationException", kw_507, by decide +kernel⟩) (by decide) (by decide) (name := "java/lang/IllegalStateException") kw_508 kt_226 (fun q_25 => ?_)
      replace vc := vc q_25
      refine sr_astore_n (lv' := [(0, .ref a0), (1, .int v1), (2, .int v2), (3, .ref q_25)]) h dM_parent_30 rfl (by decide) rfl ?_
      refine sr_aload_n h dM_parent_31 rfl 0 rfl ?_
      refine sr_iconst (v := 3) h dM_parent_32 (by decide) ?_
      obtain ⟨fs_26, ho_27, vc⟩ := vc
      obtain ⟨hl_29, vc⟩ := vc
      replace vc := vc _ rfl
      refine sr_put h inM tyM tyM_ok nmM rfl 13 (by decide) kw_467 rfl dM_parent_33 ho_27 rfl rfl hl_29 ?_
      refine sr_iconst (v := 0) h dM_parent_36 (by decide) ?_
      exact sr_iret h dM_parent_37 hc_7.1 hc_7.2 vc

abbrev cxM_parent0 (κ : sp_K) (x : sp_X) (mc ms : Nat) : Prop := sp_C κ x cM_parent0 5 RM (some .int) [] "parent0" (sp_rm 7 110 mc ms)
set_option maxRecDepth 100000 in
set_option maxHeartbeats 4000000 in
theorem bkM_parent0_0 {κ : sp_K} {x : sp_X} {mc ms : Nat} {Rt : Option Value → sp_M → Prop} {Xt : String → sp_M → Prop} {μ : sp_M} {k n : Nat} {a0 : Nat} {v1 : Int32} {v2 : Int32} (h : cxM_parent0 κ x mc ms) (hk : k ≤ mc ∧ n ≤ ms)
    (vc : (∃ mc_1 ms_2 : Nat, (k + mc_1 ≤ mc ∧ n + ms_2 ≤ ms) ∧ ∃ fs_6 : List Value, μ a0 = some (.inr (3, fs_6)) ∧ sp_m x.2.1 κ yM_find wM_find 1 22 mc_1 ms_2 [.ref a0, .int v1, .int v2] μ (fun v_4 μ_5 => ∃ v_9 : Int32, v_4 = some (.int v_9) ∧ ((v_9 < 0 → (∃ mc_10 ms_11 : Nat, ((k + mc_1) + mc_10 ≤ mc ∧ (n + ms_2) + ms_11 ≤ ms) ∧ sp_m x.2.1 κ yM_there wM_there 6 90 mc_10 ms_11 [.int 0] μ_5 (fun v_13 μ_14 => v_13 = none ∧ sp_w κ x (sp_F κ x Rt Xt mc ms) (k + mc_1 + mc_10) (n + ms_2 + ms_11) 22 [(0, .ref a0), (1, .int v1), (2, .int v2), (3, .int v_9), (4, .int 0)] [] μ_14) (fun E_16 μ_14 => Xt E_16 μ_14))) ∧ (¬ v_9 < 0 → (∃ mc_17 ms_18 : Nat, ((k + mc_1) + mc_17 ≤ mc ∧ (n + ms_2) + ms_18 ≤ ms) ∧ sp_m x.2.1 κ yM_there wM_there 6 90 mc_17 ms_18 [.int 1] μ_5 (fun v_20 μ_21 => v_20 = none ∧ sp_w κ x (sp_F κ x Rt Xt mc ms) (k + mc_1 + mc_17) (n + ms_2 + ms_18) 22 [(0, .ref a0), (1, .int v1), (2, .int v2), (3, .int v_9), (4, .int 0)] [] μ_21) (fun E_23 μ_21 => Xt E_23 μ_21))))) (fun E_25 μ_5 => Xt E_25 μ_5))) : sp_w κ x (sp_F κ x Rt Xt mc ms) k n 0 [(0, .ref a0), (1, .int v1), (2, .int v2)] [] μ := by
  refine sr_aload_n h dM_parent0_0 rfl 0 rfl ?_
  refine sr_iload_n h dM_parent0_1 rfl 1 rfl ?_
  refine sr_iload_n h dM_parent0_2 rfl 2 rfl ?_
  obtain ⟨mc_1, ms_2, hc_3, vc⟩ := vc
  obtain ⟨fs_6, ho_7, vc⟩ := vc
  refine sr_callV (y := yM_find) (n0 := 2) (As := [.int v1, .int v2]) h (sp_gV kw_513 kw_515 kw_13 kw_35 kw_516) rfl (by decide +kernel) ⟨Nat.le_of_ble_eq_true rfl, Nat.le_of_ble_eq_true rfl⟩ (ci := 3) rfl dM_parent0_3 rfl rfl (Nat.le_of_ble_eq_true rfl) hc_3 ho_7 vc (fun v_4 μ_5 vc' => ?_) (fun E_25 μ_5 vc' => ?_)
  · replace vc := vc'
    clear vc'
    obtain ⟨v_9, rfl, vc⟩ := vc
    refine sr_istore_n (lv' := [(0, .ref a0), (1, .int v1), (2, .int v2), (3, .int v_9)]) h dM_parent0_6 rfl (by decide) rfl ?_
    refine sr_iload_n h dM_parent0_7 rfl 3 rfl ?_
    refine sr_if_lt (tgt := 15) h dM_parent0_8 (by decide) (fun c_24 => ?_) (fun c_24 => ?_)
    · replace vc := vc.1 c_24
      refine sr_iconst (v := 0) h dM_parent0_15 (by decide) ?_
      obtain ⟨mc_10, ms_11, hc_12, vc⟩ := vc
      refine sr_callS (y := yM_there) (n0 := 1) (As := [.int 0]) (st := []) h (sp_gS kw_521 kw_522 kw_35 kw_523) rfl (by decide +kernel) ⟨Nat.le_of_ble_eq_true rfl, Nat.le_of_ble_eq_true rfl⟩ dM_parent0_16 rfl rfl (Nat.le_of_ble_eq_true rfl) hc_12 vc (fun v_13 μ_14 vc' => ?_) (fun E_16 μ_14 vc' => ?_)
      · replace vc := vc'
        clear vc'
        obtain ⟨rfl, vc⟩ := vc
        refine sr_iconst (v := 0) h dM_parent0_19 (by decide) ?_
        refine sr_istore (lv' := [(0, .ref a0), (1, .int v1), (2, .int v2), (3, .int v_9), (4, .int 0)]) h dM_parent0_20 (by decide) rfl ?_
        exact vc
      · replace vc := vc'
        clear vc'
        exact st_out h (fun _ z => nomatch z) hc_12.1 hc_12.2 vc
    · replace vc := vc.2 c_24
      refine sr_iconst (v := 1) h dM_parent0_11 (by decide) ?_
      refine sr_goto (tgt := 16) h dM_parent0_12 (by decide) ?_
      obtain ⟨mc_17, ms_18, hc_19, vc⟩ := vc
      refine sr_callS (y := yM_there) (n0 := 1) (As := [.int 1]) (st := []) h (sp_gS kw_521 kw_522 kw_35 kw_523) rfl (by decide +kernel) ⟨Nat.le_of_ble_eq_true rfl, Nat.le_of_ble_eq_true rfl⟩ dM_parent0_16 rfl rfl (Nat.le_of_ble_eq_true rfl) hc_19 vc (fun v_20 μ_21 vc' => ?_) (fun E_23 μ_21 vc' => ?_)
      · replace vc := vc'
        clear vc'
        obtain ⟨rfl, vc⟩ := vc
        refine sr_iconst (v := 0) h dM_parent0_19 (by decide) ?_
        refine sr_istore (lv' := [(0, .ref a0), (1, .int v1), (2, .int v2), (3, .int v_9), (4, .int 0)]) h dM_parent0_20 (by decide) rfl ?_
        exact vc
      · replace vc := vc'
        clear vc'
        exact st_out h (fun _ z => nomatch z) hc_19.1 hc_19.2 vc
  · replace vc := vc'
    clear vc'
    exact st_out h (fun _ z => nomatch z) hc_3.1 hc_3.2 vc
set_option maxRecDepth 100000 in
set_option maxHeartbeats 4000000 in
theorem bkM_parent0_22 {κ : sp_K} {x : sp_X} {mc ms : Nat} {Rt : Option Value → sp_M → Prop} {Xt : String → sp_M → Prop} {μ : sp_M} {k n : Nat} {a0 : Nat} {v1 : Int32} {v2 : Int32} {v3 : Int32} {v4 : Int32} (h : cxM_parent0 κ x mc ms) (hk : k ≤ mc ∧ n ≤ ms)
    (vc : (∃ fs_1 : List Value, μ a0 = some (.inr (3, fs_1)) ∧ ∃ v_3 : Int32, fs_1[11]? = some (.int v_3) ∧ ((v_3 ≤ v4 → (((¬ v_3 = 16 → (∃ r_5 : Option Nat, fs_1[10]? = some (va_rf r_5) ∧ ((∃ a_7 : Nat, r_5 = some a_7 ∧ ∃ (N_8 : Nat) (f_9 : Nat → Int32), μ a_7 = some (sp_ia κ N_8 f_9) ∧ ∃ j_11 : Nat, v_3 = nI j_11 ∧ j_11 < N_8 ∧ ∀ μ_14 : sp_M, μ_14 = va_up μ a_7 (some (sp_ia κ N_8 (upd f_9 j_11 v3))) → (∃ fs_15 : List Value, μ_14 a0 = some (.inr (3, fs_15)) ∧ ∃ v_17 : Int32, fs_15[11]? = some (.int v_17) ∧ (11 < fs_15.length ∧ ∀ μ_19 : sp_M, μ_19 = va_up μ_14 a0 (some (.inr (3, fs_15.set 11 (.int (v_17 + 1))))) → (∃ fs_21 : List Value, μ_19 a0 = some (.inr (3, fs_21)) ∧ ∃ v_23 : Int32, fs_21[11]? = some (.int v_23) ∧ Rt (some (.int v_23)) μ_19))))))) ∧ (v_3 = 16 → ((k + 1 ≤ mc ∧ n + 6 ≤ ms) ∧ Xt "java/lang/IllegalStateException" μ))))) ∧ (¬ v_3 ≤ v4 → (∃ r_27 : Option Nat, fs_1[10]? = some (va_rf r_27) ∧ (∃ a_29 : Nat, r_27 = some a_29 ∧ ∃ (N_30 : Nat) (f_31 : Nat → Int32), μ a_29 = some (sp_ia κ N_30 f_31) ∧ ∃ j_33 : Nat, v4 = nI j_33 ∧ j_33 < N_30 ∧ ((¬ (f_31 j_33) = v3 → sp_w κ x (sp_F κ x Rt Xt mc ms) k n 22 [(0, .ref a0), (1, .int v1), (2, .int v2), (3, .int v3), (4, .int (v4 + 1))] [] μ) ∧ ((f_31 j_33) = v3 → ((k + 1 ≤ mc ∧ n + 6 ≤ ms) ∧ Xt "java/lang/UnsupportedOperationException" μ))))))))) : sp_w κ x (sp_F κ x Rt Xt mc ms) k n 22 [(0, .ref a0), (1, .int v1), (2, .int v2), (3, .int v3), (4, .int v4)] [] μ := by
  refine sr_iload h dM_parent0_22 4 rfl ?_
  refine sr_aload_n h dM_parent0_24 rfl 0 rfl ?_
  obtain ⟨fs_1, ho_2, vc⟩ := vc
  obtain ⟨v_3, hv_4, vc⟩ := vc
  refine sr_get h inM rfl 11 (by decide) kw_465 dM_parent0_25 ho_2 hv_4 ?_
  refine sr_icmp_ge (tgt := 56) h dM_parent0_28 (by decide) (fun c_38 => ?_) (fun c_38 => ?_)
  · replace vc := vc.1 c_38
    refine sr_aload_n h dM_parent0_56 rfl 0 rfl ?_
    refine sr_get h inM rfl 11 (by decide) kw_465 dM_parent0_57 ho_2 hv_4 ?_
    refine sr_bipush (v := 16) h dM_parent0_60 (by decide) ?_
    refine sr_icmp_ne (tgt := 73) h dM_parent0_62 (by decide) (fun c_26 => ?_) (fun c_26 => ?_)
    · replace vc := vc.1 c_26
      refine sr_aload_n h dM_parent0_73 rfl 0 rfl ?_
      obtain ⟨r_5, hv_6, vc⟩ := vc
      refine sr_get h inM rfl 10 (by decide) kw_464 dM_parent0_74 ho_2 hv_6 ?_
      refine sr_aload_n h dM_parent0_77 rfl 0 rfl ?_
      refine sr_get h inM rfl 11 (by decide) kw_465 dM_parent0_78 ho_2 hv_4 ?_
      refine sr_iload_n h dM_parent0_81 rfl 3 rfl ?_
      obtain ⟨a_7, rfl, vc⟩ := vc
      obtain ⟨N_8, f_9, ho_10, vc⟩ := vc
      obtain ⟨j_11, hi_12, hj_13, vc⟩ := vc
      replace vc := vc _ rfl
      refine sr_iast h dM_parent0_82 ho_10 hi_12 hj_13 ?_
      refine sr_aload_n h dM_parent0_83 rfl 0 rfl ?_
      refine sr_dup h dM_parent0_84 (sp_c1r _) ?_
      obtain ⟨fs_15, ho_16, vc⟩ := vc
      obtain ⟨v_17, hv_18, vc⟩ := vc
      refine sr_get h inM rfl 11 (by decide) kw_465 dM_parent0_85 ho_16 hv_18 ?_
      refine sr_iconst (v := 1) h dM_parent0_88 (by decide) ?_
      refine sr_iadd h dM_parent0_89 ?_
      obtain ⟨hl_20, vc⟩ := vc
      replace vc := vc _ rfl
      refine sr_put h inM tyM tyM_ok nmM rfl 11 (by decide) kw_465 rfl dM_parent0_90 ho_16 rfl rfl hl_20 ?_
      refine sr_aload_n h dM_parent0_93 rfl 0 rfl ?_
      obtain ⟨fs_21, ho_22, vc⟩ := vc
      obtain ⟨v_23, hv_24, vc⟩ := vc
      refine sr_get h inM rfl 11 (by decide) kw_465 dM_parent0_94 ho_22 hv_24 ?_
      exact sr_iret h dM_parent0_97 hk.1 hk.2 vc
    · replace vc := vc.2 c_26
      obtain ⟨hc_25, vc⟩ := vc
      exact sr_throw0 (names := ["java/lang/RuntimeException", "java/lang/Exception"]) h (by decide +kernel) (by decide +kernel) kw_508 kw_41 ka_M_74 kg_M_74 dM_parent0_65 dM_parent0_68 dM_parent0_69 dM_parent0_72 (fun _ z => nomatch z) (Nat.le_of_ble_eq_true rfl) (Nat.le_of_ble_eq_true rfl) hc_25.1 hc_25.2 hc_25.1 hc_25.2 vc
  · replace vc := vc.2 c_38
    refine sr_aload_n h dM_parent0_31 rfl 0 rfl ?_
    obtain ⟨r_27, hv_28, vc⟩ := vc
    refine sr_get h inM rfl 10 (by decide) kw_464 dM_parent0_32 ho_2 hv_28 ?_
    refine sr_iload h dM_parent0_35 4 rfl ?_
    obtain ⟨a_29, rfl, vc⟩ := vc
    obtain ⟨N_30, f_31, ho_32, vc⟩ := vc
    obtain ⟨j_33, hi_34, hj_35, vc⟩ := vc
    refine sr_iald h dM_parent0_37 ho_32 hi_34 hj_35 ?_
    refine sr_iload_n h dM_parent0_38 rfl 3 rfl ?_
    refine sr_icmp_ne (tgt := 50) h dM_parent0_39 (by decide) (fun c_37 => ?_) (fun c_37 => ?_)
    · replace vc := vc.1 c_37
      refine sr_iinc (u := v4 + 1) (lv' := [(0, .ref a0), (1, .int v1), (2, .int v2), (3, .int v3), (4, .int (v4 + 1))]) h dM_parent0_50 4 rfl rfl (by decide) rfl ?_
      refine sr_goto (tgt := 22) h dM_parent0_53 (by decide) ?_
      exact vc
    · replace vc := vc.2 c_37
      obtain ⟨hc_36, vc⟩ := vc
      exact sr_throw0 (names := ["java/lang/RuntimeException", "java/lang/Exception"]) h (by decide +kernel) (by decide +kernel) kw_507 kw_40 ka_M_71 kg_M_71 dM_parent0_42 dM_parent0_45 dM_parent0_46 dM_parent0_49 (fun _ z => nomatch z) (Nat.le_of_ble_eq_true rfl) (Nat.le_of_ble_eq_true rfl) hc_36.1 hc_36.2 hc_36.1 hc_36.2 vc

abbrev cxM_find (κ : sp_K) (x : sp_X) (mc ms : Nat) : Prop := sp_C κ x cM_find 4 RM (some .int) [] "find" (sp_rm 1 22 mc ms)
set_option maxRecDepth 100000 in
set_option maxHeartbeats 4000000 in
theorem bkM_find_0 {κ : sp_K} {x : sp_X} {mc ms : Nat} {Rt : Option Value → sp_M → Prop} {Xt : String → sp_M → Prop} {μ : sp_M} {k n : Nat} {a0 : Nat} {v1 : Int32} {v2 : Int32} (h : cxM_find κ x mc ms) (hk : k ≤ mc ∧ n ≤ ms)
    (vc : (∃ mc_1 ms_2 : Nat, (k + mc_1 ≤ mc ∧ n + ms_2 ≤ ms) ∧ ∃ fs_6 : List Value, μ a0 = some (.inr (3, fs_6)) ∧ sp_m x.2.1 κ yM_slotOf wM_slotOf 0 0 mc_1 ms_2 [.ref a0, .int v1] μ (fun v_4 μ_5 => ∃ v_9 : Int32, v_4 = some (.int v_9) ∧ ((v_9 < 0 → Rt (some (.int (-1))) μ_5) ∧ (¬ v_9 < 0 → ((v2 < 0 → Rt (some (.int (-1))) μ_5) ∧ (¬ v2 < 0 → (∃ fs_10 : List Value, μ_5 a0 = some (.inr (3, fs_10)) ∧ ∃ r_12 : Option Nat, fs_10[1]? = some (va_rf r_12) ∧ (∃ a_14 : Nat, r_12 = some a_14 ∧ ∃ (N_15 : Nat) (f_16 : Nat → Int32), μ_5 a_14 = some (sp_ia κ N_15 f_16) ∧ ∃ j_18 : Nat, v_9 = nI j_18 ∧ j_18 < N_15 ∧ ((v2 < (f_16 j_18) → (∃ r_21 : Option Nat, fs_10[3]? = some (va_rf r_21) ∧ (∃ a_23 : Nat, r_21 = some a_23 ∧ ∃ (N_24 : Nat) (f_25 : Nat → Option Nat), μ_5 a_23 = some (sp_ra κ 5 N_24 f_25) ∧ ∃ j_27 : Nat, v_9 = nI j_27 ∧ j_27 < N_24 ∧ ∃ r_30 : Option Nat, f_25 j_27 = r_30 ∧ (∃ a_32 : Nat, r_30 = some a_32 ∧ ∃ (N_33 : Nat) (f_34 : Nat → Int32), μ_5 a_32 = some (sp_ia κ N_33 f_34) ∧ ∃ j_36 : Nat, v2 = nI j_36 ∧ j_36 < N_33 ∧ Rt (some (.int (f_34 j_36))) μ_5)))) ∧ (¬ v2 < (f_16 j_18) → Rt (some (.int (-1))) μ_5))))))))) (fun E_42 μ_5 => Xt E_42 μ_5))) : sp_w κ x (sp_F κ x Rt Xt mc ms) k n 0 [(0, .ref a0), (1, .int v1), (2, .int v2)] [] μ := by
  refine sr_aload_n h dM_find_0 rfl 0 rfl ?_
  refine sr_iload_n h dM_find_1 rfl 1 rfl ?_
  obtain ⟨mc_1, ms_2, hc_3, vc⟩ := vc
  obtain ⟨fs_6, ho_7, vc⟩ := vc
  refine sr_callV (y := yM_slotOf) (n0 := 1) (As := [.int v1]) h (sp_gV kw_517 kw_519 kw_14 kw_35 kw_520) rfl (by decide +kernel) ⟨Nat.le_of_ble_eq_true rfl, Nat.le_of_ble_eq_true rfl⟩ (ci := 3) rfl dM_find_2 rfl rfl (Nat.le_of_ble_eq_true rfl) hc_3 ho_7 vc (fun v_4 μ_5 vc' => ?_) (fun E_42 μ_5 vc' => ?_)
  · replace vc := vc'
    clear vc'
    obtain ⟨v_9, rfl, vc⟩ := vc
    refine sr_istore_n (lv' := [(0, .ref a0), (1, .int v1), (2, .int v2), (3, .int v_9)]) h dM_find_5 rfl (by decide) rfl ?_
    refine sr_iload_n h dM_find_6 rfl 3 rfl ?_
    refine sr_if_lt (tgt := 24) h dM_find_7 (by decide) (fun c_41 => ?_) (fun c_41 => ?_)
    · replace vc := vc.1 c_41
      refine sr_iconst (v := -1) h dM_find_24 (by decide) ?_
      exact sr_iret h dM_find_25 hc_3.1 hc_3.2 vc
    · replace vc := vc.2 c_41
      refine sr_iload_n h dM_find_10 rfl 2 rfl ?_
      refine sr_if_lt (tgt := 24) h dM_find_11 (by decide) (fun c_40 => ?_) (fun c_40 => ?_)
      · replace vc := vc.1 c_40
        refine sr_iconst (v := -1) h dM_find_24 (by decide) ?_
        exact sr_iret h dM_find_25 hc_3.1 hc_3.2 vc
      · replace vc := vc.2 c_40
        refine sr_iload_n h dM_find_14 rfl 2 rfl ?_
        refine sr_aload_n h dM_find_15 rfl 0 rfl ?_
        obtain ⟨fs_10, ho_11, vc⟩ := vc
        obtain ⟨r_12, hv_13, vc⟩ := vc
        refine sr_get h inM rfl 1 (by decide) kw_455 dM_find_16 ho_11 hv_13 ?_
        refine sr_iload_n h dM_find_19 rfl 3 rfl ?_
        obtain ⟨a_14, rfl, vc⟩ := vc
        obtain ⟨N_15, f_16, ho_17, vc⟩ := vc
        obtain ⟨j_18, hi_19, hj_20, vc⟩ := vc
        refine sr_iald h dM_find_20 ho_17 hi_19 hj_20 ?_
        refine sr_icmp_lt (tgt := 26) h dM_find_21 (by decide) (fun c_39 => ?_) (fun c_39 => ?_)
        · replace vc := vc.1 c_39
          refine sr_aload_n h dM_find_26 rfl 0 rfl ?_
          obtain ⟨r_21, hv_22, vc⟩ := vc
          refine sr_get h inM rfl 3 (by decide) kw_457 dM_find_27 ho_11 hv_22 ?_
          refine sr_iload_n h dM_find_30 rfl 3 rfl ?_
          obtain ⟨a_23, rfl, vc⟩ := vc
          obtain ⟨N_24, f_25, ho_26, vc⟩ := vc
          obtain ⟨j_27, hi_28, hj_29, vc⟩ := vc
          obtain ⟨r_30, hr_31, vc⟩ := vc
          refine sr_aaldA h dM_find_31 ho_26 hi_28 hj_29 hr_31 ?_
          refine sr_iload_n h dM_find_32 rfl 2 rfl ?_
          obtain ⟨a_32, rfl, vc⟩ := vc
          obtain ⟨N_33, f_34, ho_35, vc⟩ := vc
          obtain ⟨j_36, hi_37, hj_38, vc⟩ := vc
          refine sr_iald h dM_find_33 ho_35 hi_37 hj_38 ?_
          exact sr_iret h dM_find_34 hc_3.1 hc_3.2 vc
        · replace vc := vc.2 c_39
          refine sr_iconst (v := -1) h dM_find_24 (by decide) ?_
          exact sr_iret h dM_find_25 hc_3.1 hc_3.2 vc
  · replace vc := vc'
    clear vc'
    exact st_out h (fun _ z => nomatch z) hc_3.1 hc_3.2 vc

abbrev cxM_slotOf (κ : sp_K) (x : sp_X) (mc ms : Nat) : Prop := sp_C κ x cM_slotOf 3 RM (some .int) [] "slotOf" (sp_rm 0 0 mc ms)
set_option maxRecDepth 100000 in
set_option maxHeartbeats 4000000 in
theorem bkM_slotOf_0 {κ : sp_K} {x : sp_X} {mc ms : Nat} {Rt : Option Value → sp_M → Prop} {Xt : String → sp_M → Prop} {μ : sp_M} {k n : Nat} {a0 : Nat} {v1 : Int32} (h : cxM_slotOf κ x mc ms) (hk : k ≤ mc ∧ n ≤ ms)
    (vc : sp_w κ x (sp_F κ x Rt Xt mc ms) k n 2 [(0, .ref a0), (1, .int v1), (2, .int 0)] [] μ) : sp_w κ x (sp_F κ x Rt Xt mc ms) k n 0 [(0, .ref a0), (1, .int v1)] [] μ := by
  refine sr_iconst (v := 0) h dM_slotOf_0 (by decide) ?_
  refine sr_istore_n (lv' := [(0, .ref a0), (1, .int v1), (2, .int 0)]) h dM_slotOf_1 rfl (by decide) rfl ?_
  exact vc
set_option maxRecDepth 100000 in
set_option maxHeartbeats 4000000 in
theorem bkM_slotOf_2 {κ : sp_K} {x : sp_X} {mc ms : Nat} {Rt : Option Value → sp_M → Prop} {Xt : String → sp_M → Prop} {μ : sp_M} {k n : Nat} {a0 : Nat} {v1 : Int32} {v2 : Int32} (h : cxM_slotOf κ x mc ms) (hk : k ≤ mc ∧ n ≤ ms)
    (vc : (∃ fs_1 : List Value, μ a0 = some (.inr (3, fs_1)) ∧ ∃ v_3 : Int32, fs_1[2]? = some (.int v_3) ∧ ((v_3 ≤ v2 → Rt (some (.int (-1))) μ) ∧ (¬ v_3 ≤ v2 → (∃ r_5 : Option Nat, fs_1[0]? = some (va_rf r_5) ∧ (∃ a_7 : Nat, r_5 = some a_7 ∧ ∃ (N_8 : Nat) (f_9 : Nat → Int32), μ a_7 = some (sp_ia κ N_8 f_9) ∧ ∃ j_11 : Nat, v2 = nI j_11 ∧ j_11 < N_8 ∧ ((¬ (f_9 j_11) = v1 → sp_w κ x (sp_F κ x Rt Xt mc ms) k n 2 [(0, .ref a0), (1, .int v1), (2, .int (v2 + 1))] [] μ) ∧ ((f_9 j_11) = v1 → Rt (some (.int v2)) μ)))))))) : sp_w κ x (sp_F κ x Rt Xt mc ms) k n 2 [(0, .ref a0), (1, .int v1), (2, .int v2)] [] μ := by
  refine sr_iload_n h dM_slotOf_2 rfl 2 rfl ?_
  refine sr_aload_n h dM_slotOf_3 rfl 0 rfl ?_
  obtain ⟨fs_1, ho_2, vc⟩ := vc
  obtain ⟨v_3, hv_4, vc⟩ := vc
  refine sr_get h inM rfl 2 (by decide) kw_456 dM_slotOf_4 ho_2 hv_4 ?_
  refine sr_icmp_ge (tgt := 28) h dM_slotOf_7 (by decide) (fun c_15 => ?_) (fun c_15 => ?_)
  · replace vc := vc.1 c_15
    refine sr_iconst (v := -1) h dM_slotOf_28 (by decide) ?_
    exact sr_iret h dM_slotOf_29 hk.1 hk.2 vc
  · replace vc := vc.2 c_15
    refine sr_aload_n h dM_slotOf_10 rfl 0 rfl ?_
    obtain ⟨r_5, hv_6, vc⟩ := vc
    refine sr_get h inM rfl 0 (by decide) kw_454 dM_slotOf_11 ho_2 hv_6 ?_
    refine sr_iload_n h dM_slotOf_14 rfl 2 rfl ?_
    obtain ⟨a_7, rfl, vc⟩ := vc
    obtain ⟨N_8, f_9, ho_10, vc⟩ := vc
    obtain ⟨j_11, hi_12, hj_13, vc⟩ := vc
    refine sr_iald h dM_slotOf_15 ho_10 hi_12 hj_13 ?_
    refine sr_iload_n h dM_slotOf_16 rfl 1 rfl ?_
    refine sr_icmp_ne (tgt := 22) h dM_slotOf_17 (by decide) (fun c_14 => ?_) (fun c_14 => ?_)
    · replace vc := vc.1 c_14
      refine sr_iinc (u := v2 + 1) (lv' := [(0, .ref a0), (1, .int v1), (2, .int (v2 + 1))]) h dM_slotOf_22 2 rfl rfl (by decide) rfl ?_
      refine sr_goto (tgt := 2) h dM_slotOf_25 (by decide) ?_
      exact vc
    · replace vc := vc.2 c_14
      refine sr_iload_n h dM_slotOf_20 rfl 2 rfl ?_
      exact sr_iret h dM_slotOf_21 hk.1 hk.2 vc

abbrev cxM_there (κ : sp_K) (x : sp_X) (mc ms : Nat) : Prop := sp_C κ x cM_there 1 RM none [] "there" (sp_rm 6 90 mc ms)
set_option maxRecDepth 100000 in
set_option maxHeartbeats 4000000 in
theorem bkM_there_0 {κ : sp_K} {x : sp_X} {mc ms : Nat} {Rt : Option Value → sp_M → Prop} {Xt : String → sp_M → Prop} {μ : sp_M} {k n : Nat} {v0 : Int32} (h : cxM_there κ x mc ms) (hk : k ≤ mc ∧ n ≤ ms)
    (vc : ((¬ v0 = 0 → Rt none μ) ∧ (v0 = 0 → ((k + 1 ≤ mc ∧ n + 6 ≤ ms) ∧ Xt "java/util/NoSuchElementException" μ)))) : sp_w κ x (sp_F κ x Rt Xt mc ms) k n 0 [(0, .int v0)] [] μ := by
  refine sr_iload_n h dM_there_0 rfl 0 rfl ?_
  refine sr_if_ne (tgt := 12) h dM_there_1 (by decide) (fun c_2 => ?_) (fun c_2 => ?_)
  · replace vc := vc.1 c_2
    exact sr_vret h dM_there_12 hk.1 hk.2 vc
  · replace vc := vc.2 c_2
    obtain ⟨hc_1, vc⟩ := vc
    exact sr_throw0 (names := ["java/lang/RuntimeException", "java/lang/Exception"]) h (by decide +kernel) (by decide +kernel) kw_506 kw_39 ka_M_46 kg_M_46 dM_there_4 dM_there_7 dM_there_8 dM_there_11 (fun _ z => nomatch z) (Nat.le_of_ble_eq_true rfl) (Nat.le_of_ble_eq_true rfl) hc_1.1 hc_1.2 hc_1.1 hc_1.2 vc

abbrev cxM_heads (κ : sp_K) (x : sp_X) (mc ms : Nat) : Prop := sp_C κ x cM_heads 1 RM (some .int) [] "heads" (sp_rm 4 90 mc ms)
set_option maxRecDepth 100000 in
set_option maxHeartbeats 4000000 in
theorem bkM_heads_0 {κ : sp_K} {x : sp_X} {mc ms : Nat} {Rt : Option Value → sp_M → Prop} {Xt : String → sp_M → Prop} {μ : sp_M} {k n : Nat} {a0 : Nat} (h : cxM_heads κ x mc ms) (hk : k ≤ mc ∧ n ≤ ms)
    (vc : (∃ fs_1 : List Value, μ a0 = some (.inr (3, fs_1)) ∧ 13 < fs_1.length ∧ ∀ μ_3 : sp_M, μ_3 = va_up μ a0 (some (.inr (3, fs_1.set 13 (.int 0)))) → (∃ mc_5 ms_6 : Nat, (k + mc_5 ≤ mc ∧ n + ms_6 ≤ ms) ∧ ∃ fs_10 : List Value, μ_3 a0 = some (.inr (3, fs_10)) ∧ sp_m x.2.1 κ yM_heads0 wM_heads0 3 70 mc_5 ms_6 [.ref a0] μ_3 (fun v_8 μ_9 => ∃ v_13 : Int32, v_8 = some (.int v_13) ∧ Rt (some (.int v_13)) μ_9) (fun E_14 μ_9 => Xt E_14 μ_9)))) : sp_w κ x (sp_F κ x Rt Xt mc ms) k n 0 [(0, .ref a0)] [] μ := by
  refine sr_aload_n h dM_heads_0 rfl 0 rfl ?_
  refine sr_iconst (v := 0) h dM_heads_1 (by decide) ?_
  obtain ⟨fs_1, ho_2, vc⟩ := vc
  obtain ⟨hl_4, vc⟩ := vc
  replace vc := vc _ rfl
  refine sr_put h inM tyM tyM_ok nmM rfl 13 (by decide) kw_467 rfl dM_heads_2 ho_2 rfl rfl hl_4 ?_
  refine sr_aload_n h dM_heads_5 rfl 0 rfl ?_
  obtain ⟨mc_5, ms_6, hc_7, vc⟩ := vc
  obtain ⟨fs_10, ho_11, vc⟩ := vc
  refine sr_callV (y := yM_heads0) (n0 := 0) (As := []) h (sp_gV kw_531 kw_533 kw_15 kw_35 kw_534) rfl (by decide +kernel) ⟨Nat.le_of_ble_eq_true rfl, Nat.le_of_ble_eq_true rfl⟩ (ci := 3) rfl dM_heads_6 rfl rfl (Nat.le_of_ble_eq_true rfl) hc_7 ho_11 vc (fun v_8 μ_9 vc' => ?_) (fun E_14 μ_9 vc' => ?_)
  · replace vc := vc'
    clear vc'
    obtain ⟨v_13, rfl, vc⟩ := vc
    exact sr_iret h dM_heads_9 hc_7.1 hc_7.2 vc
  · replace vc := vc'
    clear vc'
    exact st_out h (fun _ z => nomatch z) hc_7.1 hc_7.2 vc

abbrev cxM_heads0 (κ : sp_K) (x : sp_X) (mc ms : Nat) : Prop := sp_C κ x cM_heads0 1 RM (some .int) [] "heads0" (sp_rm 3 70 mc ms)
set_option maxRecDepth 100000 in
set_option maxHeartbeats 4000000 in
theorem bkM_heads0_0 {κ : sp_K} {x : sp_X} {mc ms : Nat} {Rt : Option Value → sp_M → Prop} {Xt : String → sp_M → Prop} {μ : sp_M} {k n : Nat} {a0 : Nat} (h : cxM_heads0 κ x mc ms) (hk : k ≤ mc ∧ n ≤ ms)
    (vc : (∃ fs_1 : List Value, μ a0 = some (.inr (3, fs_1)) ∧ ∃ r_3 : Option Nat, fs_1[10]? = some (va_rf r_3) ∧ (∃ mc_5 ms_6 : Nat, (k + mc_5 ≤ mc ∧ n + ms_6 ≤ ms) ∧ sp_m x.2.1 κ yM_headsTo wM_headsTo 2 45 mc_5 ms_6 [.ref a0, va_rf r_3] μ (fun v_8 μ_9 => ∃ v_11 : Int32, v_8 = some (.int v_11) ∧ (∃ fs_12 : List Value, μ_9 a0 = some (.inr (3, fs_12)) ∧ 11 < fs_12.length ∧ ∀ μ_14 : sp_M, μ_14 = va_up μ_9 a0 (some (.inr (3, fs_12.set 11 (.int v_11)))) → (∃ fs_16 : List Value, μ_14 a0 = some (.inr (3, fs_16)) ∧ ∃ v_18 : Int32, fs_16[11]? = some (.int v_18) ∧ Rt (some (.int v_18)) μ_14))) (fun E_20 μ_9 => Xt E_20 μ_9)))) : sp_w κ x (sp_F κ x Rt Xt mc ms) k n 0 [(0, .ref a0)] [] μ := by
  refine sr_aload_n h dM_heads0_0 rfl 0 rfl ?_
  refine sr_aload_n h dM_heads0_1 rfl 0 rfl ?_
  refine sr_aload_n h dM_heads0_2 rfl 0 rfl ?_
  obtain ⟨fs_1, ho_2, vc⟩ := vc
  obtain ⟨r_3, hv_4, vc⟩ := vc
  refine sr_get h inM rfl 10 (by decide) kw_464 dM_heads0_3 ho_2 hv_4 ?_
  obtain ⟨mc_5, ms_6, hc_7, vc⟩ := vc
  refine sr_callV (y := yM_headsTo) (n0 := 1) (As := [va_rf r_3]) h (sp_gV kw_535 kw_537 kw_16 kw_35 kw_538) rfl (by decide +kernel) ⟨Nat.le_of_ble_eq_true rfl, Nat.le_of_ble_eq_true rfl⟩ (ci := 3) rfl dM_heads0_6 rfl rfl (Nat.le_of_ble_eq_true rfl) hc_7 ho_2 vc (fun v_8 μ_9 vc' => ?_) (fun E_20 μ_9 vc' => ?_)
  · replace vc := vc'
    clear vc'
    obtain ⟨v_11, rfl, vc⟩ := vc
    obtain ⟨fs_12, ho_13, vc⟩ := vc
    obtain ⟨hl_15, vc⟩ := vc
    replace vc := vc _ rfl
    refine sr_put h inM tyM tyM_ok nmM rfl 11 (by decide) kw_465 rfl dM_heads0_9 ho_13 rfl rfl hl_15 ?_
    refine sr_aload_n h dM_heads0_12 rfl 0 rfl ?_
    obtain ⟨fs_16, ho_17, vc⟩ := vc
    obtain ⟨v_18, hv_19, vc⟩ := vc
    refine sr_get h inM rfl 11 (by decide) kw_465 dM_heads0_13 ho_17 hv_19 ?_
    exact sr_iret h dM_heads0_16 hc_7.1 hc_7.2 vc
  · replace vc := vc'
    clear vc'
    exact st_out h (fun _ z => nomatch z) hc_7.1 hc_7.2 vc

abbrev cxM_headsTo (κ : sp_K) (x : sp_X) (mc ms : Nat) : Prop := sp_C κ x cM_headsTo 6 RM (some .int) [] "headsTo" (sp_rm 2 45 mc ms)
set_option maxRecDepth 100000 in
set_option maxHeartbeats 4000000 in
theorem bkM_headsTo_0 {κ : sp_K} {x : sp_X} {mc ms : Nat} {Rt : Option Value → sp_M → Prop} {Xt : String → sp_M → Prop} {μ : sp_M} {k n : Nat} {a0 : Nat} {a1 : Nat} (h : cxM_headsTo κ x mc ms) (hk : k ≤ mc ∧ n ≤ ms)
    (vc : sp_w κ x (sp_F κ x Rt Xt mc ms) k n 4 [(0, .ref a0), (1, .ref a1), (2, .int 0), (3, .int 0)] [] μ) : sp_w κ x (sp_F κ x Rt Xt mc ms) k n 0 [(0, .ref a0), (1, .ref a1)] [] μ := by
  refine sr_iconst (v := 0) h dM_headsTo_0 (by decide) ?_
  refine sr_istore_n (lv' := [(0, .ref a0), (1, .ref a1), (2, .int 0)]) h dM_headsTo_1 rfl (by decide) rfl ?_
  refine sr_iconst (v := 0) h dM_headsTo_2 (by decide) ?_
  refine sr_istore_n (lv' := [(0, .ref a0), (1, .ref a1), (2, .int 0), (3, .int 0)]) h dM_headsTo_3 rfl (by decide) rfl ?_
  exact vc
set_option maxRecDepth 100000 in
set_option maxHeartbeats 4000000 in
theorem bkM_headsTo_4 {κ : sp_K} {x : sp_X} {mc ms : Nat} {Rt : Option Value → sp_M → Prop} {Xt : String → sp_M → Prop} {μ : sp_M} {k n : Nat} {a0 : Nat} {a1 : Nat} {v2 : Int32} {v3 : Int32} (h : cxM_headsTo κ x mc ms) (hk : k ≤ mc ∧ n ≤ ms)
    (vc : ((256 ≤ v3 → Rt (some (.int v2)) μ) ∧ (¬ 256 ≤ v3 → (∃ mc_1 ms_2 : Nat, (k + mc_1 ≤ mc ∧ n + ms_2 ≤ ms) ∧ ∃ fs_6 : List Value, μ a0 = some (.inr (3, fs_6)) ∧ sp_m x.2.1 κ yM_slotOf wM_slotOf 0 0 mc_1 ms_2 [.ref a0, .int v3] μ (fun v_4 μ_5 => ∃ v_9 : Int32, v_4 = some (.int v_9) ∧ ((0 ≤ v_9 → (∃ fs_10 : List Value, μ_5 a0 = some (.inr (3, fs_10)) ∧ ∃ r_12 : Option Nat, fs_10[1]? = some (va_rf r_12) ∧ (∃ a_14 : Nat, r_12 = some a_14 ∧ ∃ (N_15 : Nat) (f_16 : Nat → Int32), μ_5 a_14 = some (sp_ia κ N_15 f_16) ∧ ∃ j_18 : Nat, v_9 = nI j_18 ∧ j_18 < N_15 ∧ (∃ mc_21 ms_22 : Nat, ((k + mc_1) + mc_21 ≤ mc ∧ (n + ms_2) + ms_22 ≤ ms) ∧ sp_m x.2.1 κ yM_find wM_find 1 22 mc_21 ms_22 [.ref a0, .int v3, .int ((f_16 j_18) - 1)] μ_5 (fun v_24 μ_25 => ∃ v_27 : Int32, v_24 = some (.int v_27) ∧ (∃ mc_28 ms_29 : Nat, ((k + mc_1 + mc_21) + mc_28 ≤ mc ∧ (n + ms_2 + ms_22) + ms_29 ≤ ms) ∧ ∃ fs_33 : List Value, μ_25 a0 = some (.inr (3, fs_33)) ∧ sp_m x.2.1 κ yM_isHead wM_isHead 1 22 mc_28 ms_29 [.ref a0, .int v_27] μ_25 (fun v_31 μ_32 => ∃ v_36 : Int32, v_31 = some (.int v_36) ∧ ((¬ v_36 = 0 → (∃ (N_37 : Nat) (f_38 : Nat → Int32), μ_32 a1 = some (sp_ia κ N_37 f_38) ∧ ∃ j_40 : Nat, v2 = nI j_40 ∧ j_40 < N_37 ∧ ∀ μ_43 : sp_M, μ_43 = va_up μ_32 a1 (some (sp_ia κ N_37 (upd f_38 j_40 v_27))) → sp_w κ x (sp_F κ x Rt Xt mc ms) (k + mc_1 + mc_21 + mc_28) (n + ms_2 + ms_22 + ms_29) 4 [(0, .ref a0), (1, .ref a1), (2, .int (v2 + 1)), (3, .int (v3 + 1))] [] μ_43)) ∧ (v_36 = 0 → sp_w κ x (sp_F κ x Rt Xt mc ms) (k + mc_1 + mc_21 + mc_28) (n + ms_2 + ms_22 + ms_29) 4 [(0, .ref a0), (1, .ref a1), (2, .int v2), (3, .int (v3 + 1))] [] μ_32))) (fun E_45 μ_32 => Xt E_45 μ_32))) (fun E_46 μ_25 => Xt E_46 μ_25))))) ∧ (¬ 0 ≤ v_9 → sp_w κ x (sp_F κ x Rt Xt mc ms) (k + mc_1) (n + ms_2) 4 [(0, .ref a0), (1, .ref a1), (2, .int v2), (3, .int (v3 + 1))] [] μ_5))) (fun E_48 μ_5 => Xt E_48 μ_5))))) : sp_w κ x (sp_F κ x Rt Xt mc ms) k n 4 [(0, .ref a0), (1, .ref a1), (2, .int v2), (3, .int v3)] [] μ := by
  refine sr_iload_n h dM_headsTo_4 rfl 3 rfl ?_
  refine sr_sipush (v := 256) h dM_headsTo_5 (by decide) ?_
  refine sr_icmp_ge (tgt := 68) h dM_headsTo_8 (by decide) (fun c_49 => ?_) (fun c_49 => ?_)
  · replace vc := vc.1 c_49
    refine sr_iload_n h dM_headsTo_68 rfl 2 rfl ?_
    exact sr_iret h dM_headsTo_69 hk.1 hk.2 vc
  · replace vc := vc.2 c_49
    refine sr_aload_n h dM_headsTo_11 rfl 0 rfl ?_
    refine sr_iload_n h dM_headsTo_12 rfl 3 rfl ?_
    obtain ⟨mc_1, ms_2, hc_3, vc⟩ := vc
    obtain ⟨fs_6, ho_7, vc⟩ := vc
    refine sr_callV (y := yM_slotOf) (n0 := 1) (As := [.int v3]) h (sp_gV kw_517 kw_519 kw_14 kw_35 kw_520) rfl (by decide +kernel) ⟨Nat.le_of_ble_eq_true rfl, Nat.le_of_ble_eq_true rfl⟩ (ci := 3) rfl dM_headsTo_13 rfl rfl (Nat.le_of_ble_eq_true rfl) hc_3 ho_7 vc (fun v_4 μ_5 vc' => ?_) (fun E_48 μ_5 vc' => ?_)
    · replace vc := vc'
      clear vc'
      obtain ⟨v_9, rfl, vc⟩ := vc
      refine sr_istore (lv' := [(0, .ref a0), (1, .ref a1), (2, .int v2), (3, .int v3), (4, .int v_9)]) h dM_headsTo_16 (by decide) rfl ?_
      refine sr_iload h dM_headsTo_18 4 rfl ?_
      refine sr_if_ge (tgt := 26) h dM_headsTo_20 (by decide) (fun c_47 => ?_) (fun c_47 => ?_)
      · replace vc := vc.1 c_47
        refine sr_aload_n h dM_headsTo_26 rfl 0 rfl ?_
        refine sr_iload_n h dM_headsTo_27 rfl 3 rfl ?_
        refine sr_aload_n h dM_headsTo_28 rfl 0 rfl ?_
        obtain ⟨fs_10, ho_11, vc⟩ := vc
        obtain ⟨r_12, hv_13, vc⟩ := vc
        refine sr_get h inM rfl 1 (by decide) kw_455 dM_headsTo_29 ho_11 hv_13 ?_
        refine sr_iload h dM_headsTo_32 4 rfl ?_
        obtain ⟨a_14, rfl, vc⟩ := vc
        obtain ⟨N_15, f_16, ho_17, vc⟩ := vc
        obtain ⟨j_18, hi_19, hj_20, vc⟩ := vc
        refine sr_iald h dM_headsTo_34 ho_17 hi_19 hj_20 ?_
        refine sr_iconst (v := 1) h dM_headsTo_35 (by decide) ?_
        refine sr_isub h dM_headsTo_36 ?_
        obtain ⟨mc_21, ms_22, hc_23, vc⟩ := vc
        refine sr_callV (y := yM_find) (n0 := 2) (As := [.int v3, .int ((f_16 j_18) - 1)]) h (sp_gV kw_513 kw_515 kw_13 kw_35 kw_516) rfl (by decide +kernel) ⟨Nat.le_of_ble_eq_true rfl, Nat.le_of_ble_eq_true rfl⟩ (ci := 3) rfl dM_headsTo_37 rfl rfl (Nat.le_of_ble_eq_true rfl) hc_23 ho_11 vc (fun v_24 μ_25 vc' => ?_) (fun E_46 μ_25 vc' => ?_)
        · replace vc := vc'
          clear vc'
          obtain ⟨v_27, rfl, vc⟩ := vc
          refine sr_istore (lv' := [(0, .ref a0), (1, .ref a1), (2, .int v2), (3, .int v3), (4, .int v_9), (5, .int v_27)]) h dM_headsTo_40 (by decide) rfl ?_
          refine sr_aload_n h dM_headsTo_42 rfl 0 rfl ?_
          refine sr_iload h dM_headsTo_43 5 rfl ?_
          obtain ⟨mc_28, ms_29, hc_30, vc⟩ := vc
          obtain ⟨fs_33, ho_34, vc⟩ := vc
          refine sr_callV (y := yM_isHead) (n0 := 1) (As := [.int v_27]) h (sp_gV kw_539 kw_541 kw_17 kw_35 kw_542) rfl (by decide +kernel) ⟨Nat.le_of_ble_eq_true rfl, Nat.le_of_ble_eq_true rfl⟩ (ci := 3) rfl dM_headsTo_45 rfl rfl (Nat.le_of_ble_eq_true rfl) hc_30 ho_34 vc (fun v_31 μ_32 vc' => ?_) (fun E_45 μ_32 vc' => ?_)
          · replace vc := vc'
            clear vc'
            obtain ⟨v_36, rfl, vc⟩ := vc
            refine sr_if_ne (tgt := 54) h dM_headsTo_48 (by decide) (fun c_44 => ?_) (fun c_44 => ?_)
            · replace vc := vc.1 c_44
              refine sr_aload_n h dM_headsTo_54 rfl 1 rfl ?_
              refine sr_iload_n h dM_headsTo_55 rfl 2 rfl ?_
              refine sr_iload h dM_headsTo_56 5 rfl ?_
              obtain ⟨N_37, f_38, ho_39, vc⟩ := vc
              obtain ⟨j_40, hi_41, hj_42, vc⟩ := vc
              replace vc := vc _ rfl
              refine sr_iast h dM_headsTo_58 ho_39 hi_41 hj_42 ?_
              refine sr_iinc (u := v2 + 1) (lv' := [(0, .ref a0), (1, .ref a1), (2, .int (v2 + 1)), (3, .int v3), (4, .int v_9), (5, .int v_27)]) h dM_headsTo_59 2 rfl rfl (by decide) rfl ?_
              refine sr_iinc (u := v3 + 1) (lv' := [(0, .ref a0), (1, .ref a1), (2, .int (v2 + 1)), (3, .int (v3 + 1)), (4, .int v_9), (5, .int v_27)]) h dM_headsTo_62 3 rfl rfl (by decide) rfl ?_
              refine sr_goto (tgt := 4) h dM_headsTo_65 (by decide) ?_
              exact sr_sub (lv' := [(0, .ref a0), (1, .ref a1), (2, .int (v2 + 1)), (3, .int (v3 + 1))]) [0, 1, 2, 3] rfl vc
            · replace vc := vc.2 c_44
              refine sr_goto (tgt := 62) h dM_headsTo_51 (by decide) ?_
              refine sr_iinc (u := v3 + 1) (lv' := [(0, .ref a0), (1, .ref a1), (2, .int v2), (3, .int (v3 + 1)), (4, .int v_9), (5, .int v_27)]) h dM_headsTo_62 3 rfl rfl (by decide) rfl ?_
              refine sr_goto (tgt := 4) h dM_headsTo_65 (by decide) ?_
              exact sr_sub (lv' := [(0, .ref a0), (1, .ref a1), (2, .int v2), (3, .int (v3 + 1))]) [0, 1, 2, 3] rfl vc
          · replace vc := vc'
            clear vc'
            exact st_out h (fun _ z => nomatch z) hc_30.1 hc_30.2 vc
        · replace vc := vc'
          clear vc'
          exact st_out h (fun _ z => nomatch z) hc_23.1 hc_23.2 vc
      · replace vc := vc.2 c_47
        refine sr_goto (tgt := 62) h dM_headsTo_23 (by decide) ?_
        refine sr_iinc (u := v3 + 1) (lv' := [(0, .ref a0), (1, .ref a1), (2, .int v2), (3, .int (v3 + 1)), (4, .int v_9)]) h dM_headsTo_62 3 rfl rfl (by decide) rfl ?_
        refine sr_goto (tgt := 4) h dM_headsTo_65 (by decide) ?_
        exact sr_sub (lv' := [(0, .ref a0), (1, .ref a1), (2, .int v2), (3, .int (v3 + 1))]) [0, 1, 2, 3] rfl vc
    · replace vc := vc'
      clear vc'
      exact st_out h (fun _ z => nomatch z) hc_3.1 hc_3.2 vc

abbrev cxM_isHead (κ : sp_K) (x : sp_X) (mc ms : Nat) : Prop := sp_C κ x cM_isHead 4 RM (some .boolean) [] "isHead" (sp_rm 1 22 mc ms)
set_option maxRecDepth 100000 in
set_option maxHeartbeats 4000000 in
theorem bkM_isHead_0 {κ : sp_K} {x : sp_X} {mc ms : Nat} {Rt : Option Value → sp_M → Prop} {Xt : String → sp_M → Prop} {μ : sp_M} {k n : Nat} {a0 : Nat} {v1 : Int32} (h : cxM_isHead κ x mc ms) (hk : k ≤ mc ∧ n ≤ ms)
    (vc : sp_w κ x (sp_F κ x Rt Xt mc ms) k n 2 [(0, .ref a0), (1, .int v1), (2, .int 0)] [] μ) : sp_w κ x (sp_F κ x Rt Xt mc ms) k n 0 [(0, .ref a0), (1, .int v1)] [] μ := by
  refine sr_iconst (v := 0) h dM_isHead_0 (by decide) ?_
  refine sr_istore_n (lv' := [(0, .ref a0), (1, .int v1), (2, .int 0)]) h dM_isHead_1 rfl (by decide) rfl ?_
  exact vc
set_option maxRecDepth 100000 in
set_option maxHeartbeats 4000000 in
theorem bkM_isHead_2 {κ : sp_K} {x : sp_X} {mc ms : Nat} {Rt : Option Value → sp_M → Prop} {Xt : String → sp_M → Prop} {μ : sp_M} {k n : Nat} {a0 : Nat} {v1 : Int32} {v2 : Int32} (h : cxM_isHead κ x mc ms) (hk : k ≤ mc ∧ n ≤ ms)
    (vc : (∃ fs_1 : List Value, μ a0 = some (.inr (3, fs_1)) ∧ ∃ v_3 : Int32, fs_1[2]? = some (.int v_3) ∧ ((v_3 ≤ v2 → Rt (some (.int 1)) μ) ∧ (¬ v_3 ≤ v2 → (∃ r_5 : Option Nat, fs_1[3]? = some (va_rf r_5) ∧ (∃ a_7 : Nat, r_5 = some a_7 ∧ ∃ (N_8 : Nat) (f_9 : Nat → Option Nat), μ a_7 = some (sp_ra κ 5 N_8 f_9) ∧ ∃ j_11 : Nat, v2 = nI j_11 ∧ j_11 < N_8 ∧ ∃ r_14 : Option Nat, f_9 j_11 = r_14 ∧ (∃ r_16 : Option Nat, fs_1[1]? = some (va_rf r_16) ∧ (∃ a_18 : Nat, r_16 = some a_18 ∧ ∃ (N_19 : Nat) (f_20 : Nat → Int32), μ a_18 = some (sp_ia κ N_19 f_20) ∧ ∃ j_22 : Nat, v2 = nI j_22 ∧ j_22 < N_19 ∧ (∃ a_25 : Nat, r_14 = some a_25 ∧ ∃ (N_26 : Nat) (f_27 : Nat → Int32), μ a_25 = some (sp_ia κ N_26 f_27) ∧ ∃ j_29 : Nat, (f_20 j_22) - 1 = nI j_29 ∧ j_29 < N_26 ∧ (((f_27 j_29) = v1 → sp_w κ x (sp_F κ x Rt Xt mc ms) k n 2 [(0, .ref a0), (1, .int v1), (2, .int (v2 + 1))] [] μ) ∧ (¬ (f_27 j_29) = v1 → (∃ mc_32 ms_33 : Nat, (k + mc_32 ≤ mc ∧ n + ms_33 ≤ ms) ∧ sp_m x.2.1 κ yM_isIn wM_isIn 0 0 mc_32 ms_33 [.ref a0, .int v1, .int (f_27 j_29)] μ (fun v_35 μ_36 => ∃ v_38 : Int32, v_35 = some (.int v_38) ∧ ((v_38 = 0 → sp_w κ x (sp_F κ x Rt Xt mc ms) (k + mc_32) (n + ms_33) 2 [(0, .ref a0), (1, .int v1), (2, .int (v2 + 1))] [] μ_36) ∧ (¬ v_38 = 0 → Rt (some (.int 0)) μ_36))) (fun E_40 μ_36 => Xt E_40 μ_36))))))))))))) : sp_w κ x (sp_F κ x Rt Xt mc ms) k n 2 [(0, .ref a0), (1, .int v1), (2, .int v2)] [] μ := by
  refine sr_iload_n h dM_isHead_2 rfl 2 rfl ?_
  refine sr_aload_n h dM_isHead_3 rfl 0 rfl ?_
  obtain ⟨fs_1, ho_2, vc⟩ := vc
  obtain ⟨v_3, hv_4, vc⟩ := vc
  refine sr_get h inM rfl 2 (by decide) kw_456 dM_isHead_4 ho_2 hv_4 ?_
  refine sr_icmp_ge (tgt := 48) h dM_isHead_7 (by decide) (fun c_42 => ?_) (fun c_42 => ?_)
  · replace vc := vc.1 c_42
    refine sr_iconst (v := 1) h dM_isHead_48 (by decide) ?_
    exact sr_zret h dM_isHead_49 rfl hk.1 hk.2 vc
  · replace vc := vc.2 c_42
    refine sr_aload_n h dM_isHead_10 rfl 0 rfl ?_
    obtain ⟨r_5, hv_6, vc⟩ := vc
    refine sr_get h inM rfl 3 (by decide) kw_457 dM_isHead_11 ho_2 hv_6 ?_
    refine sr_iload_n h dM_isHead_14 rfl 2 rfl ?_
    obtain ⟨a_7, rfl, vc⟩ := vc
    obtain ⟨N_8, f_9, ho_10, vc⟩ := vc
    obtain ⟨j_11, hi_12, hj_13, vc⟩ := vc
    obtain ⟨r_14, hr_15, vc⟩ := vc
    refine sr_aaldA h dM_isHead_15 ho_10 hi_12 hj_13 hr_15 ?_
    refine sr_aload_n h dM_isHead_16 rfl 0 rfl ?_
    obtain ⟨r_16, hv_17, vc⟩ := vc
    refine sr_get h inM rfl 1 (by decide) kw_455 dM_isHead_17 ho_2 hv_17 ?_
    refine sr_iload_n h dM_isHead_20 rfl 2 rfl ?_
    obtain ⟨a_18, rfl, vc⟩ := vc
    obtain ⟨N_19, f_20, ho_21, vc⟩ := vc
    obtain ⟨j_22, hi_23, hj_24, vc⟩ := vc
    refine sr_iald h dM_isHead_21 ho_21 hi_23 hj_24 ?_
    refine sr_iconst (v := 1) h dM_isHead_22 (by decide) ?_
    refine sr_isub h dM_isHead_23 ?_
    obtain ⟨a_25, rfl, vc⟩ := vc
    obtain ⟨N_26, f_27, ho_28, vc⟩ := vc
    obtain ⟨j_29, hi_30, hj_31, vc⟩ := vc
    refine sr_iald h dM_isHead_24 ho_28 hi_30 hj_31 ?_
    refine sr_istore_n (lv' := [(0, .ref a0), (1, .int v1), (2, .int v2), (3, .int (f_27 j_29))]) h dM_isHead_25 rfl (by decide) rfl ?_
    refine sr_iload_n h dM_isHead_26 rfl 3 rfl ?_
    refine sr_iload_n h dM_isHead_27 rfl 1 rfl ?_
    refine sr_icmp_eq (tgt := 42) h dM_isHead_28 (by decide) (fun c_41 => ?_) (fun c_41 => ?_)
    · replace vc := vc.1 c_41
      refine sr_iinc (u := v2 + 1) (lv' := [(0, .ref a0), (1, .int v1), (2, .int (v2 + 1)), (3, .int (f_27 j_29))]) h dM_isHead_42 2 rfl rfl (by decide) rfl ?_
      refine sr_goto (tgt := 2) h dM_isHead_45 (by decide) ?_
      exact sr_sub (lv' := [(0, .ref a0), (1, .int v1), (2, .int (v2 + 1))]) [0, 1, 2] rfl vc
    · replace vc := vc.2 c_41
      refine sr_aload_n h dM_isHead_31 rfl 0 rfl ?_
      refine sr_iload_n h dM_isHead_32 rfl 1 rfl ?_
      refine sr_iload_n h dM_isHead_33 rfl 3 rfl ?_
      obtain ⟨mc_32, ms_33, hc_34, vc⟩ := vc
      refine sr_callV (y := yM_isIn) (n0 := 2) (As := [.int v1, .int (f_27 j_29)]) h (sp_gV kw_543 kw_545 kw_18 kw_35 kw_546) rfl (by decide +kernel) ⟨Nat.le_of_ble_eq_true rfl, Nat.le_of_ble_eq_true rfl⟩ (ci := 3) rfl dM_isHead_34 rfl rfl (Nat.le_of_ble_eq_true rfl) hc_34 ho_2 vc (fun v_35 μ_36 vc' => ?_) (fun E_40 μ_36 vc' => ?_)
      · replace vc := vc'
        clear vc'
        obtain ⟨v_38, rfl, vc⟩ := vc
        refine sr_if_eq (tgt := 42) h dM_isHead_37 (by decide) (fun c_39 => ?_) (fun c_39 => ?_)
        · replace vc := vc.1 c_39
          refine sr_iinc (u := v2 + 1) (lv' := [(0, .ref a0), (1, .int v1), (2, .int (v2 + 1)), (3, .int (f_27 j_29))]) h dM_isHead_42 2 rfl rfl (by decide) rfl ?_
          refine sr_goto (tgt := 2) h dM_isHead_45 (by decide) ?_
          exact sr_sub (lv' := [(0, .ref a0), (1, .int v1), (2, .int (v2 + 1))]) [0, 1, 2] rfl vc
        · replace vc := vc.2 c_39
          refine sr_iconst (v := 0) h dM_isHead_40 (by decide) ?_
          exact sr_zret h dM_isHead_41 rfl hc_34.1 hc_34.2 vc
      · replace vc := vc'
        clear vc'
        exact st_out h (fun _ z => nomatch z) hc_34.1 hc_34.2 vc

abbrev cxM_isIn (κ : sp_K) (x : sp_X) (mc ms : Nat) : Prop := sp_C κ x cM_isIn 3 RM (some .boolean) [] "isIn" (sp_rm 0 0 mc ms)
set_option maxRecDepth 100000 in
set_option maxHeartbeats 4000000 in
theorem bkM_isIn_0 {κ : sp_K} {x : sp_X} {mc ms : Nat} {Rt : Option Value → sp_M → Prop} {Xt : String → sp_M → Prop} {μ : sp_M} {k n : Nat} {a0 : Nat} {v1 : Int32} {v2 : Int32} (h : cxM_isIn κ x mc ms) (hk : k ≤ mc ∧ n ≤ ms)
    (vc : (∃ fs_1 : List Value, μ a0 = some (.inr (3, fs_1)) ∧ ∃ r_3 : Option Nat, fs_1[5]? = some (va_rf r_3) ∧ (∃ a_5 : Nat, r_3 = some a_5 ∧ ∃ (N_6 : Nat) (f_7 : Nat → Int32), μ a_5 = some (sp_sa κ N_6 f_7) ∧ ∃ j_9 : Nat, v1 = nI j_9 ∧ j_9 < N_6 ∧ (∃ r_12 : Option Nat, fs_1[8]? = some (va_rf r_12) ∧ (∃ r_14 : Option Nat, fs_1[4]? = some (va_rf r_14) ∧ (∃ a_16 : Nat, r_14 = some a_16 ∧ ∃ (N_17 : Nat) (f_18 : Nat → Int32), μ a_16 = some (sp_sa κ N_17 f_18) ∧ ∃ j_20 : Nat, v1 = nI j_20 ∧ j_20 < N_17 ∧ (∃ a_23 : Nat, r_12 = some a_23 ∧ ∃ (N_24 : Nat) (f_25 : Nat → Int32), μ a_23 = some (sp_sa κ N_24 f_25) ∧ ∃ j_27 : Nat, (16 * v2) + (f_18 j_20) = nI j_27 ∧ j_27 < N_24 ∧ (((f_25 j_27) ≤ (f_7 j_9) → Rt (some (.int 0)) μ) ∧ (¬ (f_25 j_27) ≤ (f_7 j_9) → Rt (some (.int 1)) μ))))))))) : sp_w κ x (sp_F κ x Rt Xt mc ms) k n 0 [(0, .ref a0), (1, .int v1), (2, .int v2)] [] μ := by
  refine sr_aload_n h dM_isIn_0 rfl 0 rfl ?_
  obtain ⟨fs_1, ho_2, vc⟩ := vc
  obtain ⟨r_3, hv_4, vc⟩ := vc
  refine sr_get h inM rfl 5 (by decide) kw_459 dM_isIn_1 ho_2 hv_4 ?_
  refine sr_iload_n h dM_isIn_4 rfl 1 rfl ?_
  obtain ⟨a_5, rfl, vc⟩ := vc
  obtain ⟨N_6, f_7, ho_8, vc⟩ := vc
  obtain ⟨j_9, hi_10, hj_11, vc⟩ := vc
  refine sr_sald h dM_isIn_5 ho_8 hi_10 hj_11 ?_
  refine sr_aload_n h dM_isIn_6 rfl 0 rfl ?_
  obtain ⟨r_12, hv_13, vc⟩ := vc
  refine sr_get h inM rfl 8 (by decide) kw_462 dM_isIn_7 ho_2 hv_13 ?_
  refine sr_bipush (v := 16) h dM_isIn_10 (by decide) ?_
  refine sr_iload_n h dM_isIn_12 rfl 2 rfl ?_
  refine sr_imul h dM_isIn_13 ?_
  refine sr_aload_n h dM_isIn_14 rfl 0 rfl ?_
  obtain ⟨r_14, hv_15, vc⟩ := vc
  refine sr_get h inM rfl 4 (by decide) kw_458 dM_isIn_15 ho_2 hv_15 ?_
  refine sr_iload_n h dM_isIn_18 rfl 1 rfl ?_
  obtain ⟨a_16, rfl, vc⟩ := vc
  obtain ⟨N_17, f_18, ho_19, vc⟩ := vc
  obtain ⟨j_20, hi_21, hj_22, vc⟩ := vc
  refine sr_sald h dM_isIn_19 ho_19 hi_21 hj_22 ?_
  refine sr_iadd h dM_isIn_20 ?_
  obtain ⟨a_23, rfl, vc⟩ := vc
  obtain ⟨N_24, f_25, ho_26, vc⟩ := vc
  obtain ⟨j_27, hi_28, hj_29, vc⟩ := vc
  refine sr_sald h dM_isIn_21 ho_26 hi_28 hj_29 ?_
  refine sr_icmp_ge (tgt := 29) h dM_isIn_22 (by decide) (fun c_30 => ?_) (fun c_30 => ?_)
  · replace vc := vc.1 c_30
    refine sr_iconst (v := 0) h dM_isIn_29 (by decide) ?_
    exact sr_zret h dM_isIn_30 rfl hk.1 hk.2 vc
  · replace vc := vc.2 c_30
    refine sr_iconst (v := 1) h dM_isIn_25 (by decide) ?_
    refine sr_goto (tgt := 30) h dM_isIn_26 (by decide) ?_
    exact sr_zret h dM_isIn_30 rfl hk.1 hk.2 vc

abbrev cxM_add (κ : sp_K) (x : sp_X) (mc ms : Nat) : Prop := sp_C κ x cM_add 4 RM (some .int) (tableOf hhM_add) "add" (sp_rm 7 116 mc ms)
set_option maxRecDepth 100000 in
set_option maxHeartbeats 4000000 in
theorem bkM_add_0 {κ : sp_K} {x : sp_X} {mc ms : Nat} {Rt : Option Value → sp_M → Prop} {Xt : String → sp_M → Prop} {μ : sp_M} {k n : Nat} {a0 : Nat} {v1 : Int32} {v2 : Int32} (h : cxM_add κ x mc ms) (hk : k ≤ mc ∧ n ≤ ms)
    (vc : (∃ fs_1 : List Value, μ a0 = some (.inr (3, fs_1)) ∧ 13 < fs_1.length ∧ ∀ μ_3 : sp_M, μ_3 = va_up μ a0 (some (.inr (3, fs_1.set 13 (.int 0)))) → (∃ mc_5 ms_6 : Nat, (k + mc_5 ≤ mc ∧ n + ms_6 ≤ ms) ∧ ∃ fs_10 : List Value, μ_3 a0 = some (.inr (3, fs_10)) ∧ sp_m x.2.1 κ yM_add0 wM_add0 6 90 mc_5 ms_6 [.ref a0, .int v1, .int v2] μ_3 (fun v_8 μ_9 => ∃ v_13 : Int32, v_8 = some (.int v_13) ∧ Rt (some (.int v_13)) μ_9) (fun E_14 μ_9 => ((E_14 = "java/lang/IllegalArgumentException" ∧ ∀ q_15 : Nat, (∃ fs_16 : List Value, μ_9 a0 = some (.inr (3, fs_16)) ∧ 13 < fs_16.length ∧ ∀ μ_18 : sp_M, μ_18 = va_up μ_9 a0 (some (.inr (3, fs_16.set 13 (.int 1)))) → Rt (some (.int 0)) μ_18)) ∨ (E_14 = "java/lang/UnsupportedOperationException" ∧ ∀ q_20 : Nat, (∃ fs_21 : List Value, μ_9 a0 = some (.inr (3, fs_21)) ∧ 13 < fs_21.length ∧ ∀ μ_23 : sp_M, μ_23 = va_up μ_9 a0 (some (.inr (3, fs_21.set 13 (.int 2)))) → Rt (some (.int 0)) μ_23)) ∨ (E_14 = "java/lang/IllegalStateException" ∧ ∀ q_25 : Nat, (∃ fs_26 : List Value, μ_9 a0 = some (.inr (3, fs_26)) ∧ 13 < fs_26.length ∧ ∀ μ_28 : sp_M, μ_28 = va_up μ_9 a0 (some (.inr (3, fs_26.set 13 (.int 3)))) → Rt (some (.int 0)) μ_28))))))) : sp_w κ x (sp_F κ x Rt Xt mc ms) k n 0 [(0, .ref a0), (1, .int v1), (2, .int v2)] [] μ := by
  refine sr_aload_n h dM_add_0 rfl 0 rfl ?_
  refine sr_iconst (v := 0) h dM_add_1 (by decide) ?_
  obtain ⟨fs_1, ho_2, vc⟩ := vc
  obtain ⟨hl_4, vc⟩ := vc
  replace vc := vc _ rfl
  refine sr_put h inM tyM tyM_ok nmM rfl 13 (by decide) kw_467 rfl dM_add_2 ho_2 rfl rfl hl_4 ?_
  refine sr_aload_n h dM_add_5 rfl 0 rfl ?_
  refine sr_iload_n h dM_add_6 rfl 1 rfl ?_
  refine sr_iload_n h dM_add_7 rfl 2 rfl ?_
  obtain ⟨mc_5, ms_6, hc_7, vc⟩ := vc
  obtain ⟨fs_10, ho_11, vc⟩ := vc
  refine sr_callV (y := yM_add0) (n0 := 2) (As := [.int v1, .int v2]) h (sp_gV kw_552 kw_554 kw_19 kw_35 kw_555) rfl (by decide +kernel) ⟨Nat.le_of_ble_eq_true rfl, Nat.le_of_ble_eq_true rfl⟩ (ci := 3) rfl dM_add_8 rfl rfl (Nat.le_of_ble_eq_true rfl) hc_7 ho_11 vc (fun v_8 μ_9 vc' => ?_) (fun E_14 μ_9 vc' => ?_)
  · replace vc := vc'
    clear vc'
    obtain ⟨v_13, rfl, vc⟩ := vc
    exact sr_iret h dM_add_11 hc_7.1 hc_7.2 vc
  · replace vc := vc'
    clear vc'
    rcases vc with ⟨rfl, vc⟩ | ⟨rfl, vc⟩ | ⟨rfl, vc⟩
    · refine st_catch h [] ({ startPc := 5, endPc := 11, handlerPc := 12, catchType := 87 }) [{ startPc := 5, endPc := 11, handlerPc := 21, catchType := 69 }, { startPc := 5, endPc := 11, handlerPc := 30, catchType := 72 }] rfl (fun _ z => nomatch z) (by decide) (by decide) (name := "java/lang/IllegalArgumentException") kw_551 kt_249 (fun q_15 => ?_)
      replace vc := vc q_15
      refine sr_astore_n (lv' := [(0, .ref a0), (1, .int v1), (2, .int v2), (3, .ref q_15)]) h dM_add_12 rfl (by decide) rfl ?_
      refine sr_aload_n h dM_add_13 rfl 0 rfl ?_
      refine sr_iconst (v := 1) h dM_add_14 (by decide) ?_
      obtain ⟨fs_16, ho_17, vc⟩ := vc
      obtain ⟨hl_19, vc⟩ := vc
      replace vc := vc _ rfl
      refine sr_put h inM tyM tyM_ok nmM rfl 13 (by decide) kw_467 rfl dM_add_15 ho_17 rfl rfl hl_19 ?_
      refine sr_goto (tgt := 36) h dM_add_18 (by decide) ?_
      refine sr_iconst (v := 0) h dM_add_36 (by decide) ?_
      exact sr_iret h dM_add_37 hc_7.1 hc_7.2 vc
    · refine st_catch h [{ startPc := 5, endPc := 11, handlerPc := 12, catchType := 87 }] ({ startPc := 5, endPc := 11, handlerPc := 21, catchType := 69 }) [{ startPc := 5, endPc := 11, handlerPc := 30, catchType := 72 }] rfl (fun w hw => by simp only [List.mem_cons, List.not_mem_nil, or_false] at hw; subst hw; exact Or.inr ⟨by decide, "java/lang/IllegalArgumentException", kw_551, by decide +kernel⟩) (by decide) (by decide) (name := "java/lang/UnsupportedOperationException") kw_507 kt_211 (fun q_20 => ?_)
      replace vc := vc q_20
      refine sr_astore_n (lv' := [(0, .ref a0), (1, .int v1), (2, .int v2), (3, .ref q_20)]) h dM_add_21 rfl (by decide) rfl ?_
      refine sr_aload_n h dM_add_22 rfl 0 rfl ?_
      refine sr_iconst (v := 2) h dM_add_23 (by decide) ?_
      obtain ⟨fs_21, ho_22, vc⟩ := vc
      obtain ⟨hl_24, vc⟩ := vc
      replace vc := vc _ rfl
      refine sr_put h inM tyM tyM_ok nmM rfl 13 (by decide) kw_467 rfl dM_add_24 ho_22 rfl rfl hl_24 ?_
      refine sr_goto (tgt := 36) h dM_add_27 (by decide) ?_
      refine sr_iconst (v := 0) h dM_add_36 (by decide) ?_
      exact sr_iret h dM_add_37 hc_7.1 hc_7.2 vc
    · refine st_catch h [{ startPc := 5, endPc := 11, handlerPc := 12, catchType := 87 }, { startPc := 5, endPc := 11, handlerPc := 21, catchType := 69 }] ({ startPc := 5, endPc := 11, handlerPc := 30, catchType := 72 }) [] rfl (fun w hw => by simp only [List.mem_cons, List.not_mem_nil, or_false] at hw; rcases hw with rfl | rfl <;> first | exact Or.inr ⟨by decide, "java/lang/IllegalArgumentException", kw_551, by decide +kernel⟩ | exact Or.inr ⟨by decide, "java/lang/UnsupportedOperationException", kw_507, by decide +kernel⟩) (by decide) (by decide) (name := "java/lang/IllegalStateException") kw_508 kt_226 (fun q_25 => ?_)
      replace vc := vc q_25
      refine sr_astore_n (lv' := [(0, .ref a0), (1, .int v1), (2, .int v2), (3, .ref q_25)]) h dM_add_30 rfl (by decide) rfl ?_
      refine sr_aload_n h dM_add_31 rfl 0 rfl ?_
      refine sr_iconst (v := 3) h dM_add_32 (by decide) ?_
      obtain ⟨fs_26, ho_27, vc⟩ := vc
      obtain ⟨hl_29, vc⟩ := vc
      replace vc := vc _ rfl
      refine sr_put h inM tyM tyM_ok nmM rfl 13 (by decide) kw_467 rfl dM_add_33 ho_27 rfl rfl hl_29 ?_
      refine sr_iconst (v := 0) h dM_add_36 (by decide) ?_
      exact sr_iret h dM_add_37 hc_7.1 hc_7.2 vc

abbrev cxM_add0 (κ : sp_K) (x : sp_X) (mc ms : Nat) : Prop := sp_C κ x cM_add0 7 RM (some .int) [] "add0" (sp_rm 6 90 mc ms)
set_option maxRecDepth 100000 in
set_option maxHeartbeats 4000000 in
theorem bkM_add0_0 {κ : sp_K} {x : sp_X} {mc ms : Nat} {Rt : Option Value → sp_M → Prop} {Xt : String → sp_M → Prop} {μ : sp_M} {k n : Nat} {a0 : Nat} {v1 : Int32} {v2 : Int32} (h : cxM_add0 κ x mc ms) (hk : k ≤ mc ∧ n ≤ ms)
    (vc : ((v1 < 0 → ((k + 1 ≤ mc ∧ n + 6 ≤ ms) ∧ Xt "java/lang/IllegalArgumentException" μ)) ∧ (¬ v1 < 0 → ((255 < v1 → ((k + 1 ≤ mc ∧ n + 6 ≤ ms) ∧ Xt "java/lang/IllegalArgumentException" μ)) ∧ (¬ 255 < v1 → ((v2 < 1 → ((k + 1 ≤ mc ∧ n + 6 ≤ ms) ∧ Xt "java/lang/IllegalArgumentException" μ)) ∧ (¬ v2 < 1 → ((v2 ≤ 2000 → (∃ fs_4 : List Value, μ a0 = some (.inr (3, fs_4)) ∧ ∃ v_6 : Int32, fs_4[11]? = some (.int v_6) ∧ (∃ mc_8 ms_9 : Nat, (k + mc_8 ≤ mc ∧ n + ms_9 ≤ ms) ∧ sp_m x.2.1 κ yM_slotOf wM_slotOf 0 0 mc_8 ms_9 [.ref a0, .int v1] μ (fun v_11 μ_12 => ∃ v_14 : Int32, v_11 = some (.int v_14) ∧ (∃ fs_15 : List Value, μ_12 a0 = some (.inr (3, fs_15)) ∧ 11 < fs_15.length ∧ ∀ μ_17 : sp_M, μ_17 = va_up μ_12 a0 (some (.inr (3, fs_15.set 11 (.int 0)))) → sp_w κ x (sp_F κ x Rt Xt mc ms) (k + mc_8) (n + ms_9) 51 [(0, .ref a0), (1, .int v1), (2, .int v2), (3, .int v_6), (4, .int v_14), (5, .int 0)] [] μ_17)) (fun E_19 μ_12 => Xt E_19 μ_12)))) ∧ (¬ v2 ≤ 2000 → ((k + 1 ≤ mc ∧ n + 6 ≤ ms) ∧ Xt "java/lang/IllegalArgumentException" μ)))))))))) : sp_w κ x (sp_F κ x Rt Xt mc ms) k n 0 [(0, .ref a0), (1, .int v1), (2, .int v2)] [] μ := by
  refine sr_iload_n h dM_add0_0 rfl 1 rfl ?_
  refine sr_if_lt (tgt := 23) h dM_add0_1 (by decide) (fun c_24 => ?_) (fun c_24 => ?_)
  · replace vc := vc.1 c_24
    obtain ⟨hc_1, vc⟩ := vc
    exact sr_throw0 (names := ["java/lang/RuntimeException", "java/lang/Exception"]) h (by decide +kernel) (by decide +kernel) kw_551 kw_42 ka_M_89 kg_M_89 dM_add0_23 dM_add0_26 dM_add0_27 dM_add0_30 (fun _ z => nomatch z) (Nat.le_of_ble_eq_true rfl) (Nat.le_of_ble_eq_true rfl) hc_1.1 hc_1.2 hc_1.1 hc_1.2 vc
  · replace vc := vc.2 c_24
    refine sr_iload_n h dM_add0_4 rfl 1 rfl ?_
    refine sr_sipush (v := 255) h dM_add0_5 (by decide) ?_
    refine sr_icmp_gt (tgt := 23) h dM_add0_8 (by decide) (fun c_23 => ?_) (fun c_23 => ?_)
    · replace vc := vc.1 c_23
      obtain ⟨hc_2, vc⟩ := vc
      exact sr_throw0 (names := ["java/lang/RuntimeException", "java/lang/Exception"]) h (by decide +kernel) (by decide +kernel) kw_551 kw_42 ka_M_89 kg_M_89 dM_add0_23 dM_add0_26 dM_add0_27 dM_add0_30 (fun _ z => nomatch z) (Nat.le_of_ble_eq_true rfl) (Nat.le_of_ble_eq_true rfl) hc_2.1 hc_2.2 hc_2.1 hc_2.2 vc
    · replace vc := vc.2 c_23
      refine sr_iload_n h dM_add0_11 rfl 2 rfl ?_
      refine sr_iconst (v := 1) h dM_add0_12 (by decide) ?_
      refine sr_icmp_lt (tgt := 23) h dM_add0_13 (by decide) (fun c_22 => ?_) (fun c_22 => ?_)
      · replace vc := vc.1 c_22
        obtain ⟨hc_3, vc⟩ := vc
        exact sr_throw0 (names := ["java/lang/RuntimeException", "java/lang/Exception"]) h (by decide +kernel) (by decide +kernel) kw_551 kw_42 ka_M_89 kg_M_89 dM_add0_23 dM_add0_26 dM_add0_27 dM_add0_30 (fun _ z => nomatch z) (Nat.le_of_ble_eq_true rfl) (Nat.le_of_ble_eq_true rfl) hc_3.1 hc_3.2 hc_3.1 hc_3.2 vc
      · replace vc := vc.2 c_22
        refine sr_iload_n h dM_add0_16 rfl 2 rfl ?_
        refine sr_sipush (v := 2000) h dM_add0_17 (by decide) ?_
        refine sr_icmp_le (tgt := 31) h dM_add0_20 (by decide) (fun c_21 => ?_) (fun c_21 => ?_)
        · replace vc := vc.1 c_21
          refine sr_aload_n h dM_add0_31 rfl 0 rfl ?_
          obtain ⟨fs_4, ho_5, vc⟩ := vc
          obtain ⟨v_6, hv_7, vc⟩ := vc
          refine sr_get h inM rfl 11 (by decide) kw_465 dM_add0_32 ho_5 hv_7 ?_
          refine sr_istore_n (lv' := [(0, .ref a0), (1, .int v1), (2, .int v2), (3, .int v_6)]) h dM_add0_35 rfl (by decide) rfl ?_
          refine sr_aload_n h dM_add0_36 rfl 0 rfl ?_
          refine sr_iload_n h dM_add0_37 rfl 1 rfl ?_
          obtain ⟨mc_8, ms_9, hc_10, vc⟩ := vc
          refine sr_callV (y := yM_slotOf) (n0 := 1) (As := [.int v1]) h (sp_gV kw_517 kw_519 kw_14 kw_35 kw_520) rfl (by decide +kernel) ⟨Nat.le_of_ble_eq_true rfl, Nat.le_of_ble_eq_true rfl⟩ (ci := 3) rfl dM_add0_38 rfl rfl (Nat.le_of_ble_eq_true rfl) hc_10 ho_5 vc (fun v_11 μ_12 vc' => ?_) (fun E_19 μ_12 vc' => ?_)
          · replace vc := vc'
            clear vc'
            obtain ⟨v_14, rfl, vc⟩ := vc
            refine sr_istore (lv' := [(0, .ref a0), (1, .int v1), (2, .int v2), (3, .int v_6), (4, .int v_14)]) h dM_add0_41 (by decide) rfl ?_
            refine sr_aload_n h dM_add0_43 rfl 0 rfl ?_
            refine sr_iconst (v := 0) h dM_add0_44 (by decide) ?_
            obtain ⟨fs_15, ho_16, vc⟩ := vc
            obtain ⟨hl_18, vc⟩ := vc
            replace vc := vc _ rfl
            refine sr_put h inM tyM tyM_ok nmM rfl 11 (by decide) kw_465 rfl dM_add0_45 ho_16 rfl rfl hl_18 ?_
            refine sr_iconst (v := 0) h dM_add0_48 (by decide) ?_
            refine sr_istore (lv' := [(0, .ref a0), (1, .int v1), (2, .int v2), (3, .int v_6), (4, .int v_14), (5, .int 0)]) h dM_add0_49 (by decide) rfl ?_
            exact vc
          · replace vc := vc'
            clear vc'
            exact st_out h (fun _ z => nomatch z) hc_10.1 hc_10.2 vc
        · replace vc := vc.2 c_21
          obtain ⟨hc_20, vc⟩ := vc
          exact sr_throw0 (names := ["java/lang/RuntimeException", "java/lang/Exception"]) h (by decide +kernel) (by decide +kernel) kw_551 kw_42 ka_M_89 kg_M_89 dM_add0_23 dM_add0_26 dM_add0_27 dM_add0_30 (fun _ z => nomatch z) (Nat.le_of_ble_eq_true rfl) (Nat.le_of_ble_eq_true rfl) hc_20.1 hc_20.2 hc_20.1 hc_20.2 vc
set_option maxRecDepth 100000 in
set_option maxHeartbeats 4000000 in
theorem bkM_add0_51 {κ : sp_K} {x : sp_X} {mc ms : Nat} {Rt : Option Value → sp_M → Prop} {Xt : String → sp_M → Prop} {μ : sp_M} {k n : Nat} {a0 : Nat} {v1 : Int32} {v2 : Int32} {v3 : Int32} {v4 : Int32} {v5 : Int32} (h : cxM_add0 κ x mc ms) (hk : k ≤ mc ∧ n ≤ ms)
    (vc : ((v3 ≤ v5 → ((0 ≤ v4 → sp_w κ x (sp_F κ x Rt Xt mc ms) k n 129 [(0, .ref a0), (1, .int v1), (2, .int v2), (3, .int v3), (4, .int v4), (5, .int 0), (6, .int 0)] [] μ) ∧ (¬ 0 ≤ v4 → sp_w κ x (sp_F κ x Rt Xt mc ms) k n 129 [(0, .ref a0), (1, .int v1), (2, .int v2), (3, .int v3), (4, .int v4), (5, .int 1), (6, .int 0)] [] μ))) ∧ (¬ v3 ≤ v5 → sp_w κ x (sp_F κ x Rt Xt mc ms) k n 60 [(0, .ref a0), (1, .int v1), (2, .int v2), (3, .int v3), (4, .int v4), (5, .int v5), (6, .int 0)] [] μ))) : sp_w κ x (sp_F κ x Rt Xt mc ms) k n 51 [(0, .ref a0), (1, .int v1), (2, .int v2), (3, .int v3), (4, .int v4), (5, .int v5)] [] μ := by
  refine sr_iload h dM_add0_51 5 rfl ?_
  refine sr_iload_n h dM_add0_53 rfl 3 rfl ?_
  refine sr_icmp_ge (tgt := 114) h dM_add0_54 (by decide) (fun c_2 => ?_) (fun c_2 => ?_)
  · replace vc := vc.1 c_2
    refine sr_iload h dM_add0_114 4 rfl ?_
    refine sr_if_ge (tgt := 123) h dM_add0_116 (by decide) (fun c_1 => ?_) (fun c_1 => ?_)
    · replace vc := vc.1 c_1
      refine sr_iconst (v := 0) h dM_add0_123 (by decide) ?_
      refine sr_istore (lv' := [(0, .ref a0), (1, .int v1), (2, .int v2), (3, .int v3), (4, .int v4), (5, .int 0)]) h dM_add0_124 (by decide) rfl ?_
      refine sr_iconst (v := 0) h dM_add0_126 (by decide) ?_
      refine sr_istore (lv' := [(0, .ref a0), (1, .int v1), (2, .int v2), (3, .int v3), (4, .int v4), (5, .int 0), (6, .int 0)]) h dM_add0_127 (by decide) rfl ?_
      exact vc
    · replace vc := vc.2 c_1
      refine sr_iconst (v := 1) h dM_add0_119 (by decide) ?_
      refine sr_goto (tgt := 124) h dM_add0_120 (by decide) ?_
      refine sr_istore (lv' := [(0, .ref a0), (1, .int v1), (2, .int v2), (3, .int v3), (4, .int v4), (5, .int 1)]) h dM_add0_124 (by decide) rfl ?_
      refine sr_iconst (v := 0) h dM_add0_126 (by decide) ?_
      refine sr_istore (lv' := [(0, .ref a0), (1, .int v1), (2, .int v2), (3, .int v3), (4, .int v4), (5, .int 1), (6, .int 0)]) h dM_add0_127 (by decide) rfl ?_
      exact vc
  · replace vc := vc.2 c_2
    refine sr_iconst (v := 0) h dM_add0_57 (by decide) ?_
    refine sr_istore (lv' := [(0, .ref a0), (1, .int v1), (2, .int v2), (3, .int v3), (4, .int v4), (5, .int v5), (6, .int 0)]) h dM_add0_58 (by decide) rfl ?_
    exact vc
set_option maxRecDepth 100000 in
set_option maxHeartbeats 4000000 in
theorem bkM_add0_60 {κ : sp_K} {x : sp_X} {mc ms : Nat} {Rt : Option Value → sp_M → Prop} {Xt : String → sp_M → Prop} {μ : sp_M} {k n : Nat} {a0 : Nat} {v1 : Int32} {v2 : Int32} {v3 : Int32} {v4 : Int32} {v5 : Int32} {v6 : Int32} (h : cxM_add0 κ x mc ms) (hk : k ≤ mc ∧ n ≤ ms)
    (vc : ((v3 ≤ v6 → sp_w κ x (sp_F κ x Rt Xt mc ms) k n 51 [(0, .ref a0), (1, .int v1), (2, .int v2), (3, .int v3), (4, .int v4), (5, .int (v5 + 1))] [] μ) ∧ (¬ v3 ≤ v6 → ((v5 = v6 → sp_w κ x (sp_F κ x Rt Xt mc ms) k n 60 [(0, .ref a0), (1, .int v1), (2, .int v2), (3, .int v3), (4, .int v4), (5, .int v5), (6, .int (v6 + 1))] [] μ) ∧ (¬ v5 = v6 → (∃ fs_1 : List Value, μ a0 = some (.inr (3, fs_1)) ∧ ∃ r_3 : Option Nat, fs_1[10]? = some (va_rf r_3) ∧ (∃ a_5 : Nat, r_3 = some a_5 ∧ ∃ (N_6 : Nat) (f_7 : Nat → Int32), μ a_5 = some (sp_ia κ N_6 f_7) ∧ ∃ j_9 : Nat, v5 = nI j_9 ∧ j_9 < N_6 ∧ ((∃ j_12 : Nat, v6 = nI j_12 ∧ j_12 < N_6 ∧ (∃ mc_15 ms_16 : Nat, (k + mc_15 ≤ mc ∧ n + ms_16 ≤ ms) ∧ sp_m x.2.1 κ yM_isIn wM_isIn 0 0 mc_15 ms_16 [.ref a0, .int (f_7 j_9), .int (f_7 j_12)] μ (fun v_18 μ_19 => ∃ v_21 : Int32, v_18 = some (.int v_21) ∧ ((v_21 = 0 → sp_w κ x (sp_F κ x Rt Xt mc ms) (k + mc_15) (n + ms_16) 60 [(0, .ref a0), (1, .int v1), (2, .int v2), (3, .int v3), (4, .int v4), (5, .int v5), (6, .int (v6 + 1))] [] μ_19) ∧ (¬ v_21 = 0 → (((k + mc_15) + 1 ≤ mc ∧ (n + ms_16) + 6 ≤ ms) ∧ Xt "java/lang/UnsupportedOperationException" μ_19)))) (fun E_24 μ_19 => Xt E_24 μ_19))))))))))) : sp_w κ x (sp_F κ x Rt Xt mc ms) k n 60 [(0, .ref a0), (1, .int v1), (2, .int v2), (3, .int v3), (4, .int v4), (5, .int v5), (6, .int v6)] [] μ := by
  refine sr_iload h dM_add0_60 6 rfl ?_
  refine sr_iload_n h dM_add0_62 rfl 3 rfl ?_
  refine sr_icmp_ge (tgt := 108) h dM_add0_63 (by decide) (fun c_26 => ?_) (fun c_26 => ?_)
  · replace vc := vc.1 c_26
    refine sr_iinc (u := v5 + 1) (lv' := [(0, .ref a0), (1, .int v1), (2, .int v2), (3, .int v3), (4, .int v4), (5, .int (v5 + 1)), (6, .int v6)]) h dM_add0_108 5 rfl rfl (by decide) rfl ?_
    refine sr_goto (tgt := 51) h dM_add0_111 (by decide) ?_
    exact sr_sub (lv' := [(0, .ref a0), (1, .int v1), (2, .int v2), (3, .int v3), (4, .int v4), (5, .int (v5 + 1))]) [0, 1, 2, 3, 4, 5] rfl vc
  · replace vc := vc.2 c_26
    refine sr_iload h dM_add0_66 5 rfl ?_
    refine sr_iload h dM_add0_68 6 rfl ?_
    refine sr_icmp_eq (tgt := 102) h dM_add0_70 (by decide) (fun c_25 => ?_) (fun c_25 => ?_)
    · replace vc := vc.1 c_25
      refine sr_iinc (u := v6 + 1) (lv' := [(0, .ref a0), (1, .int v1), (2, .int v2), (3, .int v3), (4, .int v4), (5, .int v5), (6, .int (v6 + 1))]) h dM_add0_102 6 rfl rfl (by decide) rfl ?_
      refine sr_goto (tgt := 60) h dM_add0_105 (by decide) ?_
      exact vc
    · replace vc := vc.2 c_25
      refine sr_aload_n h dM_add0_73 rfl 0 rfl ?_
      refine sr_aload_n h dM_add0_74 rfl 0 rfl ?_
      obtain ⟨fs_1, ho_2, vc⟩ := vc
      obtain ⟨r_3, hv_4, vc⟩ := vc
      refine sr_get h inM rfl 10 (by decide) kw_464 dM_add0_75 ho_2 hv_4 ?_
      refine sr_iload h dM_add0_78 5 rfl ?_
      obtain ⟨a_5, rfl, vc⟩ := vc
      obtain ⟨N_6, f_7, ho_8, vc⟩ := vc
      obtain ⟨j_9, hi_10, hj_11, vc⟩ := vc
      refine sr_iald h dM_add0_80 ho_8 hi_10 hj_11 ?_
      refine sr_aload_n h dM_add0_81 rfl 0 rfl ?_
      refine sr_get h inM rfl 10 (by decide) kw_464 dM_add0_82 ho_2 hv_4 ?_
      refine sr_iload h dM_add0_85 6 rfl ?_
      obtain ⟨j_12, hi_13, hj_14, vc⟩ := vc
      refine sr_iald h dM_add0_87 ho_8 hi_13 hj_14 ?_
      obtain ⟨mc_15, ms_16, hc_17, vc⟩ := vc
      refine sr_callV (y := yM_isIn) (n0 := 2) (As := [.int (f_7 j_9), .int (f_7 j_12)]) h (sp_gV kw_543 kw_545 kw_18 kw_35 kw_546) rfl (by decide +kernel) ⟨Nat.le_of_ble_eq_true rfl, Nat.le_of_ble_eq_true rfl⟩ (ci := 3) rfl dM_add0_88 rfl rfl (Nat.le_of_ble_eq_true rfl) hc_17 ho_2 vc (fun v_18 μ_19 vc' => ?_) (fun E_24 μ_19 vc' => ?_)
      · replace vc := vc'
        clear vc'
        obtain ⟨v_21, rfl, vc⟩ := vc
        refine sr_if_eq (tgt := 102) h dM_add0_91 (by decide) (fun c_23 => ?_) (fun c_23 => ?_)
        · replace vc := vc.1 c_23
          refine sr_iinc (u := v6 + 1) (lv' := [(0, .ref a0), (1, .int v1), (2, .int v2), (3, .int v3), (4, .int v4), (5, .int v5), (6, .int (v6 + 1))]) h dM_add0_102 6 rfl rfl (by decide) rfl ?_
          refine sr_goto (tgt := 60) h dM_add0_105 (by decide) ?_
          exact vc
        · replace vc := vc.2 c_23
          obtain ⟨hc_22, vc⟩ := vc
          exact sr_throw0 (names := ["java/lang/RuntimeException", "java/lang/Exception"]) h (by decide +kernel) (by decide +kernel) kw_507 kw_40 ka_M_71 kg_M_71 dM_add0_94 dM_add0_97 dM_add0_98 dM_add0_101 (fun _ z => nomatch z) (Nat.le_of_ble_eq_true rfl) (Nat.le_of_ble_eq_true rfl) hc_22.1 hc_22.2 hc_22.1 hc_22.2 vc
      · replace vc := vc'
        clear vc'
        exact st_out h (fun _ z => nomatch z) hc_17.1 hc_17.2 vc
set_option maxRecDepth 100000 in
set_option maxHeartbeats 4000000 in
theorem bkM_add0_129 {κ : sp_K} {x : sp_X} {mc ms : Nat} {Rt : Option Value → sp_M → Prop} {Xt : String → sp_M → Prop} {μ : sp_M} {k n : Nat} {a0 : Nat} {v1 : Int32} {v2 : Int32} {v3 : Int32} {v4 : Int32} {v5 : Int32} {v6 : Int32} (h : cxM_add0 κ x mc ms) (hk : k ≤ mc ∧ n ≤ ms)
    (vc : ((v3 ≤ v6 → sp_w κ x (sp_F κ x Rt Xt mc ms) k n 184 [(0, .ref a0), (1, .int v1), (2, .int v2), (3, .int v3), (4, .int v4), (5, .int v5), (6, .int v6)] [] μ) ∧ (¬ v3 ≤ v6 → ((v4 < 0 → sp_w κ x (sp_F κ x Rt Xt mc ms) k n 184 [(0, .ref a0), (1, .int v1), (2, .int v2), (3, .int v3), (4, .int v4), (5, .int v5), (6, .int v6)] [] μ) ∧ (¬ v4 < 0 → (∃ fs_1 : List Value, μ a0 = some (.inr (3, fs_1)) ∧ ∃ r_3 : Option Nat, fs_1[8]? = some (va_rf r_3) ∧ (∃ r_5 : Option Nat, fs_1[10]? = some (va_rf r_5) ∧ (∃ a_7 : Nat, r_5 = some a_7 ∧ ∃ (N_8 : Nat) (f_9 : Nat → Int32), μ a_7 = some (sp_ia κ N_8 f_9) ∧ ∃ j_11 : Nat, v6 = nI j_11 ∧ j_11 < N_8 ∧ (∃ a_14 : Nat, r_3 = some a_14 ∧ ∃ (N_15 : Nat) (f_16 : Nat → Int32), μ a_14 = some (sp_sa κ N_15 f_16) ∧ ∃ j_18 : Nat, (16 * (f_9 j_11)) + v4 = nI j_18 ∧ j_18 < N_15 ∧ (∃ r_21 : Option Nat, fs_1[1]? = some (va_rf r_21) ∧ (∃ a_23 : Nat, r_21 = some a_23 ∧ ∃ (N_24 : Nat) (f_25 : Nat → Int32), μ a_23 = some (sp_ia κ N_24 f_25) ∧ ∃ j_27 : Nat, v4 = nI j_27 ∧ j_27 < N_24 ∧ ((¬ (f_16 j_18) = (f_25 j_27) → sp_w κ x (sp_F κ x Rt Xt mc ms) k n 129 [(0, .ref a0), (1, .int v1), (2, .int v2), (3, .int v3), (4, .int v4), (5, .int (v5 ||| 0)), (6, .int (v6 + 1))] [] μ) ∧ ((f_16 j_18) = (f_25 j_27) → sp_w κ x (sp_F κ x Rt Xt mc ms) k n 129 [(0, .ref a0), (1, .int v1), (2, .int v2), (3, .int v3), (4, .int v4), (5, .int (v5 ||| 1)), (6, .int (v6 + 1))] [] μ))))))))))))) : sp_w κ x (sp_F κ x Rt Xt mc ms) k n 129 [(0, .ref a0), (1, .int v1), (2, .int v2), (3, .int v3), (4, .int v4), (5, .int v5), (6, .int v6)] [] μ := by
  refine sr_iload h dM_add0_129 6 rfl ?_
  refine sr_iload_n h dM_add0_131 rfl 3 rfl ?_
  refine sr_icmp_ge (tgt := 184) h dM_add0_132 (by decide) (fun c_32 => ?_) (fun c_32 => ?_)
  · replace vc := vc.1 c_32
    exact vc
  · replace vc := vc.2 c_32
    refine sr_iload h dM_add0_135 4 rfl ?_
    refine sr_if_lt (tgt := 184) h dM_add0_137 (by decide) (fun c_31 => ?_) (fun c_31 => ?_)
    · replace vc := vc.1 c_31
      exact vc
    · replace vc := vc.2 c_31
      refine sr_iload h dM_add0_140 5 rfl ?_
      refine sr_aload_n h dM_add0_142 rfl 0 rfl ?_
      obtain ⟨fs_1, ho_2, vc⟩ := vc
      obtain ⟨r_3, hv_4, vc⟩ := vc
      refine sr_get h inM rfl 8 (by decide) kw_462 dM_add0_143 ho_2 hv_4 ?_
      refine sr_bipush (v := 16) h dM_add0_146 (by decide) ?_
      refine sr_aload_n h dM_add0_148 rfl 0 rfl ?_
      obtain ⟨r_5, hv_6, vc⟩ := vc
      refine sr_get h inM rfl 10 (by decide) kw_464 dM_add0_149 ho_2 hv_6 ?_
      refine sr_iload h dM_add0_152 6 rfl ?_
      obtain ⟨a_7, rfl, vc⟩ := vc
      obtain ⟨N_8, f_9, ho_10, vc⟩ := vc
      obtain ⟨j_11, hi_12, hj_13, vc⟩ := vc
      refine sr_iald h dM_add0_154 ho_10 hi_12 hj_13 ?_
      refine sr_imul h dM_add0_155 ?_
      refine sr_iload h dM_add0_156 4 rfl ?_
      refine sr_iadd h dM_add0_158 ?_
      obtain ⟨a_14, rfl, vc⟩ := vc
      obtain ⟨N_15, f_16, ho_17, vc⟩ := vc
      obtain ⟨j_18, hi_19, hj_20, vc⟩ := vc
      refine sr_sald h dM_add0_159 ho_17 hi_19 hj_20 ?_
      refine sr_aload_n h dM_add0_160 rfl 0 rfl ?_
      obtain ⟨r_21, hv_22, vc⟩ := vc
      refine sr_get h inM rfl 1 (by decide) kw_455 dM_add0_161 ho_2 hv_22 ?_
      refine sr_iload h dM_add0_164 4 rfl ?_
      obtain ⟨a_23, rfl, vc⟩ := vc
      obtain ⟨N_24, f_25, ho_26, vc⟩ := vc
      obtain ⟨j_27, hi_28, hj_29, vc⟩ := vc
      refine sr_iald h dM_add0_166 ho_26 hi_28 hj_29 ?_
      refine sr_icmp_ne (tgt := 174) h dM_add0_167 (by decide) (fun c_30 => ?_) (fun c_30 => ?_)
      · replace vc := vc.1 c_30
        refine sr_iconst (v := 0) h dM_add0_174 (by decide) ?_
        refine sr_ior h dM_add0_175 ?_
        refine sr_istore (lv' := [(0, .ref a0), (1, .int v1), (2, .int v2), (3, .int v3), (4, .int v4), (5, .int (v5 ||| 0)), (6, .int v6)]) h dM_add0_176 (by decide) rfl ?_
        refine sr_iinc (u := v6 + 1) (lv' := [(0, .ref a0), (1, .int v1), (2, .int v2), (3, .int v3), (4, .int v4), (5, .int (v5 ||| 0)), (6, .int (v6 + 1))]) h dM_add0_178 6 rfl rfl (by decide) rfl ?_
        refine sr_goto (tgt := 129) h dM_add0_181 (by decide) ?_
        exact vc
      · replace vc := vc.2 c_30
        refine sr_iconst (v := 1) h dM_add0_170 (by decide) ?_
        refine sr_goto (tgt := 175) h dM_add0_171 (by decide) ?_
        refine sr_ior h dM_add0_175 ?_
        refine sr_istore (lv' := [(0, .ref a0), (1, .int v1), (2, .int v2), (3, .int v3), (4, .int v4), (5, .int (v5 ||| 1)), (6, .int v6)]) h dM_add0_176 (by decide) rfl ?_
        refine sr_iinc (u := v6 + 1) (lv' := [(0, .ref a0), (1, .int v1), (2, .int v2), (3, .int v3), (4, .int v4), (5, .int (v5 ||| 1)), (6, .int (v6 + 1))]) h dM_add0_178 6 rfl rfl (by decide) rfl ?_
        refine sr_goto (tgt := 129) h dM_add0_181 (by decide) ?_
        exact vc
set_option maxRecDepth 100000 in
set_option maxHeartbeats 4000000 in
theorem bkM_add0_184 {κ : sp_K} {x : sp_X} {mc ms : Nat} {Rt : Option Value → sp_M → Prop} {Xt : String → sp_M → Prop} {μ : sp_M} {k n : Nat} {a0 : Nat} {v1 : Int32} {v2 : Int32} {v3 : Int32} {v4 : Int32} {v5 : Int32} {v6 : Int32} (h : cxM_add0 κ x mc ms) (hk : k ≤ mc ∧ n ≤ ms)
    (vc : ((¬ v5 = 0 → (∃ fs_1 : List Value, μ a0 = some (.inr (3, fs_1)) ∧ ∃ v_3 : Int32, fs_1[9]? = some (.int v_3) ∧ ((8192 < (v_3 + v2) → ((k + 1 ≤ mc ∧ n + 6 ≤ ms) ∧ Xt "java/lang/IllegalStateException" μ)) ∧ (¬ 8192 < (v_3 + v2) → ((0 ≤ v4 → sp_w κ x (sp_F κ x Rt Xt mc ms) k n 231 [(0, .ref a0), (1, .int v1), (2, .int v2), (3, .int v3), (4, .int v4), (5, .int v5), (6, .int v6)] [] μ) ∧ (¬ 0 ≤ v4 → (∃ v_6 : Int32, fs_1[2]? = some (.int v_6) ∧ ((¬ v_6 = 16 → sp_w κ x (sp_F κ x Rt Xt mc ms) k n 231 [(0, .ref a0), (1, .int v1), (2, .int v2), (3, .int v3), (4, .int v4), (5, .int v5), (6, .int v6)] [] μ) ∧ (v_6 = 16 → ((k + 1 ≤ mc ∧ n + 6 ≤ ms) ∧ Xt "java/lang/IllegalStateException" μ)))))))))) ∧ (v5 = 0 → ((k + 1 ≤ mc ∧ n + 6 ≤ ms) ∧ Xt "java/lang/UnsupportedOperationException" μ)))) : sp_w κ x (sp_F κ x Rt Xt mc ms) k n 184 [(0, .ref a0), (1, .int v1), (2, .int v2), (3, .int v3), (4, .int v4), (5, .int v5), (6, .int v6)] [] μ := by
  refine sr_iload h dM_add0_184 5 rfl ?_
  refine sr_if_ne (tgt := 197) h dM_add0_186 (by decide) (fun c_13 => ?_) (fun c_13 => ?_)
  · replace vc := vc.1 c_13
    refine sr_aload_n h dM_add0_197 rfl 0 rfl ?_
    obtain ⟨fs_1, ho_2, vc⟩ := vc
    obtain ⟨v_3, hv_4, vc⟩ := vc
    refine sr_get h inM rfl 9 (by decide) kw_463 dM_add0_198 ho_2 hv_4 ?_
    refine sr_iload_n h dM_add0_201 rfl 2 rfl ?_
    refine sr_iadd h dM_add0_202 ?_
    refine sr_sipush (v := 8192) h dM_add0_203 (by decide) ?_
    refine sr_icmp_gt (tgt := 223) h dM_add0_206 (by decide) (fun c_11 => ?_) (fun c_11 => ?_)
    · replace vc := vc.1 c_11
      obtain ⟨hc_5, vc⟩ := vc
      exact sr_throw0 (names := ["java/lang/RuntimeException", "java/lang/Exception"]) h (by decide +kernel) (by decide +kernel) kw_508 kw_41 ka_M_74 kg_M_74 dM_add0_223 dM_add0_226 dM_add0_227 dM_add0_230 (fun _ z => nomatch z) (Nat.le_of_ble_eq_true rfl) (Nat.le_of_ble_eq_true rfl) hc_5.1 hc_5.2 hc_5.1 hc_5.2 vc
    · replace vc := vc.2 c_11
      refine sr_iload h dM_add0_209 4 rfl ?_
      refine sr_if_ge (tgt := 231) h dM_add0_211 (by decide) (fun c_10 => ?_) (fun c_10 => ?_)
      · replace vc := vc.1 c_10
        exact vc
      · replace vc := vc.2 c_10
        refine sr_aload_n h dM_add0_214 rfl 0 rfl ?_
        obtain ⟨v_6, hv_7, vc⟩ := vc
        refine sr_get h inM rfl 2 (by decide) kw_456 dM_add0_215 ho_2 hv_7 ?_
        refine sr_bipush (v := 16) h dM_add0_218 (by decide) ?_
        refine sr_icmp_ne (tgt := 231) h dM_add0_220 (by decide) (fun c_9 => ?_) (fun c_9 => ?_)
        · replace vc := vc.1 c_9
          exact vc
        · replace vc := vc.2 c_9
          obtain ⟨hc_8, vc⟩ := vc
          exact sr_throw0 (names := ["java/lang/RuntimeException", "java/lang/Exception"]) h (by decide +kernel) (by decide +kernel) kw_508 kw_41 ka_M_74 kg_M_74 dM_add0_223 dM_add0_226 dM_add0_227 dM_add0_230 (fun _ z => nomatch z) (Nat.le_of_ble_eq_true rfl) (Nat.le_of_ble_eq_true rfl) hc_8.1 hc_8.2 hc_8.1 hc_8.2 vc
  · replace vc := vc.2 c_13
    obtain ⟨hc_12, vc⟩ := vc
    exact sr_throw0 (names := ["java/lang/RuntimeException", "java/lang/Exception"]) h (by decide +kernel) (by decide +kernel) kw_507 kw_40 ka_M_71 kg_M_71 dM_add0_189 dM_add0_192 dM_add0_193 dM_add0_196 (fun _ z => nomatch z) (Nat.le_of_ble_eq_true rfl) (Nat.le_of_ble_eq_true rfl) hc_12.1 hc_12.2 hc_12.1 hc_12.2 vc
set_option maxRecDepth 100000 in
set_option maxHeartbeats 4000000 in
theorem bkM_add0_231 {κ : sp_K} {x : sp_X} {mc ms : Nat} {Rt : Option Value → sp_M → Prop} {Xt : String → sp_M → Prop} {μ : sp_M} {k n : Nat} {a0 : Nat} {v1 : Int32} {v2 : Int32} {v3 : Int32} {v4 : Int32} {v5 : Int32} {v6 : Int32} (h : cxM_add0 κ x mc ms) (hk : k ≤ mc ∧ n ≤ ms)
    (vc : ((0 ≤ v4 → sp_w κ x (sp_F κ x Rt Xt mc ms) k n 263 [(0, .ref a0), (1, .int v1), (2, .int v2), (3, .int v3), (4, .int v4), (5, .int v5), (6, .int 0)] [] μ) ∧ (¬ 0 ≤ v4 → (∃ fs_1 : List Value, μ a0 = some (.inr (3, fs_1)) ∧ ∃ v_3 : Int32, fs_1[2]? = some (.int v_3) ∧ (∃ r_5 : Option Nat, fs_1[0]? = some (va_rf r_5) ∧ (∃ a_7 : Nat, r_5 = some a_7 ∧ ∃ (N_8 : Nat) (f_9 : Nat → Int32), μ a_7 = some (sp_ia κ N_8 f_9) ∧ ∃ j_11 : Nat, v_3 = nI j_11 ∧ j_11 < N_8 ∧ ∀ μ_14 : sp_M, μ_14 = va_up μ a_7 (some (sp_ia κ N_8 (upd f_9 j_11 v1))) → (∃ fs_15 : List Value, μ_14 a0 = some (.inr (3, fs_15)) ∧ ∃ v_17 : Int32, fs_15[2]? = some (.int v_17) ∧ (2 < fs_15.length ∧ ∀ μ_19 : sp_M, μ_19 = va_up μ_14 a0 (some (.inr (3, fs_15.set 2 (.int (v_17 + 1))))) → sp_w κ x (sp_F κ x Rt Xt mc ms) k n 263 [(0, .ref a0), (1, .int v1), (2, .int v2), (3, .int v3), (4, .int v_3), (5, .int v5), (6, .int 0)] [] μ_19)))))))) : sp_w κ x (sp_F κ x Rt Xt mc ms) k n 231 [(0, .ref a0), (1, .int v1), (2, .int v2), (3, .int v3), (4, .int v4), (5, .int v5), (6, .int v6)] [] μ := by
  refine sr_iload h dM_add0_231 4 rfl ?_
  refine sr_if_ge (tgt := 260) h dM_add0_233 (by decide) (fun c_21 => ?_) (fun c_21 => ?_)
  · replace vc := vc.1 c_21
    refine sr_iconst (v := 0) h dM_add0_260 (by decide) ?_
    refine sr_istore (lv' := [(0, .ref a0), (1, .int v1), (2, .int v2), (3, .int v3), (4, .int v4), (5, .int v5), (6, .int 0)]) h dM_add0_261 (by decide) rfl ?_
    exact vc
  · replace vc := vc.2 c_21
    refine sr_aload_n h dM_add0_236 rfl 0 rfl ?_
    obtain ⟨fs_1, ho_2, vc⟩ := vc
    obtain ⟨v_3, hv_4, vc⟩ := vc
    refine sr_get h inM rfl 2 (by decide) kw_456 dM_add0_237 ho_2 hv_4 ?_
    refine sr_istore (lv' := [(0, .ref a0), (1, .int v1), (2, .int v2), (3, .int v3), (4, .int v_3), (5, .int v5), (6, .int v6)]) h dM_add0_240 (by decide) rfl ?_
    refine sr_aload_n h dM_add0_242 rfl 0 rfl ?_
    obtain ⟨r_5, hv_6, vc⟩ := vc
    refine sr_get h inM rfl 0 (by decide) kw_454 dM_add0_243 ho_2 hv_6 ?_
    refine sr_iload h dM_add0_246 4 rfl ?_
    refine sr_iload_n h dM_add0_248 rfl 1 rfl ?_
    obtain ⟨a_7, rfl, vc⟩ := vc
    obtain ⟨N_8, f_9, ho_10, vc⟩ := vc
    obtain ⟨j_11, hi_12, hj_13, vc⟩ := vc
    replace vc := vc _ rfl
    refine sr_iast h dM_add0_249 ho_10 hi_12 hj_13 ?_
    refine sr_aload_n h dM_add0_250 rfl 0 rfl ?_
    refine sr_dup h dM_add0_251 (sp_c1r _) ?_
    obtain ⟨fs_15, ho_16, vc⟩ := vc
    obtain ⟨v_17, hv_18, vc⟩ := vc
    refine sr_get h inM rfl 2 (by decide) kw_456 dM_add0_252 ho_16 hv_18 ?_
    refine sr_iconst (v := 1) h dM_add0_255 (by decide) ?_
    refine sr_iadd h dM_add0_256 ?_
    obtain ⟨hl_20, vc⟩ := vc
    replace vc := vc _ rfl
    refine sr_put h inM tyM tyM_ok nmM rfl 2 (by decide) kw_456 rfl dM_add0_257 ho_16 rfl rfl hl_20 ?_
    refine sr_iconst (v := 0) h dM_add0_260 (by decide) ?_
    refine sr_istore (lv' := [(0, .ref a0), (1, .int v1), (2, .int v2), (3, .int v3), (4, .int v_3), (5, .int v5), (6, .int 0)]) h dM_add0_261 (by decide) rfl ?_
    exact vc
set_option maxRecDepth 100000 in
set_option maxHeartbeats 4000000 in
theorem bkM_add0_263 {κ : sp_K} {x : sp_X} {mc ms : Nat} {Rt : Option Value → sp_M → Prop} {Xt : String → sp_M → Prop} {μ : sp_M} {k n : Nat} {a0 : Nat} {v1 : Int32} {v2 : Int32} {v3 : Int32} {v4 : Int32} {v5 : Int32} {v6 : Int32} (h : cxM_add0 κ x mc ms) (hk : k ≤ mc ∧ n ≤ ms)
    (vc : ((v2 ≤ v6 → (∃ fs_1 : List Value, μ a0 = some (.inr (3, fs_1)) ∧ ∃ v_3 : Int32, fs_1[9]? = some (.int v_3) ∧ Rt (some (.int (v_3 - 1))) μ)) ∧ (¬ v2 ≤ v6 → ((¬ v6 = 0 → sp_w κ x (sp_F κ x Rt Xt mc ms) k n 282 [(0, .ref a0), (1, .int v1), (2, .int v2), (3, .int v3), (4, .int v4), (5, .int v5), (6, .int v6)] [.int 1, .int v4, .ref a0] μ) ∧ (v6 = 0 → sp_w κ x (sp_F κ x Rt Xt mc ms) k n 282 [(0, .ref a0), (1, .int v1), (2, .int v2), (3, .int v3), (4, .int v4), (5, .int v5), (6, .int v6)] [.int v3, .int v4, .ref a0] μ))))) : sp_w κ x (sp_F κ x Rt Xt mc ms) k n 263 [(0, .ref a0), (1, .int v1), (2, .int v2), (3, .int v3), (4, .int v4), (5, .int v5), (6, .int v6)] [] μ := by
  refine sr_iload h dM_add0_263 6 rfl ?_
  refine sr_iload_n h dM_add0_265 rfl 2 rfl ?_
  refine sr_icmp_ge (tgt := 301) h dM_add0_266 (by decide) (fun c_6 => ?_) (fun c_6 => ?_)
  · replace vc := vc.1 c_6
    refine sr_aload_n h dM_add0_301 rfl 0 rfl ?_
    obtain ⟨fs_1, ho_2, vc⟩ := vc
    obtain ⟨v_3, hv_4, vc⟩ := vc
    refine sr_get h inM rfl 9 (by decide) kw_463 dM_add0_302 ho_2 hv_4 ?_
    refine sr_iconst (v := 1) h dM_add0_305 (by decide) ?_
    refine sr_isub h dM_add0_306 ?_
    exact sr_iret h dM_add0_307 hk.1 hk.2 vc
  · replace vc := vc.2 c_6
    refine sr_aload_n h dM_add0_269 rfl 0 rfl ?_
    refine sr_iload h dM_add0_270 4 rfl ?_
    refine sr_iload h dM_add0_272 6 rfl ?_
    refine sr_if_ne (tgt := 281) h dM_add0_274 (by decide) (fun c_5 => ?_) (fun c_5 => ?_)
    · replace vc := vc.1 c_5
      refine sr_iconst (v := 1) h dM_add0_281 (by decide) ?_
      exact vc
    · replace vc := vc.2 c_5
      refine sr_iload_n h dM_add0_277 rfl 3 rfl ?_
      refine sr_goto (tgt := 282) h dM_add0_278 (by decide) ?_
      exact vc
set_option maxRecDepth 100000 in
set_option maxHeartbeats 4000000 in
theorem bkM_add0_282 {κ : sp_K} {x : sp_X} {mc ms : Nat} {Rt : Option Value → sp_M → Prop} {Xt : String → sp_M → Prop} {μ : sp_M} {k n : Nat} {a0 : Nat} {v1 : Int32} {v2 : Int32} {v3 : Int32} {v4 : Int32} {v5 : Int32} {v6 : Int32} {as0 : Nat} {vs1 : Int32} {vs2 : Int32} (h : cxM_add0 κ x mc ms) (hk : k ≤ mc ∧ n ≤ ms)
    (vc : ((¬ v6 = 0 → (∃ mc_1 ms_2 : Nat, (k + mc_1 ≤ mc ∧ n + ms_2 ≤ ms) ∧ ∃ fs_6 : List Value, μ as0 = some (.inr (3, fs_6)) ∧ sp_m x.2.1 κ yM_come wM_come 2 48 mc_1 ms_2 [.ref as0, .int vs1, .int vs2, .int 0] μ (fun v_4 μ_5 => v_4 = none ∧ sp_w κ x (sp_F κ x Rt Xt mc ms) (k + mc_1) (n + ms_2) 263 [(0, .ref a0), (1, .int v1), (2, .int v2), (3, .int v3), (4, .int v4), (5, .int v5), (6, .int (v6 + 1))] [] μ_5) (fun E_9 μ_5 => Xt E_9 μ_5))) ∧ (v6 = 0 → (∃ mc_10 ms_11 : Nat, (k + mc_10 ≤ mc ∧ n + ms_11 ≤ ms) ∧ ∃ fs_15 : List Value, μ as0 = some (.inr (3, fs_15)) ∧ sp_m x.2.1 κ yM_come wM_come 2 48 mc_10 ms_11 [.ref as0, .int vs1, .int vs2, .int 1] μ (fun v_13 μ_14 => v_13 = none ∧ sp_w κ x (sp_F κ x Rt Xt mc ms) (k + mc_10) (n + ms_11) 263 [(0, .ref a0), (1, .int v1), (2, .int v2), (3, .int v3), (4, .int v4), (5, .int v5), (6, .int (v6 + 1))] [] μ_14) (fun E_18 μ_14 => Xt E_18 μ_14))))) : sp_w κ x (sp_F κ x Rt Xt mc ms) k n 282 [(0, .ref a0), (1, .int v1), (2, .int v2), (3, .int v3), (4, .int v4), (5, .int v5), (6, .int v6)] [.int vs2, .int vs1, .ref as0] μ := by
  refine sr_iload h dM_add0_282 6 rfl ?_
  refine sr_if_ne (tgt := 291) h dM_add0_284 (by decide) (fun c_19 => ?_) (fun c_19 => ?_)
  · replace vc := vc.1 c_19
    refine sr_iconst (v := 0) h dM_add0_291 (by decide) ?_
    obtain ⟨mc_1, ms_2, hc_3, vc⟩ := vc
    obtain ⟨fs_6, ho_7, vc⟩ := vc
    refine sr_callV (y := yM_come) (n0 := 3) (As := [.int vs1, .int vs2, .int 0]) h (sp_gV kw_557 kw_559 kw_20 kw_35 kw_560) rfl (by decide +kernel) ⟨Nat.le_of_ble_eq_true rfl, Nat.le_of_ble_eq_true rfl⟩ (ci := 3) rfl dM_add0_292 rfl rfl (Nat.le_of_ble_eq_true rfl) hc_3 ho_7 vc (fun v_4 μ_5 vc' => ?_) (fun E_9 μ_5 vc' => ?_)
    · replace vc := vc'
      clear vc'
      obtain ⟨rfl, vc⟩ := vc
      refine sr_iinc (u := v6 + 1) (lv' := [(0, .ref a0), (1, .int v1), (2, .int v2), (3, .int v3), (4, .int v4), (5, .int v5), (6, .int (v6 + 1))]) h dM_add0_295 6 rfl rfl (by decide) rfl ?_
      refine sr_goto (tgt := 263) h dM_add0_298 (by decide) ?_
      exact vc
    · replace vc := vc'
      clear vc'
      exact st_out h (fun _ z => nomatch z) hc_3.1 hc_3.2 vc
  · replace vc := vc.2 c_19
    refine sr_iconst (v := 1) h dM_add0_287 (by decide) ?_
    refine sr_goto (tgt := 292) h dM_add0_288 (by decide) ?_
    obtain ⟨mc_10, ms_11, hc_12, vc⟩ := vc
    obtain ⟨fs_15, ho_16, vc⟩ := vc
    refine sr_callV (y := yM_come) (n0 := 3) (As := [.int vs1, .int vs2, .int 1]) h (sp_gV kw_557 kw_559 kw_20 kw_35 kw_560) rfl (by decide +kernel) ⟨Nat.le_of_ble_eq_true rfl, Nat.le_of_ble_eq_true rfl⟩ (ci := 3) rfl dM_add0_292 rfl rfl (Nat.le_of_ble_eq_true rfl) hc_12 ho_16 vc (fun v_13 μ_14 vc' => ?_) (fun E_18 μ_14 vc' => ?_)
    · replace vc := vc'
      clear vc'
      obtain ⟨rfl, vc⟩ := vc
      refine sr_iinc (u := v6 + 1) (lv' := [(0, .ref a0), (1, .int v1), (2, .int v2), (3, .int v3), (4, .int v4), (5, .int v5), (6, .int (v6 + 1))]) h dM_add0_295 6 rfl rfl (by decide) rfl ?_
      refine sr_goto (tgt := 263) h dM_add0_298 (by decide) ?_
      exact vc
    · replace vc := vc'
      clear vc'
      exact st_out h (fun _ z => nomatch z) hc_12.1 hc_12.2 vc

abbrev cxM_come (κ : sp_K) (x : sp_X) (mc ms : Nat) : Prop := sp_C κ x cM_come 9 RM none [] "come" (sp_rm 2 48 mc ms)
set_option maxRecDepth 100000 in
set_option maxHeartbeats 4000000 in
theorem bkM_come_0 {κ : sp_K} {x : sp_X} {mc ms : Nat} {Rt : Option Value → sp_M → Prop} {Xt : String → sp_M → Prop} {μ : sp_M} {k n : Nat} {a0 : Nat} {v1 : Int32} {v2 : Int32} {v3 : Int32} (h : cxM_come κ x mc ms) (hk : k ≤ mc ∧ n ≤ ms)
    (vc : (∃ fs_1 : List Value, μ a0 = some (.inr (3, fs_1)) ∧ ∃ v_3 : Int32, fs_1[9]? = some (.int v_3) ∧ (∃ r_5 : Option Nat, fs_1[4]? = some (va_rf r_5) ∧ (∃ a_7 : Nat, r_5 = some a_7 ∧ ∃ (N_8 : Nat) (f_9 : Nat → Int32), μ a_7 = some (sp_sa κ N_8 f_9) ∧ ∃ j_11 : Nat, v_3 = nI j_11 ∧ j_11 < N_8 ∧ ∀ μ_14 : sp_M, μ_14 = va_up μ a_7 (some (sp_sa κ N_8 (upd f_9 j_11 (vp_nar .short ((Int32.toInt16 v1).toInt32))))) → (∃ fs_15 : List Value, μ_14 a0 = some (.inr (3, fs_15)) ∧ ∃ r_17 : Option Nat, fs_15[5]? = some (va_rf r_17) ∧ (∃ r_19 : Option Nat, fs_15[1]? = some (va_rf r_19) ∧ (∃ a_21 : Nat, r_19 = some a_21 ∧ ∃ (N_22 : Nat) (f_23 : Nat → Int32), μ_14 a_21 = some (sp_ia κ N_22 f_23) ∧ ∃ j_25 : Nat, v1 = nI j_25 ∧ j_25 < N_22 ∧ (∃ a_28 : Nat, r_17 = some a_28 ∧ ∃ (N_29 : Nat) (f_30 : Nat → Int32), μ_14 a_28 = some (sp_sa κ N_29 f_30) ∧ ∃ j_32 : Nat, v_3 = nI j_32 ∧ j_32 < N_29 ∧ ∀ μ_35 : sp_M, μ_35 = va_up μ_14 a_28 (some (sp_sa κ N_29 (upd f_30 j_32 (vp_nar .short ((Int32.toInt16 (f_23 j_25)).toInt32))))) → (∃ fs_36 : List Value, μ_35 a0 = some (.inr (3, fs_36)) ∧ ∃ r_38 : Option Nat, fs_36[6]? = some (va_rf r_38) ∧ (∃ a_40 : Nat, r_38 = some a_40 ∧ ∃ (N_41 : Nat) (f_42 : Nat → Int32), μ_35 a_40 = some (sp_sa κ N_41 f_42) ∧ ∃ j_44 : Nat, v_3 = nI j_44 ∧ j_44 < N_41 ∧ ∀ μ_47 : sp_M, μ_47 = va_up μ_35 a_40 (some (sp_sa κ N_41 (upd f_42 j_44 (vp_nar .short ((Int32.toInt16 v2).toInt32))))) → sp_w κ x (sp_F κ x Rt Xt mc ms) k n 41 [(0, .ref a0), (1, .int v1), (2, .int v2), (3, .int v3), (4, .int v_3), (5, .int 0)] [] μ_47)))))))))) : sp_w κ x (sp_F κ x Rt Xt mc ms) k n 0 [(0, .ref a0), (1, .int v1), (2, .int v2), (3, .int v3)] [] μ := by
  refine sr_aload_n h dM_come_0 rfl 0 rfl ?_
  obtain ⟨fs_1, ho_2, vc⟩ := vc
  obtain ⟨v_3, hv_4, vc⟩ := vc
  refine sr_get h inM rfl 9 (by decide) kw_463 dM_come_1 ho_2 hv_4 ?_
  refine sr_istore (lv' := [(0, .ref a0), (1, .int v1), (2, .int v2), (3, .int v3), (4, .int v_3)]) h dM_come_4 (by decide) rfl ?_
  refine sr_aload_n h dM_come_6 rfl 0 rfl ?_
  obtain ⟨r_5, hv_6, vc⟩ := vc
  refine sr_get h inM rfl 4 (by decide) kw_458 dM_come_7 ho_2 hv_6 ?_
  refine sr_iload h dM_come_10 4 rfl ?_
  refine sr_iload_n h dM_come_12 rfl 1 rfl ?_
  refine sr_i2s h dM_come_13 ?_
  obtain ⟨a_7, rfl, vc⟩ := vc
  obtain ⟨N_8, f_9, ho_10, vc⟩ := vc
  obtain ⟨j_11, hi_12, hj_13, vc⟩ := vc
  replace vc := vc _ rfl
  refine sr_sast h dM_come_14 ho_10 hi_12 hj_13 ?_
  refine sr_aload_n h dM_come_15 rfl 0 rfl ?_
  obtain ⟨fs_15, ho_16, vc⟩ := vc
  obtain ⟨r_17, hv_18, vc⟩ := vc
  refine sr_get h inM rfl 5 (by decide) kw_459 dM_come_16 ho_16 hv_18 ?_
  refine sr_iload h dM_come_19 4 rfl ?_
  refine sr_aload_n h dM_come_21 rfl 0 rfl ?_
  obtain ⟨r_19, hv_20, vc⟩ := vc
  refine sr_get h inM rfl 1 (by decide) kw_455 dM_come_22 ho_16 hv_20 ?_
  refine sr_iload_n h dM_come_25 rfl 1 rfl ?_
  obtain ⟨a_21, rfl, vc⟩ := vc
  obtain ⟨N_22, f_23, ho_24, vc⟩ := vc
  obtain ⟨j_25, hi_26, hj_27, vc⟩ := vc
  refine sr_iald h dM_come_26 ho_24 hi_26 hj_27 ?_
  refine sr_i2s h dM_come_27 ?_
  obtain ⟨a_28, rfl, vc⟩ := vc
  obtain ⟨N_29, f_30, ho_31, vc⟩ := vc
  obtain ⟨j_32, hi_33, hj_34, vc⟩ := vc
  replace vc := vc _ rfl
  refine sr_sast h dM_come_28 ho_31 hi_33 hj_34 ?_
  refine sr_aload_n h dM_come_29 rfl 0 rfl ?_
  obtain ⟨fs_36, ho_37, vc⟩ := vc
  obtain ⟨r_38, hv_39, vc⟩ := vc
  refine sr_get h inM rfl 6 (by decide) kw_460 dM_come_30 ho_37 hv_39 ?_
  refine sr_iload h dM_come_33 4 rfl ?_
  refine sr_iload_n h dM_come_35 rfl 2 rfl ?_
  refine sr_i2s h dM_come_36 ?_
  obtain ⟨a_40, rfl, vc⟩ := vc
  obtain ⟨N_41, f_42, ho_43, vc⟩ := vc
  obtain ⟨j_44, hi_45, hj_46, vc⟩ := vc
  replace vc := vc _ rfl
  refine sr_sast h dM_come_37 ho_43 hi_45 hj_46 ?_
  refine sr_iconst (v := 0) h dM_come_38 (by decide) ?_
  refine sr_istore (lv' := [(0, .ref a0), (1, .int v1), (2, .int v2), (3, .int v3), (4, .int v_3), (5, .int 0)]) h dM_come_39 (by decide) rfl ?_
  exact vc
set_option maxRecDepth 100000 in
set_option maxHeartbeats 4000000 in
theorem bkM_come_41 {κ : sp_K} {x : sp_X} {mc ms : Nat} {Rt : Option Value → sp_M → Prop} {Xt : String → sp_M → Prop} {μ : sp_M} {k n : Nat} {a0 : Nat} {v1 : Int32} {v2 : Int32} {v3 : Int32} {v4 : Int32} {v5 : Int32} (h : cxM_come κ x mc ms) (hk : k ≤ mc ∧ n ≤ ms)
    (vc : ((16 ≤ v5 → sp_w κ x (sp_F κ x Rt Xt mc ms) k n 71 [(0, .ref a0), (1, .int v1), (2, .int v2), (3, .int v3), (4, .int v4), (5, .int 0)] [] μ) ∧ (¬ 16 ≤ v5 → (∃ fs_1 : List Value, μ a0 = some (.inr (3, fs_1)) ∧ ∃ r_3 : Option Nat, fs_1[8]? = some (va_rf r_3) ∧ (∃ a_5 : Nat, r_3 = some a_5 ∧ ∃ (N_6 : Nat) (f_7 : Nat → Int32), μ a_5 = some (sp_sa κ N_6 f_7) ∧ ∃ j_9 : Nat, (16 * v4) + v5 = nI j_9 ∧ j_9 < N_6 ∧ ∀ μ_12 : sp_M, μ_12 = va_up μ a_5 (some (sp_sa κ N_6 (upd f_7 j_9 (vp_nar .short 0)))) → sp_w κ x (sp_F κ x Rt Xt mc ms) k n 41 [(0, .ref a0), (1, .int v1), (2, .int v2), (3, .int v3), (4, .int v4), (5, .int (v5 + 1))] [] μ_12))))) : sp_w κ x (sp_F κ x Rt Xt mc ms) k n 41 [(0, .ref a0), (1, .int v1), (2, .int v2), (3, .int v3), (4, .int v4), (5, .int v5)] [] μ := by
  refine sr_iload h dM_come_41 5 rfl ?_
  refine sr_bipush (v := 16) h dM_come_43 (by decide) ?_
  refine sr_icmp_ge (tgt := 68) h dM_come_45 (by decide) (fun c_13 => ?_) (fun c_13 => ?_)
  · replace vc := vc.1 c_13
    refine sr_iconst (v := 0) h dM_come_68 (by decide) ?_
    refine sr_istore (lv' := [(0, .ref a0), (1, .int v1), (2, .int v2), (3, .int v3), (4, .int v4), (5, .int 0)]) h dM_come_69 (by decide) rfl ?_
    exact vc
  · replace vc := vc.2 c_13
    refine sr_aload_n h dM_come_48 rfl 0 rfl ?_
    obtain ⟨fs_1, ho_2, vc⟩ := vc
    obtain ⟨r_3, hv_4, vc⟩ := vc
    refine sr_get h inM rfl 8 (by decide) kw_462 dM_come_49 ho_2 hv_4 ?_
    refine sr_bipush (v := 16) h dM_come_52 (by decide) ?_
    refine sr_iload h dM_come_54 4 rfl ?_
    refine sr_imul h dM_come_56 ?_
    refine sr_iload h dM_come_57 5 rfl ?_
    refine sr_iadd h dM_come_59 ?_
    refine sr_iconst (v := 0) h dM_come_60 (by decide) ?_
    obtain ⟨a_5, rfl, vc⟩ := vc
    obtain ⟨N_6, f_7, ho_8, vc⟩ := vc
    obtain ⟨j_9, hi_10, hj_11, vc⟩ := vc
    replace vc := vc _ rfl
    refine sr_sast h dM_come_61 ho_8 hi_10 hj_11 ?_
    refine sr_iinc (u := v5 + 1) (lv' := [(0, .ref a0), (1, .int v1), (2, .int v2), (3, .int v3), (4, .int v4), (5, .int (v5 + 1))]) h dM_come_62 5 rfl rfl (by decide) rfl ?_
    refine sr_goto (tgt := 41) h dM_come_65 (by decide) ?_
    exact vc
set_option maxRecDepth 100000 in
set_option maxHeartbeats 4000000 in
theorem bkM_come_71 {κ : sp_K} {x : sp_X} {mc ms : Nat} {Rt : Option Value → sp_M → Prop} {Xt : String → sp_M → Prop} {μ : sp_M} {k n : Nat} {a0 : Nat} {v1 : Int32} {v2 : Int32} {v3 : Int32} {v4 : Int32} {v5 : Int32} (h : cxM_come κ x mc ms) (hk : k ≤ mc ∧ n ≤ ms)
    (vc : ((v2 ≤ v5 → (∃ fs_1 : List Value, μ a0 = some (.inr (3, fs_1)) ∧ ∃ r_3 : Option Nat, fs_1[1]? = some (va_rf r_3) ∧ (∃ a_5 : Nat, r_3 = some a_5 ∧ ∃ (N_6 : Nat) (f_7 : Nat → Int32), μ a_5 = some (sp_ia κ N_6 f_7) ∧ ∃ j_9 : Nat, v1 = nI j_9 ∧ j_9 < N_6 ∧ (∃ r_12 : Option Nat, fs_1[3]? = some (va_rf r_12) ∧ (∃ a_14 : Nat, r_12 = some a_14 ∧ ∃ (N_15 : Nat) (f_16 : Nat → Option Nat), μ a_14 = some (sp_ra κ 5 N_15 f_16) ∧ ∃ j_18 : Nat, v1 = nI j_18 ∧ j_18 < N_15 ∧ ∃ r_21 : Option Nat, f_16 j_18 = r_21 ∧ (∃ a_23 : Nat, r_21 = some a_23 ∧ ∃ (N_24 : Nat) (f_25 : Nat → Int32), μ a_23 = some (sp_ia κ N_24 f_25) ∧ ((¬ (f_7 j_9) = (nI N_24) → sp_w κ x (sp_F κ x Rt Xt mc ms) k n 292 [(0, .ref a0), (1, .int v1), (2, .int v2), (3, .int v3), (4, .int v4), (5, .int v5)] [] μ) ∧ ((f_7 j_9) = (nI N_24) → (((∃ j_27 : Nat, v1 = nI j_27 ∧ j_27 < N_15 ∧ ∃ r_30 : Option Nat, f_16 j_27 = r_30 ∧ ((∃ j_32 : Nat, v1 = nI j_32 ∧ j_32 < N_6 ∧ (∃ mc_35 ms_36 : Nat, (k + mc_35 ≤ mc ∧ n + ms_36 ≤ ms) ∧ sp_m x.2.1 κ yJ_copyOf wJ_copyOf 1 26 mc_35 ms_36 [va_rf r_30, .int (2 * (f_7 j_32))] μ (fun v_38 μ_39 => ∃ r_41 : Option Nat, v_38 = some (va_rf r_41) ∧ (∃ a_42 : Nat, r_41 = some a_42 ∧ ∃ (N_43 : Nat) (f_44 : Nat → Option Nat), μ_39 a_14 = some (sp_ra κ 5 N_43 f_44) ∧ ∃ (N_50 : Nat) (f_51 : Nat → Int32), μ_39 a_42 = some (sp_ia κ N_50 f_51) ∧ ∃ j_46 : Nat, v1 = nI j_46 ∧ j_46 < N_43 ∧ ∀ μ_49 : sp_M, μ_49 = va_up μ_39 a_14 (some (sp_ra κ 5 N_43 (va_up f_44 j_46 (some a_42)))) → sp_w κ x (sp_F κ x Rt Xt mc ms) (k + mc_35) (n + ms_36) 292 [(0, .ref a0), (1, .int v1), (2, .int v2), (3, .int v3), (4, .int v4), (5, .int v5)] [] μ_49)) (fun E_53 μ_39 => Xt E_53 μ_39))))))))))))))) ∧ (¬ v2 ≤ v5 → ((v3 = 0 → sp_w κ x (sp_F κ x Rt Xt mc ms) k n 101 [(0, .ref a0), (1, .int v1), (2, .int v2), (3, .int v3), (4, .int v4), (5, .int v5), (6, .int (v4 - 1)), (7, .int v5)] [] μ) ∧ (¬ v3 = 0 → (∃ fs_55 : List Value, μ a0 = some (.inr (3, fs_55)) ∧ ∃ r_57 : Option Nat, fs_55[10]? = some (va_rf r_57) ∧ (∃ a_59 : Nat, r_57 = some a_59 ∧ ∃ (N_60 : Nat) (f_61 : Nat → Int32), μ a_59 = some (sp_ia κ N_60 f_61) ∧ ∃ j_63 : Nat, v5 = nI j_63 ∧ j_63 < N_60 ∧ sp_w κ x (sp_F κ x Rt Xt mc ms) k n 101 [(0, .ref a0), (1, .int v1), (2, .int v2), (3, .int v3), (4, .int v4), (5, .int v5), (6, .int (f_61 j_63)), (7, .int v5)] [] μ))))))) : sp_w κ x (sp_F κ x Rt Xt mc ms) k n 71 [(0, .ref a0), (1, .int v1), (2, .int v2), (3, .int v3), (4, .int v4), (5, .int v5)] [] μ := by
  refine sr_iload h dM_come_71 5 rfl ?_
  refine sr_iload_n h dM_come_73 rfl 2 rfl ?_
  refine sr_icmp_ge (tgt := 253) h dM_come_74 (by decide) (fun c_67 => ?_) (fun c_67 => ?_)
  · replace vc := vc.1 c_67
    refine sr_aload_n h dM_come_253 rfl 0 rfl ?_
    obtain ⟨fs_1, ho_2, vc⟩ := vc
    obtain ⟨r_3, hv_4, vc⟩ := vc
    refine sr_get h inM rfl 1 (by decide) kw_455 dM_come_254 ho_2 hv_4 ?_
    refine sr_iload_n h dM_come_257 rfl 1 rfl ?_
    obtain ⟨a_5, rfl, vc⟩ := vc
    obtain ⟨N_6, f_7, ho_8, vc⟩ := vc
    obtain ⟨j_9, hi_10, hj_11, vc⟩ := vc
    refine sr_iald h dM_come_258 ho_8 hi_10 hj_11 ?_
    refine sr_aload_n h dM_come_259 rfl 0 rfl ?_
    obtain ⟨r_12, hv_13, vc⟩ := vc
    refine sr_get h inM rfl 3 (by decide) kw_457 dM_come_260 ho_2 hv_13 ?_
    refine sr_iload_n h dM_come_263 rfl 1 rfl ?_
    obtain ⟨a_14, rfl, vc⟩ := vc
    obtain ⟨N_15, f_16, ho_17, vc⟩ := vc
    obtain ⟨j_18, hi_19, hj_20, vc⟩ := vc
    obtain ⟨r_21, hr_22, vc⟩ := vc
    refine sr_aaldA h dM_come_264 ho_17 hi_19 hj_20 hr_22 ?_
    obtain ⟨a_23, rfl, vc⟩ := vc
    obtain ⟨N_24, f_25, ho_26, vc⟩ := vc
    refine sr_alen (t := 0) h dM_come_265 ho_26 rfl ?_
    refine sr_icmp_ne (tgt := 292) h dM_come_266 (by decide) (fun c_54 => ?_) (fun c_54 => ?_)
    · replace vc := vc.1 c_54
      exact vc
    · replace vc := vc.2 c_54
      refine sr_aload_n h dM_come_269 rfl 0 rfl ?_
      refine sr_get h inM rfl 3 (by decide) kw_457 dM_come_270 ho_2 hv_13 ?_
      refine sr_iload_n h dM_come_273 rfl 1 rfl ?_
      refine sr_aload_n h dM_come_274 rfl 0 rfl ?_
      refine sr_get h inM rfl 3 (by decide) kw_457 dM_come_275 ho_2 hv_13 ?_
      refine sr_iload_n h dM_come_278 rfl 1 rfl ?_
      obtain ⟨j_27, hi_28, hj_29, vc⟩ := vc
      obtain ⟨r_30, hr_31, vc⟩ := vc
      refine sr_aaldA h dM_come_279 ho_17 hi_28 hj_29 hr_31 ?_
      refine sr_iconst (v := 2) h dM_come_280 (by decide) ?_
      refine sr_aload_n h dM_come_281 rfl 0 rfl ?_
      refine sr_get h inM rfl 1 (by decide) kw_455 dM_come_282 ho_2 hv_4 ?_
      refine sr_iload_n h dM_come_285 rfl 1 rfl ?_
      obtain ⟨j_32, hi_33, hj_34, vc⟩ := vc
      refine sr_iald h dM_come_286 ho_8 hi_33 hj_34 ?_
      refine sr_imul h dM_come_287 ?_
      obtain ⟨mc_35, ms_36, hc_37, vc⟩ := vc
      refine sr_callS (y := yJ_copyOf) (n0 := 2) (As := [va_rf r_30, .int (2 * (f_7 j_32))]) (st := [.int v1, .ref a_14]) h (sp_gS kw_561 kw_267 kw_43 kw_268) rfl (by decide +kernel) ⟨Nat.le_of_ble_eq_true rfl, Nat.le_of_ble_eq_true rfl⟩ dM_come_288 rfl rfl (Nat.le_of_ble_eq_true rfl) hc_37 vc (fun v_38 μ_39 vc' => ?_) (fun E_53 μ_39 vc' => ?_)
      · replace vc := vc'
        clear vc'
        obtain ⟨r_41, rfl, vc⟩ := vc
        obtain ⟨a_42, rfl, vc⟩ := vc
        obtain ⟨N_43, f_44, ho_45, vc⟩ := vc
        obtain ⟨N_50, f_51, ho_52, vc⟩ := vc
        obtain ⟨j_46, hi_47, hj_48, vc⟩ := vc
        replace vc := vc _ rfl
        refine sr_aastA h dM_come_291 ho_45 hi_47 hj_48 ho_52 ?_
        exact vc
      · replace vc := vc'
        clear vc'
        exact st_out h (fun _ z => nomatch z) hc_37.1 hc_37.2 vc
  · replace vc := vc.2 c_67
    refine sr_iload_n h dM_come_77 rfl 3 rfl ?_
    refine sr_if_eq (tgt := 91) h dM_come_78 (by decide) (fun c_66 => ?_) (fun c_66 => ?_)
    · replace vc := vc.1 c_66
      refine sr_iload h dM_come_91 4 rfl ?_
      refine sr_iconst (v := 1) h dM_come_93 (by decide) ?_
      refine sr_isub h dM_come_94 ?_
      refine sr_istore (lv' := [(0, .ref a0), (1, .int v1), (2, .int v2), (3, .int v3), (4, .int v4), (5, .int v5), (6, .int (v4 - 1))]) h dM_come_95 (by decide) rfl ?_
      refine sr_iload h dM_come_97 5 rfl ?_
      refine sr_istore (lv' := [(0, .ref a0), (1, .int v1), (2, .int v2), (3, .int v3), (4, .int v4), (5, .int v5), (6, .int (v4 - 1)), (7, .int v5)]) h dM_come_99 (by decide) rfl ?_
      exact vc
    · replace vc := vc.2 c_66
      refine sr_aload_n h dM_come_81 rfl 0 rfl ?_
      obtain ⟨fs_55, ho_56, vc⟩ := vc
      obtain ⟨r_57, hv_58, vc⟩ := vc
      refine sr_get h inM rfl 10 (by decide) kw_464 dM_come_82 ho_56 hv_58 ?_
      refine sr_iload h dM_come_85 5 rfl ?_
      obtain ⟨a_59, rfl, vc⟩ := vc
      obtain ⟨N_60, f_61, ho_62, vc⟩ := vc
      obtain ⟨j_63, hi_64, hj_65, vc⟩ := vc
      refine sr_iald h dM_come_87 ho_62 hi_64 hj_65 ?_
      refine sr_goto (tgt := 95) h dM_come_88 (by decide) ?_
      refine sr_istore (lv' := [(0, .ref a0), (1, .int v1), (2, .int v2), (3, .int v3), (4, .int v4), (5, .int v5), (6, .int (f_61 j_63))]) h dM_come_95 (by decide) rfl ?_
      refine sr_iload h dM_come_97 5 rfl ?_
      refine sr_istore (lv' := [(0, .ref a0), (1, .int v1), (2, .int v2), (3, .int v3), (4, .int v4), (5, .int v5), (6, .int (f_61 j_63)), (7, .int v5)]) h dM_come_99 (by decide) rfl ?_
      exact vc
set_option maxRecDepth 100000 in
set_option maxHeartbeats 4000000 in
theorem bkM_come_101 {κ : sp_K} {x : sp_X} {mc ms : Nat} {Rt : Option Value → sp_M → Prop} {Xt : String → sp_M → Prop} {μ : sp_M} {k n : Nat} {a0 : Nat} {v1 : Int32} {v2 : Int32} {v3 : Int32} {v4 : Int32} {v5 : Int32} {v6 : Int32} {v7 : Int32} (h : cxM_come κ x mc ms) (hk : k ≤ mc ∧ n ≤ ms)
    (vc : ((v7 ≤ 0 → sp_w κ x (sp_F κ x Rt Xt mc ms) k n 160 [(0, .ref a0), (1, .int v1), (2, .int v2), (3, .int v3), (4, .int v4), (5, .int v5), (6, .int v6), (7, .int v7)] [] μ) ∧ (¬ v7 ≤ 0 → (∃ fs_1 : List Value, μ a0 = some (.inr (3, fs_1)) ∧ ∃ r_3 : Option Nat, fs_1[7]? = some (va_rf r_3) ∧ (∃ a_5 : Nat, r_3 = some a_5 ∧ ∃ (N_6 : Nat) (f_7 : Nat → Int32), μ a_5 = some (sp_sa κ N_6 f_7) ∧ ∃ j_9 : Nat, ((16 * v4) + v7) - 1 = nI j_9 ∧ j_9 < N_6 ∧ (((f_7 j_9) ≤ v6 → sp_w κ x (sp_F κ x Rt Xt mc ms) k n 160 [(0, .ref a0), (1, .int v1), (2, .int v2), (3, .int v3), (4, .int v4), (5, .int v5), (6, .int v6), (7, .int v7)] [] μ) ∧ (¬ (f_7 j_9) ≤ v6 → (((∃ j_12 : Nat, ((16 * v4) + v7) - 1 = nI j_12 ∧ j_12 < N_6 ∧ (∃ j_15 : Nat, (16 * v4) + v7 = nI j_15 ∧ j_15 < N_6 ∧ ∀ μ_18 : sp_M, μ_18 = va_up μ a_5 (some (sp_sa κ N_6 (upd f_7 j_15 (vp_nar .short (f_7 j_12))))) → sp_w κ x (sp_F κ x Rt Xt mc ms) k n 101 [(0, .ref a0), (1, .int v1), (2, .int v2), (3, .int v3), (4, .int v4), (5, .int v5), (6, .int v6), (7, .int (v7 + (-1)))] [] μ_18))))))))))) : sp_w κ x (sp_F κ x Rt Xt mc ms) k n 101 [(0, .ref a0), (1, .int v1), (2, .int v2), (3, .int v3), (4, .int v4), (5, .int v5), (6, .int v6), (7, .int v7)] [] μ := by
  refine sr_iload h dM_come_101 7 rfl ?_
  refine sr_if_le (tgt := 160) h dM_come_103 (by decide) (fun c_20 => ?_) (fun c_20 => ?_)
  · replace vc := vc.1 c_20
    exact vc
  · replace vc := vc.2 c_20
    refine sr_aload_n h dM_come_106 rfl 0 rfl ?_
    obtain ⟨fs_1, ho_2, vc⟩ := vc
    obtain ⟨r_3, hv_4, vc⟩ := vc
    refine sr_get h inM rfl 7 (by decide) kw_461 dM_come_107 ho_2 hv_4 ?_
    refine sr_bipush (v := 16) h dM_come_110 (by decide) ?_
    refine sr_iload h dM_come_112 4 rfl ?_
    refine sr_imul h dM_come_114 ?_
    refine sr_iload h dM_come_115 7 rfl ?_
    refine sr_iadd h dM_come_117 ?_
    refine sr_iconst (v := 1) h dM_come_118 (by decide) ?_
    refine sr_isub h dM_come_119 ?_
    obtain ⟨a_5, rfl, vc⟩ := vc
    obtain ⟨N_6, f_7, ho_8, vc⟩ := vc
    obtain ⟨j_9, hi_10, hj_11, vc⟩ := vc
    refine sr_sald h dM_come_120 ho_8 hi_10 hj_11 ?_
    refine sr_iload h dM_come_121 6 rfl ?_
    refine sr_icmp_le (tgt := 160) h dM_come_123 (by decide) (fun c_19 => ?_) (fun c_19 => ?_)
    · replace vc := vc.1 c_19
      exact vc
    · replace vc := vc.2 c_19
      refine sr_aload_n h dM_come_126 rfl 0 rfl ?_
      refine sr_get h inM rfl 7 (by decide) kw_461 dM_come_127 ho_2 hv_4 ?_
      refine sr_bipush (v := 16) h dM_come_130 (by decide) ?_
      refine sr_iload h dM_come_132 4 rfl ?_
      refine sr_imul h dM_come_134 ?_
      refine sr_iload h dM_come_135 7 rfl ?_
      refine sr_iadd h dM_come_137 ?_
      refine sr_aload_n h dM_come_138 rfl 0 rfl ?_
      refine sr_get h inM rfl 7 (by decide) kw_461 dM_come_139 ho_2 hv_4 ?_
      refine sr_bipush (v := 16) h dM_come_142 (by decide) ?_
      refine sr_iload h dM_come_144 4 rfl ?_
      refine sr_imul h dM_come_146 ?_
      refine sr_iload h dM_come_147 7 rfl ?_
      refine sr_iadd h dM_come_149 ?_
      refine sr_iconst (v := 1) h dM_come_150 (by decide) ?_
      refine sr_isub h dM_come_151 ?_
      obtain ⟨j_12, hi_13, hj_14, vc⟩ := vc
      refine sr_sald h dM_come_152 ho_8 hi_13 hj_14 ?_
      obtain ⟨j_15, hi_16, hj_17, vc⟩ := vc
      replace vc := vc _ rfl
      refine sr_sast h dM_come_153 ho_8 hi_16 hj_17 ?_
      refine sr_iinc (u := v7 + (-1)) (lv' := [(0, .ref a0), (1, .int v1), (2, .int v2), (3, .int v3), (4, .int v4), (5, .int v5), (6, .int v6), (7, .int (v7 + (-1)))]) h dM_come_154 7 rfl rfl (by decide) rfl ?_
      refine sr_goto (tgt := 101) h dM_come_157 (by decide) ?_
      exact vc
set_option maxRecDepth 100000 in
set_option maxHeartbeats 4000000 in
theorem bkM_come_160 {κ : sp_K} {x : sp_X} {mc ms : Nat} {Rt : Option Value → sp_M → Prop} {Xt : String → sp_M → Prop} {μ : sp_M} {k n : Nat} {a0 : Nat} {v1 : Int32} {v2 : Int32} {v3 : Int32} {v4 : Int32} {v5 : Int32} {v6 : Int32} {v7 : Int32} (h : cxM_come κ x mc ms) (hk : k ≤ mc ∧ n ≤ ms)
    (vc : (∃ fs_1 : List Value, μ a0 = some (.inr (3, fs_1)) ∧ ∃ r_3 : Option Nat, fs_1[7]? = some (va_rf r_3) ∧ (∃ a_5 : Nat, r_3 = some a_5 ∧ ∃ (N_6 : Nat) (f_7 : Nat → Int32), μ a_5 = some (sp_sa κ N_6 f_7) ∧ ∃ j_9 : Nat, (16 * v4) + v7 = nI j_9 ∧ j_9 < N_6 ∧ ∀ μ_12 : sp_M, μ_12 = va_up μ a_5 (some (sp_sa κ N_6 (upd f_7 j_9 (vp_nar .short ((Int32.toInt16 v6).toInt32))))) → sp_w κ x (sp_F κ x Rt Xt mc ms) k n 179 [(0, .ref a0), (1, .int v1), (2, .int v2), (3, .int v3), (4, .int v4), (5, .int v5), (6, .int v6), (7, .int v7), (8, .int 0)] [] μ_12))) : sp_w κ x (sp_F κ x Rt Xt mc ms) k n 160 [(0, .ref a0), (1, .int v1), (2, .int v2), (3, .int v3), (4, .int v4), (5, .int v5), (6, .int v6), (7, .int v7)] [] μ := by
  refine sr_aload_n h dM_come_160 rfl 0 rfl ?_
  obtain ⟨fs_1, ho_2, vc⟩ := vc
  obtain ⟨r_3, hv_4, vc⟩ := vc
  refine sr_get h inM rfl 7 (by decide) kw_461 dM_come_161 ho_2 hv_4 ?_
  refine sr_bipush (v := 16) h dM_come_164 (by decide) ?_
  refine sr_iload h dM_come_166 4 rfl ?_
  refine sr_imul h dM_come_168 ?_
  refine sr_iload h dM_come_169 7 rfl ?_
  refine sr_iadd h dM_come_171 ?_
  refine sr_iload h dM_come_172 6 rfl ?_
  refine sr_i2s h dM_come_174 ?_
  obtain ⟨a_5, rfl, vc⟩ := vc
  obtain ⟨N_6, f_7, ho_8, vc⟩ := vc
  obtain ⟨j_9, hi_10, hj_11, vc⟩ := vc
  replace vc := vc _ rfl
  refine sr_sast h dM_come_175 ho_8 hi_10 hj_11 ?_
  refine sr_iconst (v := 0) h dM_come_176 (by decide) ?_
  refine sr_istore (lv' := [(0, .ref a0), (1, .int v1), (2, .int v2), (3, .int v3), (4, .int v4), (5, .int v5), (6, .int v6), (7, .int v7), (8, .int 0)]) h dM_come_177 (by decide) rfl ?_
  exact vc
set_option maxRecDepth 100000 in
set_option maxHeartbeats 4000000 in
theorem bkM_come_179 {κ : sp_K} {x : sp_X} {mc ms : Nat} {Rt : Option Value → sp_M → Prop} {Xt : String → sp_M → Prop} {μ : sp_M} {k n : Nat} {a0 : Nat} {v1 : Int32} {v2 : Int32} {v3 : Int32} {v4 : Int32} {v5 : Int32} {v6 : Int32} {v7 : Int32} {v8 : Int32} (h : cxM_come κ x mc ms) (hk : k ≤ mc ∧ n ≤ ms)
    (vc : ((16 ≤ v8 → sp_w κ x (sp_F κ x Rt Xt mc ms) k n 71 [(0, .ref a0), (1, .int v1), (2, .int v2), (3, .int v3), (4, .int v4), (5, .int (v5 + 1))] [] μ) ∧ (¬ 16 ≤ v8 → (∃ fs_1 : List Value, μ a0 = some (.inr (3, fs_1)) ∧ ∃ r_3 : Option Nat, fs_1[8]? = some (va_rf r_3) ∧ (∃ a_5 : Nat, r_3 = some a_5 ∧ ∃ (N_6 : Nat) (f_7 : Nat → Int32), μ a_5 = some (sp_sa κ N_6 f_7) ∧ ∃ j_9 : Nat, (16 * v6) + v8 = nI j_9 ∧ j_9 < N_6 ∧ ((∃ j_12 : Nat, (16 * v4) + v8 = nI j_12 ∧ j_12 < N_6 ∧ (((f_7 j_9) ≤ (f_7 j_12) → sp_w κ x (sp_F κ x Rt Xt mc ms) k n 179 [(0, .ref a0), (1, .int v1), (2, .int v2), (3, .int v3), (4, .int v4), (5, .int v5), (6, .int v6), (7, .int v7), (8, .int (v8 + 1))] [] μ) ∧ (¬ (f_7 j_9) ≤ (f_7 j_12) → (((∃ j_15 : Nat, (16 * v6) + v8 = nI j_15 ∧ j_15 < N_6 ∧ (∃ j_18 : Nat, (16 * v4) + v8 = nI j_18 ∧ j_18 < N_6 ∧ ∀ μ_21 : sp_M, μ_21 = va_up μ a_5 (some (sp_sa κ N_6 (upd f_7 j_18 (vp_nar .short (f_7 j_15))))) → sp_w κ x (sp_F κ x Rt Xt mc ms) k n 179 [(0, .ref a0), (1, .int v1), (2, .int v2), (3, .int v3), (4, .int v4), (5, .int v5), (6, .int v6), (7, .int v7), (8, .int (v8 + 1))] [] μ_21))))))))))))) : sp_w κ x (sp_F κ x Rt Xt mc ms) k n 179 [(0, .ref a0), (1, .int v1), (2, .int v2), (3, .int v3), (4, .int v4), (5, .int v5), (6, .int v6), (7, .int v7), (8, .int v8)] [] μ := by
  refine sr_iload h dM_come_179 8 rfl ?_
  refine sr_bipush (v := 16) h dM_come_181 (by decide) ?_
  refine sr_icmp_ge (tgt := 247) h dM_come_183 (by decide) (fun c_23 => ?_) (fun c_23 => ?_)
  · replace vc := vc.1 c_23
    refine sr_iinc (u := v5 + 1) (lv' := [(0, .ref a0), (1, .int v1), (2, .int v2), (3, .int v3), (4, .int v4), (5, .int (v5 + 1)), (6, .int v6), (7, .int v7), (8, .int v8)]) h dM_come_247 5 rfl rfl (by decide) rfl ?_
    refine sr_goto (tgt := 71) h dM_come_250 (by decide) ?_
    exact sr_sub (lv' := [(0, .ref a0), (1, .int v1), (2, .int v2), (3, .int v3), (4, .int v4), (5, .int (v5 + 1))]) [0, 1, 2, 3, 4, 5] rfl vc
  · replace vc := vc.2 c_23
    refine sr_aload_n h dM_come_186 rfl 0 rfl ?_
    obtain ⟨fs_1, ho_2, vc⟩ := vc
    obtain ⟨r_3, hv_4, vc⟩ := vc
    refine sr_get h inM rfl 8 (by decide) kw_462 dM_come_187 ho_2 hv_4 ?_
    refine sr_bipush (v := 16) h dM_come_190 (by decide) ?_
    refine sr_iload h dM_come_192 6 rfl ?_
    refine sr_imul h dM_come_194 ?_
    refine sr_iload h dM_come_195 8 rfl ?_
    refine sr_iadd h dM_come_197 ?_
    obtain ⟨a_5, rfl, vc⟩ := vc
    obtain ⟨N_6, f_7, ho_8, vc⟩ := vc
    obtain ⟨j_9, hi_10, hj_11, vc⟩ := vc
    refine sr_sald h dM_come_198 ho_8 hi_10 hj_11 ?_
    refine sr_aload_n h dM_come_199 rfl 0 rfl ?_
    refine sr_get h inM rfl 8 (by decide) kw_462 dM_come_200 ho_2 hv_4 ?_
    refine sr_bipush (v := 16) h dM_come_203 (by decide) ?_
    refine sr_iload h dM_come_205 4 rfl ?_
    refine sr_imul h dM_come_207 ?_
    refine sr_iload h dM_come_208 8 rfl ?_
    refine sr_iadd h dM_come_210 ?_
    obtain ⟨j_12, hi_13, hj_14, vc⟩ := vc
    refine sr_sald h dM_come_211 ho_8 hi_13 hj_14 ?_
    refine sr_icmp_le (tgt := 241) h dM_come_212 (by decide) (fun c_22 => ?_) (fun c_22 => ?_)
    · replace vc := vc.1 c_22
      refine sr_iinc (u := v8 + 1) (lv' := [(0, .ref a0), (1, .int v1), (2, .int v2), (3, .int v3), (4, .int v4), (5, .int v5), (6, .int v6), (7, .int v7), (8, .int (v8 + 1))]) h dM_come_241 8 rfl rfl (by decide) rfl ?_
      refine sr_goto (tgt := 179) h dM_come_244 (by decide) ?_
      exact vc
    · replace vc := vc.2 c_22
      refine sr_aload_n h dM_come_215 rfl 0 rfl ?_
      refine sr_get h inM rfl 8 (by decide) kw_462 dM_come_216 ho_2 hv_4 ?_
      refine sr_bipush (v := 16) h dM_come_219 (by decide) ?_
      refine sr_iload h dM_come_221 4 rfl ?_
      refine sr_imul h dM_come_223 ?_
      refine sr_iload h dM_come_224 8 rfl ?_
      refine sr_iadd h dM_come_226 ?_
      refine sr_aload_n h dM_come_227 rfl 0 rfl ?_
      refine sr_get h inM rfl 8 (by decide) kw_462 dM_come_228 ho_2 hv_4 ?_
      refine sr_bipush (v := 16) h dM_come_231 (by decide) ?_
      refine sr_iload h dM_come_233 6 rfl ?_
      refine sr_imul h dM_come_235 ?_
      refine sr_iload h dM_come_236 8 rfl ?_
      refine sr_iadd h dM_come_238 ?_
      obtain ⟨j_15, hi_16, hj_17, vc⟩ := vc
      refine sr_sald h dM_come_239 ho_8 hi_16 hj_17 ?_
      obtain ⟨j_18, hi_19, hj_20, vc⟩ := vc
      replace vc := vc _ rfl
      refine sr_sast h dM_come_240 ho_8 hi_19 hj_20 ?_
      refine sr_iinc (u := v8 + 1) (lv' := [(0, .ref a0), (1, .int v1), (2, .int v2), (3, .int v3), (4, .int v4), (5, .int v5), (6, .int v6), (7, .int v7), (8, .int (v8 + 1))]) h dM_come_241 8 rfl rfl (by decide) rfl ?_
      refine sr_goto (tgt := 179) h dM_come_244 (by decide) ?_
      exact vc
set_option maxRecDepth 100000 in
set_option maxHeartbeats 4000000 in
theorem bkM_come_292 {κ : sp_K} {x : sp_X} {mc ms : Nat} {Rt : Option Value → sp_M → Prop} {Xt : String → sp_M → Prop} {μ : sp_M} {k n : Nat} {a0 : Nat} {v1 : Int32} {v2 : Int32} {v3 : Int32} {v4 : Int32} {v5 : Int32} (h : cxM_come κ x mc ms) (hk : k ≤ mc ∧ n ≤ ms)
    (vc : (∃ fs_1 : List Value, μ a0 = some (.inr (3, fs_1)) ∧ ∃ r_3 : Option Nat, fs_1[3]? = some (va_rf r_3) ∧ (∃ a_5 : Nat, r_3 = some a_5 ∧ ∃ (N_6 : Nat) (f_7 : Nat → Option Nat), μ a_5 = some (sp_ra κ 5 N_6 f_7) ∧ ∃ j_9 : Nat, v1 = nI j_9 ∧ j_9 < N_6 ∧ ∃ r_12 : Option Nat, f_7 j_9 = r_12 ∧ (∃ r_14 : Option Nat, fs_1[1]? = some (va_rf r_14) ∧ (∃ a_16 : Nat, r_14 = some a_16 ∧ ∃ (N_17 : Nat) (f_18 : Nat → Int32), μ a_16 = some (sp_ia κ N_17 f_18) ∧ ∃ j_20 : Nat, v1 = nI j_20 ∧ j_20 < N_17 ∧ (∃ a_23 : Nat, r_12 = some a_23 ∧ ∃ (N_24 : Nat) (f_25 : Nat → Int32), μ a_23 = some (sp_ia κ N_24 f_25) ∧ ∃ j_27 : Nat, f_18 j_20 = nI j_27 ∧ j_27 < N_24 ∧ ∀ μ_30 : sp_M, μ_30 = va_up μ a_23 (some (sp_ia κ N_24 (upd f_25 j_27 v4))) → (∃ fs_31 : List Value, μ_30 a0 = some (.inr (3, fs_31)) ∧ ∃ r_33 : Option Nat, fs_31[1]? = some (va_rf r_33) ∧ (∃ a_35 : Nat, r_33 = some a_35 ∧ ∃ (N_36 : Nat) (f_37 : Nat → Int32), μ_30 a_35 = some (sp_ia κ N_36 f_37) ∧ ∃ j_39 : Nat, v1 = nI j_39 ∧ j_39 < N_36 ∧ (∃ j_42 : Nat, v1 = nI j_42 ∧ j_42 < N_36 ∧ ∀ μ_45 : sp_M, μ_45 = va_up μ_30 a_35 (some (sp_ia κ N_36 (upd f_37 j_42 ((f_37 j_39) + 1)))) → (∃ fs_46 : List Value, μ_45 a0 = some (.inr (3, fs_46)) ∧ ∃ r_48 : Option Nat, fs_46[8]? = some (va_rf r_48) ∧ (∃ r_50 : Option Nat, fs_46[1]? = some (va_rf r_50) ∧ (∃ a_52 : Nat, r_50 = some a_52 ∧ ∃ (N_53 : Nat) (f_54 : Nat → Int32), μ_45 a_52 = some (sp_ia κ N_53 f_54) ∧ ∃ j_56 : Nat, v1 = nI j_56 ∧ j_56 < N_53 ∧ (∃ a_59 : Nat, r_48 = some a_59 ∧ ∃ (N_60 : Nat) (f_61 : Nat → Int32), μ_45 a_59 = some (sp_sa κ N_60 f_61) ∧ ∃ j_63 : Nat, (16 * v4) + v1 = nI j_63 ∧ j_63 < N_60 ∧ ∀ μ_66 : sp_M, μ_66 = va_up μ_45 a_59 (some (sp_sa κ N_60 (upd f_61 j_63 (vp_nar .short ((Int32.toInt16 (f_54 j_56)).toInt32))))) → (∃ fs_67 : List Value, μ_66 a0 = some (.inr (3, fs_67)) ∧ ∃ v_69 : Int32, fs_67[9]? = some (.int v_69) ∧ (9 < fs_67.length ∧ ∀ μ_71 : sp_M, μ_71 = va_up μ_66 a0 (some (.inr (3, fs_67.set 9 (.int (v_69 + 1))))) → Rt none μ_71))))))))))))))) : sp_w κ x (sp_F κ x Rt Xt mc ms) k n 292 [(0, .ref a0), (1, .int v1), (2, .int v2), (3, .int v3), (4, .int v4), (5, .int v5)] [] μ := by
  refine sr_aload_n h dM_come_292 rfl 0 rfl ?_
  obtain ⟨fs_1, ho_2, vc⟩ := vc
  obtain ⟨r_3, hv_4, vc⟩ := vc
  refine sr_get h inM rfl 3 (by decide) kw_457 dM_come_293 ho_2 hv_4 ?_
  refine sr_iload_n h dM_come_296 rfl 1 rfl ?_
  obtain ⟨a_5, rfl, vc⟩ := vc
  obtain ⟨N_6, f_7, ho_8, vc⟩ := vc
  obtain ⟨j_9, hi_10, hj_11, vc⟩ := vc
  obtain ⟨r_12, hr_13, vc⟩ := vc
  refine sr_aaldA h dM_come_297 ho_8 hi_10 hj_11 hr_13 ?_
  refine sr_aload_n h dM_come_298 rfl 0 rfl ?_
  obtain ⟨r_14, hv_15, vc⟩ := vc
  refine sr_get h inM rfl 1 (by decide) kw_455 dM_come_299 ho_2 hv_15 ?_
  refine sr_iload_n h dM_come_302 rfl 1 rfl ?_
  obtain ⟨a_16, rfl, vc⟩ := vc
  obtain ⟨N_17, f_18, ho_19, vc⟩ := vc
  obtain ⟨j_20, hi_21, hj_22, vc⟩ := vc
  refine sr_iald h dM_come_303 ho_19 hi_21 hj_22 ?_
  refine sr_iload h dM_come_304 4 rfl ?_
  obtain ⟨a_23, rfl, vc⟩ := vc
  obtain ⟨N_24, f_25, ho_26, vc⟩ := vc
  obtain ⟨j_27, hi_28, hj_29, vc⟩ := vc
  replace vc := vc _ rfl
  refine sr_iast h dM_come_306 ho_26 hi_28 hj_29 ?_
  refine sr_aload_n h dM_come_307 rfl 0 rfl ?_
  obtain ⟨fs_31, ho_32, vc⟩ := vc
  obtain ⟨r_33, hv_34, vc⟩ := vc
  refine sr_get h inM rfl 1 (by decide) kw_455 dM_come_308 ho_32 hv_34 ?_
  refine sr_iload_n h dM_come_311 rfl 1 rfl ?_
  refine sr_dup2 h dM_come_312 (sp_c1i _) (sp_c1o _) ?_
  obtain ⟨a_35, rfl, vc⟩ := vc
  obtain ⟨N_36, f_37, ho_38, vc⟩ := vc
  obtain ⟨j_39, hi_40, hj_41, vc⟩ := vc
  refine sr_iald h dM_come_313 ho_38 hi_40 hj_41 ?_
  refine sr_iconst (v := 1) h dM_come_314 (by decide) ?_
  refine sr_iadd h dM_come_315 ?_
  obtain ⟨j_42, hi_43, hj_44, vc⟩ := vc
  replace vc := vc _ rfl
  refine sr_iast h dM_come_316 ho_38 hi_43 hj_44 ?_
  refine sr_aload_n h dM_come_317 rfl 0 rfl ?_
  obtain ⟨fs_46, ho_47, vc⟩ := vc
  obtain ⟨r_48, hv_49, vc⟩ := vc
  refine sr_get h inM rfl 8 (by decide) kw_462 dM_come_318 ho_47 hv_49 ?_
  refine sr_bipush (v := 16) h dM_come_321 (by decide) ?_
  refine sr_iload h dM_come_323 4 rfl ?_
  refine sr_imul h dM_come_325 ?_
  refine sr_iload_n h dM_come_326 rfl 1 rfl ?_
  refine sr_iadd h dM_come_327 ?_
  refine sr_aload_n h dM_come_328 rfl 0 rfl ?_
  obtain ⟨r_50, hv_51, vc⟩ := vc
  refine sr_get h inM rfl 1 (by decide) kw_455 dM_come_329 ho_47 hv_51 ?_
  refine sr_iload_n h dM_come_332 rfl 1 rfl ?_
  obtain ⟨a_52, rfl, vc⟩ := vc
  obtain ⟨N_53, f_54, ho_55, vc⟩ := vc
  obtain ⟨j_56, hi_57, hj_58, vc⟩ := vc
  refine sr_iald h dM_come_333 ho_55 hi_57 hj_58 ?_
  refine sr_i2s h dM_come_334 ?_
  obtain ⟨a_59, rfl, vc⟩ := vc
  obtain ⟨N_60, f_61, ho_62, vc⟩ := vc
  obtain ⟨j_63, hi_64, hj_65, vc⟩ := vc
  replace vc := vc _ rfl
  refine sr_sast h dM_come_335 ho_62 hi_64 hj_65 ?_
  refine sr_aload_n h dM_come_336 rfl 0 rfl ?_
  refine sr_dup h dM_come_337 (sp_c1r _) ?_
  obtain ⟨fs_67, ho_68, vc⟩ := vc
  obtain ⟨v_69, hv_70, vc⟩ := vc
  refine sr_get h inM rfl 9 (by decide) kw_463 dM_come_338 ho_68 hv_70 ?_
  refine sr_iconst (v := 1) h dM_come_341 (by decide) ?_
  refine sr_iadd h dM_come_342 ?_
  obtain ⟨hl_72, vc⟩ := vc
  replace vc := vc _ rfl
  refine sr_put h inM tyM tyM_ok nmM rfl 9 (by decide) kw_463 rfl dM_come_343 ho_68 rfl rfl hl_72 ?_
  exact sr_vret h dM_come_346 hk.1 hk.2 vc

abbrev cxM_events (κ : sp_K) (x : sp_X) (mc ms : Nat) : Prop := sp_C κ x cM_events 3 RM (some .int) (tableOf hhM_events) "events" (sp_rm 7 112 mc ms)
set_option maxRecDepth 100000 in
set_option maxHeartbeats 4000000 in
theorem bkM_events_0 {κ : sp_K} {x : sp_X} {mc ms : Nat} {Rt : Option Value → sp_M → Prop} {Xt : String → sp_M → Prop} {μ : sp_M} {k n : Nat} {a0 : Nat} {v1 : Int32} (h : cxM_events κ x mc ms) (hk : k ≤ mc ∧ n ≤ ms)
    (vc : (∃ fs_1 : List Value, μ a0 = some (.inr (3, fs_1)) ∧ 13 < fs_1.length ∧ ∀ μ_3 : sp_M, μ_3 = va_up μ a0 (some (.inr (3, fs_1.set 13 (.int 0)))) → (∃ mc_5 ms_6 : Nat, (k + mc_5 ≤ mc ∧ n + ms_6 ≤ ms) ∧ ∃ fs_10 : List Value, μ_3 a0 = some (.inr (3, fs_10)) ∧ sp_m x.2.1 κ yM_events0 wM_events0 6 90 mc_5 ms_6 [.ref a0, .int v1] μ_3 (fun v_8 μ_9 => ∃ v_13 : Int32, v_8 = some (.int v_13) ∧ Rt (some (.int v_13)) μ_9) (fun E_14 μ_9 => ((E_14 = "java/lang/IllegalArgumentException" ∧ ∀ q_15 : Nat, (∃ fs_16 : List Value, μ_9 a0 = some (.inr (3, fs_16)) ∧ 13 < fs_16.length ∧ ∀ μ_18 : sp_M, μ_18 = va_up μ_9 a0 (some (.inr (3, fs_16.set 13 (.int 1)))) → Rt (some (.int 0)) μ_18))))))) : sp_w κ x (sp_F κ x Rt Xt mc ms) k n 0 [(0, .ref a0), (1, .int v1)] [] μ := by
  refine sr_aload_n h dM_events_0 rfl 0 rfl ?_
  refine sr_iconst (v := 0) h dM_events_1 (by decide) ?_
  obtain ⟨fs_1, ho_2, vc⟩ := vc
  obtain ⟨hl_4, vc⟩ := vc
  replace vc := vc _ rfl
  refine sr_put h inM tyM tyM_ok nmM rfl 13 (by decide) kw_467 rfl dM_events_2 ho_2 rfl rfl hl_4 ?_
  refine sr_aload_n h dM_events_5 rfl 0 rfl ?_
  refine sr_iload_n h dM_events_6 rfl 1 rfl ?_
  obtain ⟨mc_5, ms_6, hc_7, vc⟩ := vc
  obtain ⟨fs_10, ho_11, vc⟩ := vc
  refine sr_callV (y := yM_events0) (n0 := 1) (As := [.int v1]) h (sp_gV kw_566 kw_568 kw_21 kw_35 kw_569) rfl (by decide +kernel) ⟨Nat.le_of_ble_eq_true rfl, Nat.le_of_ble_eq_true rfl⟩ (ci := 3) rfl dM_events_7 rfl rfl (Nat.le_of_ble_eq_true rfl) hc_7 ho_11 vc (fun v_8 μ_9 vc' => ?_) (fun E_14 μ_9 vc' => ?_)
  · replace vc := vc'
    clear vc'
    obtain ⟨v_13, rfl, vc⟩ := vc
    exact sr_iret h dM_events_10 hc_7.1 hc_7.2 vc
  · replace vc := vc'
    clear vc'
    obtain ⟨rfl, vc⟩ := vc
    refine st_catch h [] ({ startPc := 5, endPc := 10, handlerPc := 11, catchType := 87 }) [] rfl (fun _ z => nomatch z) (by decide) (by decide) (name := "java/lang/IllegalArgumentException") kw_551 kt_249 (fun q_15 => ?_)
    replace vc := vc q_15
    refine sr_astore_n (lv' := [(0, .ref a0), (1, .int v1), (2, .ref q_15)]) h dM_events_11 rfl (by decide) rfl ?_
    refine sr_aload_n h dM_events_12 rfl 0 rfl ?_
    refine sr_iconst (v := 1) h dM_events_13 (by decide) ?_
    obtain ⟨fs_16, ho_17, vc⟩ := vc
    obtain ⟨hl_19, vc⟩ := vc
    replace vc := vc _ rfl
    refine sr_put h inM tyM tyM_ok nmM rfl 13 (by decide) kw_467 rfl dM_events_14 ho_17 rfl rfl hl_19 ?_
    refine sr_iconst (v := 0) h dM_events_17 (by decide) ?_
    exact sr_iret h dM_events_18 hc_7.1 hc_7.2 vc

abbrev cxM_events0 (κ : sp_K) (x : sp_X) (mc ms : Nat) : Prop := sp_C κ x cM_events0 3 RM (some .int) [] "events0" (sp_rm 6 90 mc ms)
set_option maxRecDepth 100000 in
set_option maxHeartbeats 4000000 in
theorem bkM_events0_0 {κ : sp_K} {x : sp_X} {mc ms : Nat} {Rt : Option Value → sp_M → Prop} {Xt : String → sp_M → Prop} {μ : sp_M} {k n : Nat} {a0 : Nat} {v1 : Int32} (h : cxM_events0 κ x mc ms) (hk : k ≤ mc ∧ n ≤ ms)
    (vc : ((v1 < (-1) → ((k + 1 ≤ mc ∧ n + 6 ≤ ms) ∧ Xt "java/lang/IllegalArgumentException" μ)) ∧ (¬ v1 < (-1) → ((v1 ≤ 255 → (∃ mc_2 ms_3 : Nat, (k + mc_2 ≤ mc ∧ n + ms_3 ≤ ms) ∧ ∃ fs_7 : List Value, μ a0 = some (.inr (3, fs_7)) ∧ sp_m x.2.1 κ yM_slotOf wM_slotOf 0 0 mc_2 ms_3 [.ref a0, .int v1] μ (fun v_5 μ_6 => ∃ v_10 : Int32, v_5 = some (.int v_10) ∧ ((0 ≤ v1 → ((0 ≤ v_10 → (∃ fs_11 : List Value, μ_6 a0 = some (.inr (3, fs_11)) ∧ ∃ r_13 : Option Nat, fs_11[1]? = some (va_rf r_13) ∧ (∃ a_15 : Nat, r_13 = some a_15 ∧ ∃ (N_16 : Nat) (f_17 : Nat → Int32), μ_6 a_15 = some (sp_ia κ N_16 f_17) ∧ ∃ j_19 : Nat, v_10 = nI j_19 ∧ j_19 < N_16 ∧ Rt (some (.int (f_17 j_19))) μ_6))) ∧ (¬ 0 ≤ v_10 → Rt (some (.int 0)) μ_6))) ∧ (¬ 0 ≤ v1 → (∃ fs_23 : List Value, μ_6 a0 = some (.inr (3, fs_23)) ∧ ∃ v_25 : Int32, fs_23[9]? = some (.int v_25) ∧ Rt (some (.int v_25)) μ_6)))) (fun E_28 μ_6 => Xt E_28 μ_6))) ∧ (¬ v1 ≤ 255 → ((k + 1 ≤ mc ∧ n + 6 ≤ ms) ∧ Xt "java/lang/IllegalArgumentException" μ)))))) : sp_w κ x (sp_F κ x Rt Xt mc ms) k n 0 [(0, .ref a0), (1, .int v1)] [] μ := by
  refine sr_iload_n h dM_events0_0 rfl 1 rfl ?_
  refine sr_iconst (v := -1) h dM_events0_1 (by decide) ?_
  refine sr_icmp_lt (tgt := 12) h dM_events0_2 (by decide) (fun c_31 => ?_) (fun c_31 => ?_)
  · replace vc := vc.1 c_31
    obtain ⟨hc_1, vc⟩ := vc
    exact sr_throw0 (names := ["java/lang/RuntimeException", "java/lang/Exception"]) h (by decide +kernel) (by decide +kernel) kw_551 kw_42 ka_M_89 kg_M_89 dM_events0_12 dM_events0_15 dM_events0_16 dM_events0_19 (fun _ z => nomatch z) (Nat.le_of_ble_eq_true rfl) (Nat.le_of_ble_eq_true rfl) hc_1.1 hc_1.2 hc_1.1 hc_1.2 vc
  · replace vc := vc.2 c_31
    refine sr_iload_n h dM_events0_5 rfl 1 rfl ?_
    refine sr_sipush (v := 255) h dM_events0_6 (by decide) ?_
    refine sr_icmp_le (tgt := 20) h dM_events0_9 (by decide) (fun c_30 => ?_) (fun c_30 => ?_)
    · replace vc := vc.1 c_30
      refine sr_aload_n h dM_events0_20 rfl 0 rfl ?_
      refine sr_iload_n h dM_events0_21 rfl 1 rfl ?_
      obtain ⟨mc_2, ms_3, hc_4, vc⟩ := vc
      obtain ⟨fs_7, ho_8, vc⟩ := vc
      refine sr_callV (y := yM_slotOf) (n0 := 1) (As := [.int v1]) h (sp_gV kw_517 kw_519 kw_14 kw_35 kw_520) rfl (by decide +kernel) ⟨Nat.le_of_ble_eq_true rfl, Nat.le_of_ble_eq_true rfl⟩ (ci := 3) rfl dM_events0_22 rfl rfl (Nat.le_of_ble_eq_true rfl) hc_4 ho_8 vc (fun v_5 μ_6 vc' => ?_) (fun E_28 μ_6 vc' => ?_)
      · replace vc := vc'
        clear vc'
        obtain ⟨v_10, rfl, vc⟩ := vc
        refine sr_istore_n (lv' := [(0, .ref a0), (1, .int v1), (2, .int v_10)]) h dM_events0_25 rfl (by decide) rfl ?_
        refine sr_iload_n h dM_events0_26 rfl 1 rfl ?_
        refine sr_if_ge (tgt := 37) h dM_events0_27 (by decide) (fun c_27 => ?_) (fun c_27 => ?_)
        · replace vc := vc.1 c_27
          refine sr_iload_n h dM_events0_37 rfl 2 rfl ?_
          refine sr_if_ge (tgt := 45) h dM_events0_38 (by decide) (fun c_22 => ?_) (fun c_22 => ?_)
          · replace vc := vc.1 c_22
            refine sr_aload_n h dM_events0_45 rfl 0 rfl ?_
            obtain ⟨fs_11, ho_12, vc⟩ := vc
            obtain ⟨r_13, hv_14, vc⟩ := vc
            refine sr_get h inM rfl 1 (by decide) kw_455 dM_events0_46 ho_12 hv_14 ?_
            refine sr_iload_n h dM_events0_49 rfl 2 rfl ?_
            obtain ⟨a_15, rfl, vc⟩ := vc
            obtain ⟨N_16, f_17, ho_18, vc⟩ := vc
            obtain ⟨j_19, hi_20, hj_21, vc⟩ := vc
            refine sr_iald h dM_events0_50 ho_18 hi_20 hj_21 ?_
            exact sr_iret h dM_events0_51 hc_4.1 hc_4.2 vc
          · replace vc := vc.2 c_22
            refine sr_iconst (v := 0) h dM_events0_41 (by decide) ?_
            refine sr_goto (tgt := 51) h dM_events0_42 (by decide) ?_
            exact sr_iret h dM_events0_51 hc_4.1 hc_4.2 vc
        · replace vc := vc.2 c_27
          refine sr_aload_n h dM_events0_30 rfl 0 rfl ?_
          obtain ⟨fs_23, ho_24, vc⟩ := vc
          obtain ⟨v_25, hv_26, vc⟩ := vc
          refine sr_get h inM rfl 9 (by decide) kw_463 dM_events0_31 ho_24 hv_26 ?_
          refine sr_goto (tgt := 51) h dM_events0_34 (by decide) ?_
          exact sr_iret h dM_events0_51 hc_4.1 hc_4.2 vc
      · replace vc := vc'
        clear vc'
        exact st_out h (fun _ z => nomatch z) hc_4.1 hc_4.2 vc
    · replace vc := vc.2 c_30
      obtain ⟨hc_29, vc⟩ := vc
      exact sr_throw0 (names := ["java/lang/RuntimeException", "java/lang/Exception"]) h (by decide +kernel) (by decide +kernel) kw_551 kw_42 ka_M_89 kg_M_89 dM_events0_12 dM_events0_15 dM_events0_16 dM_events0_19 (fun _ z => nomatch z) (Nat.le_of_ble_eq_true rfl) (Nat.le_of_ble_eq_true rfl) hc_29.1 hc_29.2 hc_29.1 hc_29.2 vc

abbrev cxM_place (κ : sp_K) (x : sp_X) (mc ms : Nat) : Prop := sp_C κ x cM_place 4 RM (some .int) (tableOf hhM_place) "place" (sp_rm 8 133 mc ms)
set_option maxRecDepth 100000 in
set_option maxHeartbeats 4000000 in
theorem bkM_place_0 {κ : sp_K} {x : sp_X} {mc ms : Nat} {Rt : Option Value → sp_M → Prop} {Xt : String → sp_M → Prop} {μ : sp_M} {k n : Nat} {a0 : Nat} {v1 : Int32} {v2 : Int32} (h : cxM_place κ x mc ms) (hk : k ≤ mc ∧ n ≤ ms)
    (vc : (∃ fs_1 : List Value, μ a0 = some (.inr (3, fs_1)) ∧ 13 < fs_1.length ∧ ∀ μ_3 : sp_M, μ_3 = va_up μ a0 (some (.inr (3, fs_1.set 13 (.int 0)))) → (∃ mc_5 ms_6 : Nat, (k + mc_5 ≤ mc ∧ n + ms_6 ≤ ms) ∧ ∃ fs_10 : List Value, μ_3 a0 = some (.inr (3, fs_10)) ∧ sp_m x.2.1 κ yM_place0 wM_place0 7 110 mc_5 ms_6 [.ref a0, .int v1, .int v2] μ_3 (fun v_8 μ_9 => ∃ v_13 : Int32, v_8 = some (.int v_13) ∧ Rt (some (.int v_13)) μ_9) (fun E_14 μ_9 => ((E_14 = "java/util/NoSuchElementException" ∧ ∀ q_15 : Nat, (∃ fs_16 : List Value, μ_9 a0 = some (.inr (3, fs_16)) ∧ 13 < fs_16.length ∧ ∀ μ_18 : sp_M, μ_18 = va_up μ_9 a0 (some (.inr (3, fs_16.set 13 (.int 1)))) → Rt (some (.int 0)) μ_18))))))) : sp_w κ x (sp_F κ x Rt Xt mc ms) k n 0 [(0, .ref a0), (1, .int v1), (2, .int v2)] [] μ := by
  refine sr_aload_n h dM_place_0 rfl 0 rfl ?_
  refine sr_iconst (v := 0) h dM_place_1 (by decide) ?_
  obtain ⟨fs_1, ho_2, vc⟩ := vc
  obtain ⟨hl_4, vc⟩ := vc
  replace vc := vc _ rfl
  refine sr_put h inM tyM tyM_ok nmM rfl 13 (by decide) kw_467 rfl dM_place_2 ho_2 rfl rfl hl_4 ?_
  refine sr_aload_n h dM_place_5 rfl 0 rfl ?_
  refine sr_iload_n h dM_place_6 rfl 1 rfl ?_
  refine sr_iload_n h dM_place_7 rfl 2 rfl ?_
  obtain ⟨mc_5, ms_6, hc_7, vc⟩ := vc
  obtain ⟨fs_10, ho_11, vc⟩ := vc
  refine sr_callV (y := yM_place0) (n0 := 2) (As := [.int v1, .int v2]) h (sp_gV kw_574 kw_576 kw_22 kw_35 kw_577) rfl (by decide +kernel) ⟨Nat.le_of_ble_eq_true rfl, Nat.le_of_ble_eq_true rfl⟩ (ci := 3) rfl dM_place_8 rfl rfl (Nat.le_of_ble_eq_true rfl) hc_7 ho_11 vc (fun v_8 μ_9 vc' => ?_) (fun E_14 μ_9 vc' => ?_)
  · replace vc := vc'
    clear vc'
    obtain ⟨v_13, rfl, vc⟩ := vc
    exact sr_iret h dM_place_11 hc_7.1 hc_7.2 vc
  · replace vc := vc'
    clear vc'
    obtain ⟨rfl, vc⟩ := vc
    refine st_catch h [] ({ startPc := 5, endPc := 11, handlerPc := 12, catchType := 44 }) [] rfl (fun _ z => nomatch z) (by decide) (by decide) (name := "java/util/NoSuchElementException") kw_506 kt_131 (fun q_15 => ?_)
    replace vc := vc q_15
    refine sr_astore_n (lv' := [(0, .ref a0), (1, .int v1), (2, .int v2), (3, .ref q_15)]) h dM_place_12 rfl (by decide) rfl ?_
    refine sr_aload_n h dM_place_13 rfl 0 rfl ?_
    refine sr_iconst (v := 1) h dM_place_14 (by decide) ?_
    obtain ⟨fs_16, ho_17, vc⟩ := vc
    obtain ⟨hl_19, vc⟩ := vc
    replace vc := vc _ rfl
    refine sr_put h inM tyM tyM_ok nmM rfl 13 (by decide) kw_467 rfl dM_place_15 ho_17 rfl rfl hl_19 ?_
    refine sr_iconst (v := 0) h dM_place_18 (by decide) ?_
    exact sr_iret h dM_place_19 hc_7.1 hc_7.2 vc

abbrev cxM_place0 (κ : sp_K) (x : sp_X) (mc ms : Nat) : Prop := sp_C κ x cM_place0 4 RM (some .int) [] "place0" (sp_rm 7 110 mc ms)
set_option maxRecDepth 100000 in
set_option maxHeartbeats 4000000 in
theorem bkM_place0_0 {κ : sp_K} {x : sp_X} {mc ms : Nat} {Rt : Option Value → sp_M → Prop} {Xt : String → sp_M → Prop} {μ : sp_M} {k n : Nat} {a0 : Nat} {v1 : Int32} {v2 : Int32} (h : cxM_place0 κ x mc ms) (hk : k ≤ mc ∧ n ≤ ms)
    (vc : (∃ mc_1 ms_2 : Nat, (k + mc_1 ≤ mc ∧ n + ms_2 ≤ ms) ∧ ∃ fs_6 : List Value, μ a0 = some (.inr (3, fs_6)) ∧ sp_m x.2.1 κ yM_find wM_find 1 22 mc_1 ms_2 [.ref a0, .int v1, .int v2] μ (fun v_4 μ_5 => ∃ v_9 : Int32, v_4 = some (.int v_9) ∧ ((v_9 < 0 → (∃ mc_10 ms_11 : Nat, ((k + mc_1) + mc_10 ≤ mc ∧ (n + ms_2) + ms_11 ≤ ms) ∧ sp_m x.2.1 κ yM_there wM_there 6 90 mc_10 ms_11 [.int 0] μ_5 (fun v_13 μ_14 => v_13 = none ∧ Rt (some (.int v_9)) μ_14) (fun E_16 μ_14 => Xt E_16 μ_14))) ∧ (¬ v_9 < 0 → (∃ mc_17 ms_18 : Nat, ((k + mc_1) + mc_17 ≤ mc ∧ (n + ms_2) + ms_18 ≤ ms) ∧ sp_m x.2.1 κ yM_there wM_there 6 90 mc_17 ms_18 [.int 1] μ_5 (fun v_20 μ_21 => v_20 = none ∧ Rt (some (.int v_9)) μ_21) (fun E_23 μ_21 => Xt E_23 μ_21))))) (fun E_25 μ_5 => Xt E_25 μ_5))) : sp_w κ x (sp_F κ x Rt Xt mc ms) k n 0 [(0, .ref a0), (1, .int v1), (2, .int v2)] [] μ := by
  refine sr_aload_n h dM_place0_0 rfl 0 rfl ?_
  refine sr_iload_n h dM_place0_1 rfl 1 rfl ?_
  refine sr_iload_n h dM_place0_2 rfl 2 rfl ?_
  obtain ⟨mc_1, ms_2, hc_3, vc⟩ := vc
  obtain ⟨fs_6, ho_7, vc⟩ := vc
  refine sr_callV (y := yM_find) (n0 := 2) (As := [.int v1, .int v2]) h (sp_gV kw_513 kw_515 kw_13 kw_35 kw_516) rfl (by decide +kernel) ⟨Nat.le_of_ble_eq_true rfl, Nat.le_of_ble_eq_true rfl⟩ (ci := 3) rfl dM_place0_3 rfl rfl (Nat.le_of_ble_eq_true rfl) hc_3 ho_7 vc (fun v_4 μ_5 vc' => ?_) (fun E_25 μ_5 vc' => ?_)
  · replace vc := vc'
    clear vc'
    obtain ⟨v_9, rfl, vc⟩ := vc
    refine sr_istore_n (lv' := [(0, .ref a0), (1, .int v1), (2, .int v2), (3, .int v_9)]) h dM_place0_6 rfl (by decide) rfl ?_
    refine sr_iload_n h dM_place0_7 rfl 3 rfl ?_
    refine sr_if_lt (tgt := 15) h dM_place0_8 (by decide) (fun c_24 => ?_) (fun c_24 => ?_)
    · replace vc := vc.1 c_24
      refine sr_iconst (v := 0) h dM_place0_15 (by decide) ?_
      obtain ⟨mc_10, ms_11, hc_12, vc⟩ := vc
      refine sr_callS (y := yM_there) (n0 := 1) (As := [.int 0]) (st := []) h (sp_gS kw_521 kw_522 kw_35 kw_523) rfl (by decide +kernel) ⟨Nat.le_of_ble_eq_true rfl, Nat.le_of_ble_eq_true rfl⟩ dM_place0_16 rfl rfl (Nat.le_of_ble_eq_true rfl) hc_12 vc (fun v_13 μ_14 vc' => ?_) (fun E_16 μ_14 vc' => ?_)
      · replace vc := vc'
        clear vc'
        obtain ⟨rfl, vc⟩ := vc
        refine sr_iload_n h dM_place0_19 rfl 3 rfl ?_
        exact sr_iret h dM_place0_20 hc_12.1 hc_12.2 vc
      · replace vc := vc'
        clear vc'
        exact st_out h (fun _ z => nomatch z) hc_12.1 hc_12.2 vc
    · replace vc := vc.2 c_24
      refine sr_iconst (v := 1) h dM_place0_11 (by decide) ?_
      refine sr_goto (tgt := 16) h dM_place0_12 (by decide) ?_
      obtain ⟨mc_17, ms_18, hc_19, vc⟩ := vc
      refine sr_callS (y := yM_there) (n0 := 1) (As := [.int 1]) (st := []) h (sp_gS kw_521 kw_522 kw_35 kw_523) rfl (by decide +kernel) ⟨Nat.le_of_ble_eq_true rfl, Nat.le_of_ble_eq_true rfl⟩ dM_place0_16 rfl rfl (Nat.le_of_ble_eq_true rfl) hc_19 vc (fun v_20 μ_21 vc' => ?_) (fun E_23 μ_21 vc' => ?_)
      · replace vc := vc'
        clear vc'
        obtain ⟨rfl, vc⟩ := vc
        refine sr_iload_n h dM_place0_19 rfl 3 rfl ?_
        exact sr_iret h dM_place0_20 hc_19.1 hc_19.2 vc
      · replace vc := vc'
        clear vc'
        exact st_out h (fun _ z => nomatch z) hc_19.1 hc_19.2 vc
  · replace vc := vc'
    clear vc'
    exact st_out h (fun _ z => nomatch z) hc_3.1 hc_3.2 vc

abbrev cxM_id (κ : sp_K) (x : sp_X) (mc ms : Nat) : Prop := sp_C κ x cM_id 3 RM (some .long) (tableOf hhM_id) "id" (sp_rm 8 131 mc ms)
set_option maxRecDepth 100000 in
set_option maxHeartbeats 4000000 in
theorem bkM_id_0 {κ : sp_K} {x : sp_X} {mc ms : Nat} {Rt : Option Value → sp_M → Prop} {Xt : String → sp_M → Prop} {μ : sp_M} {k n : Nat} {a0 : Nat} {v1 : Int32} (h : cxM_id κ x mc ms) (hk : k ≤ mc ∧ n ≤ ms)
    (vc : (∃ fs_1 : List Value, μ a0 = some (.inr (3, fs_1)) ∧ 13 < fs_1.length ∧ ∀ μ_3 : sp_M, μ_3 = va_up μ a0 (some (.inr (3, fs_1.set 13 (.int 0)))) → (∃ mc_5 ms_6 : Nat, (k + mc_5 ≤ mc ∧ n + ms_6 ≤ ms) ∧ ∃ fs_10 : List Value, μ_3 a0 = some (.inr (3, fs_10)) ∧ sp_m x.2.1 κ yM_id0 wM_id0 7 110 mc_5 ms_6 [.ref a0, .int v1] μ_3 (fun v_8 μ_9 => ∃ v_13 : Int64, v_8 = some (.long v_13) ∧ Rt (some (.long v_13)) μ_9) (fun E_14 μ_9 => ((E_14 = "java/util/NoSuchElementException" ∧ ∀ q_15 : Nat, (∃ fs_16 : List Value, μ_9 a0 = some (.inr (3, fs_16)) ∧ 13 < fs_16.length ∧ ∀ μ_18 : sp_M, μ_18 = va_up μ_9 a0 (some (.inr (3, fs_16.set 13 (.int 1)))) → Rt (some (.long 0)) μ_18))))))) : sp_w κ x (sp_F κ x Rt Xt mc ms) k n 0 [(0, .ref a0), (1, .int v1)] [] μ := by
  refine sr_aload_n h dM_id_0 rfl 0 rfl ?_
  refine sr_iconst (v := 0) h dM_id_1 (by decide) ?_
  obtain ⟨fs_1, ho_2, vc⟩ := vc
  obtain ⟨hl_4, vc⟩ := vc
  replace vc := vc _ rfl
  refine sr_put h inM tyM tyM_ok nmM rfl 13 (by decide) kw_467 rfl dM_id_2 ho_2 rfl rfl hl_4 ?_
  refine sr_aload_n h dM_id_5 rfl 0 rfl ?_
  refine sr_iload_n h dM_id_6 rfl 1 rfl ?_
  obtain ⟨mc_5, ms_6, hc_7, vc⟩ := vc
  obtain ⟨fs_10, ho_11, vc⟩ := vc
  refine sr_callV (y := yM_id0) (n0 := 1) (As := [.int v1]) h (sp_gV kw_582 kw_584 kw_23 kw_35 kw_585) rfl (by decide +kernel) ⟨Nat.le_of_ble_eq_true rfl, Nat.le_of_ble_eq_true rfl⟩ (ci := 3) rfl dM_id_7 rfl rfl (Nat.le_of_ble_eq_true rfl) hc_7 ho_11 vc (fun v_8 μ_9 vc' => ?_) (fun E_14 μ_9 vc' => ?_)
  · replace vc := vc'
    clear vc'
    obtain ⟨v_13, rfl, vc⟩ := vc
    exact sr_lret h dM_id_10 hc_7.1 hc_7.2 vc
  · replace vc := vc'
    clear vc'
    obtain ⟨rfl, vc⟩ := vc
    refine st_catch h [] ({ startPc := 5, endPc := 10, handlerPc := 11, catchType := 44 }) [] rfl (fun _ z => nomatch z) (by decide) (by decide) (name := "java/util/NoSuchElementException") kw_506 kt_131 (fun q_15 => ?_)
    replace vc := vc q_15
    refine sr_astore_n (lv' := [(0, .ref a0), (1, .int v1), (2, .ref q_15)]) h dM_id_11 rfl (by decide) rfl ?_
    refine sr_aload_n h dM_id_12 rfl 0 rfl ?_
    refine sr_iconst (v := 1) h dM_id_13 (by decide) ?_
    obtain ⟨fs_16, ho_17, vc⟩ := vc
    obtain ⟨hl_19, vc⟩ := vc
    replace vc := vc _ rfl
    refine sr_put h inM tyM tyM_ok nmM rfl 13 (by decide) kw_467 rfl dM_id_14 ho_17 rfl rfl hl_19 ?_
    refine sr_lconst (v := 0) h dM_id_17 (by decide) ?_
    exact sr_lret h dM_id_18 hc_7.1 hc_7.2 vc

abbrev cxM_id0 (κ : sp_K) (x : sp_X) (mc ms : Nat) : Prop := sp_C κ x cM_id0 2 RM (some .long) [] "id0" (sp_rm 7 110 mc ms)
set_option maxRecDepth 100000 in
set_option maxHeartbeats 4000000 in
theorem bkM_id0_0 {κ : sp_K} {x : sp_X} {mc ms : Nat} {Rt : Option Value → sp_M → Prop} {Xt : String → sp_M → Prop} {μ : sp_M} {k n : Nat} {a0 : Nat} {v1 : Int32} (h : cxM_id0 κ x mc ms) (hk : k ≤ mc ∧ n ≤ ms)
    (vc : (∃ mc_1 ms_2 : Nat, (k + mc_1 ≤ mc ∧ n + ms_2 ≤ ms) ∧ ∃ fs_6 : List Value, μ a0 = some (.inr (3, fs_6)) ∧ sp_m x.2.1 κ yM_isPlace wM_isPlace 0 0 mc_1 ms_2 [.ref a0, .int v1] μ (fun v_4 μ_5 => ∃ v_9 : Int32, v_4 = some (.int v_9) ∧ (∃ mc_10 ms_11 : Nat, ((k + mc_1) + mc_10 ≤ mc ∧ (n + ms_2) + ms_11 ≤ ms) ∧ sp_m x.2.1 κ yM_there wM_there 6 90 mc_10 ms_11 [.int v_9] μ_5 (fun v_13 μ_14 => v_13 = none ∧ (∃ fs_16 : List Value, μ_14 a0 = some (.inr (3, fs_16)) ∧ ∃ r_18 : Option Nat, fs_16[0]? = some (va_rf r_18) ∧ (∃ r_20 : Option Nat, fs_16[4]? = some (va_rf r_20) ∧ (∃ a_22 : Nat, r_20 = some a_22 ∧ ∃ (N_23 : Nat) (f_24 : Nat → Int32), μ_14 a_22 = some (sp_sa κ N_23 f_24) ∧ ∃ j_26 : Nat, v1 = nI j_26 ∧ j_26 < N_23 ∧ (∃ a_29 : Nat, r_18 = some a_29 ∧ ∃ (N_30 : Nat) (f_31 : Nat → Int32), μ_14 a_29 = some (sp_ia κ N_30 f_31) ∧ ∃ j_33 : Nat, f_24 j_26 = nI j_33 ∧ j_33 < N_30 ∧ (∃ r_36 : Option Nat, fs_16[5]? = some (va_rf r_36) ∧ (∃ a_38 : Nat, r_36 = some a_38 ∧ ∃ (N_39 : Nat) (f_40 : Nat → Int32), μ_14 a_38 = some (sp_sa κ N_39 f_40) ∧ ∃ j_42 : Nat, v1 = nI j_42 ∧ j_42 < N_39 ∧ Rt (some (.long ((4294967296 * (Int32.toInt64 (f_31 j_33))) + (Int32.toInt64 (f_40 j_42))))) μ_14))))))) (fun E_45 μ_14 => Xt E_45 μ_14))) (fun E_46 μ_5 => Xt E_46 μ_5))) : sp_w κ x (sp_F κ x Rt Xt mc ms) k n 0 [(0, .ref a0), (1, .int v1)] [] μ := by
  refine sr_aload_n h dM_id0_0 rfl 0 rfl ?_
  refine sr_iload_n h dM_id0_1 rfl 1 rfl ?_
  obtain ⟨mc_1, ms_2, hc_3, vc⟩ := vc
  obtain ⟨fs_6, ho_7, vc⟩ := vc
  refine sr_callV (y := yM_isPlace) (n0 := 1) (As := [.int v1]) h (sp_gV kw_586 kw_588 kw_24 kw_35 kw_589) rfl (by decide +kernel) ⟨Nat.le_of_ble_eq_true rfl, Nat.le_of_ble_eq_true rfl⟩ (ci := 3) rfl dM_id0_2 rfl rfl (Nat.le_of_ble_eq_true rfl) hc_3 ho_7 vc (fun v_4 μ_5 vc' => ?_) (fun E_46 μ_5 vc' => ?_)
  · replace vc := vc'
    clear vc'
    obtain ⟨v_9, rfl, vc⟩ := vc
    obtain ⟨mc_10, ms_11, hc_12, vc⟩ := vc
    refine sr_callS (y := yM_there) (n0 := 1) (As := [.int v_9]) (st := []) h (sp_gS kw_521 kw_522 kw_35 kw_523) rfl (by decide +kernel) ⟨Nat.le_of_ble_eq_true rfl, Nat.le_of_ble_eq_true rfl⟩ dM_id0_5 rfl rfl (Nat.le_of_ble_eq_true rfl) hc_12 vc (fun v_13 μ_14 vc' => ?_) (fun E_45 μ_14 vc' => ?_)
    · replace vc := vc'
      clear vc'
      obtain ⟨rfl, vc⟩ := vc
      refine sr_ldc2 (v := 4294967296) h dM_id0_8 kw_590 ?_
      refine sr_aload_n h dM_id0_11 rfl 0 rfl ?_
      obtain ⟨fs_16, ho_17, vc⟩ := vc
      obtain ⟨r_18, hv_19, vc⟩ := vc
      refine sr_get h inM rfl 0 (by decide) kw_454 dM_id0_12 ho_17 hv_19 ?_
      refine sr_aload_n h dM_id0_15 rfl 0 rfl ?_
      obtain ⟨r_20, hv_21, vc⟩ := vc
      refine sr_get h inM rfl 4 (by decide) kw_458 dM_id0_16 ho_17 hv_21 ?_
      refine sr_iload_n h dM_id0_19 rfl 1 rfl ?_
      obtain ⟨a_22, rfl, vc⟩ := vc
      obtain ⟨N_23, f_24, ho_25, vc⟩ := vc
      obtain ⟨j_26, hi_27, hj_28, vc⟩ := vc
      refine sr_sald h dM_id0_20 ho_25 hi_27 hj_28 ?_
      obtain ⟨a_29, rfl, vc⟩ := vc
      obtain ⟨N_30, f_31, ho_32, vc⟩ := vc
      obtain ⟨j_33, hi_34, hj_35, vc⟩ := vc
      refine sr_iald h dM_id0_21 ho_32 hi_34 hj_35 ?_
      refine sr_i2l h dM_id0_22 ?_
      refine sr_lmul h dM_id0_23 ?_
      refine sr_aload_n h dM_id0_24 rfl 0 rfl ?_
      obtain ⟨r_36, hv_37, vc⟩ := vc
      refine sr_get h inM rfl 5 (by decide) kw_459 dM_id0_25 ho_17 hv_37 ?_
      refine sr_iload_n h dM_id0_28 rfl 1 rfl ?_
      obtain ⟨a_38, rfl, vc⟩ := vc
      obtain ⟨N_39, f_40, ho_41, vc⟩ := vc
      obtain ⟨j_42, hi_43, hj_44, vc⟩ := vc
      refine sr_sald h dM_id0_29 ho_41 hi_43 hj_44 ?_
      refine sr_i2l h dM_id0_30 ?_
      refine sr_ladd h dM_id0_31 ?_
      exact sr_lret h dM_id0_32 hc_12.1 hc_12.2 vc
    · replace vc := vc'
      clear vc'
      exact st_out h (fun _ z => nomatch z) hc_12.1 hc_12.2 vc
  · replace vc := vc'
    clear vc'
    exact st_out h (fun _ z => nomatch z) hc_3.1 hc_3.2 vc

abbrev cxM_isPlace (κ : sp_K) (x : sp_X) (mc ms : Nat) : Prop := sp_C κ x cM_isPlace 2 RM (some .boolean) [] "isPlace" (sp_rm 0 0 mc ms)
set_option maxRecDepth 100000 in
set_option maxHeartbeats 4000000 in
theorem bkM_isPlace_0 {κ : sp_K} {x : sp_X} {mc ms : Nat} {Rt : Option Value → sp_M → Prop} {Xt : String → sp_M → Prop} {μ : sp_M} {k n : Nat} {a0 : Nat} {v1 : Int32} (h : cxM_isPlace κ x mc ms) (hk : k ≤ mc ∧ n ≤ ms)
    (vc : ((v1 < 0 → Rt (some (.int 0)) μ) ∧ (¬ v1 < 0 → (∃ fs_1 : List Value, μ a0 = some (.inr (3, fs_1)) ∧ ∃ v_3 : Int32, fs_1[9]? = some (.int v_3) ∧ ((v_3 ≤ v1 → Rt (some (.int 0)) μ) ∧ (¬ v_3 ≤ v1 → Rt (some (.int 1)) μ)))))) : sp_w κ x (sp_F κ x Rt Xt mc ms) k n 0 [(0, .ref a0), (1, .int v1)] [] μ := by
  refine sr_iload_n h dM_isPlace_0 rfl 1 rfl ?_
  refine sr_if_lt (tgt := 16) h dM_isPlace_1 (by decide) (fun c_6 => ?_) (fun c_6 => ?_)
  · replace vc := vc.1 c_6
    refine sr_iconst (v := 0) h dM_isPlace_16 (by decide) ?_
    exact sr_zret h dM_isPlace_17 rfl hk.1 hk.2 vc
  · replace vc := vc.2 c_6
    refine sr_iload_n h dM_isPlace_4 rfl 1 rfl ?_
    refine sr_aload_n h dM_isPlace_5 rfl 0 rfl ?_
    obtain ⟨fs_1, ho_2, vc⟩ := vc
    obtain ⟨v_3, hv_4, vc⟩ := vc
    refine sr_get h inM rfl 9 (by decide) kw_463 dM_isPlace_6 ho_2 hv_4 ?_
    refine sr_icmp_ge (tgt := 16) h dM_isPlace_9 (by decide) (fun c_5 => ?_) (fun c_5 => ?_)
    · replace vc := vc.1 c_5
      refine sr_iconst (v := 0) h dM_isPlace_16 (by decide) ?_
      exact sr_zret h dM_isPlace_17 rfl hk.1 hk.2 vc
    · replace vc := vc.2 c_5
      refine sr_iconst (v := 1) h dM_isPlace_12 (by decide) ?_
      refine sr_goto (tgt := 17) h dM_isPlace_13 (by decide) ?_
      exact sr_zret h dM_isPlace_17 rfl hk.1 hk.2 vc

abbrev cxM_parentOf (κ : sp_K) (x : sp_X) (mc ms : Nat) : Prop := sp_C κ x cM_parentOf 4 RM (some .int) (tableOf hhM_parentOf) "parentOf" (sp_rm 8 132 mc ms)
set_option maxRecDepth 100000 in
set_option maxHeartbeats 4000000 in
theorem bkM_parentOf_0 {κ : sp_K} {x : sp_X} {mc ms : Nat} {Rt : Option Value → sp_M → Prop} {Xt : String → sp_M → Prop} {μ : sp_M} {k n : Nat} {a0 : Nat} {v1 : Int32} {v2 : Int32} (h : cxM_parentOf κ x mc ms) (hk : k ≤ mc ∧ n ≤ ms)
    (vc : (∃ fs_1 : List Value, μ a0 = some (.inr (3, fs_1)) ∧ 13 < fs_1.length ∧ ∀ μ_3 : sp_M, μ_3 = va_up μ a0 (some (.inr (3, fs_1.set 13 (.int 0)))) → (∃ mc_5 ms_6 : Nat, (k + mc_5 ≤ mc ∧ n + ms_6 ≤ ms) ∧ ∃ fs_10 : List Value, μ_3 a0 = some (.inr (3, fs_10)) ∧ sp_m x.2.1 κ yM_parentOf0 wM_parentOf0 7 110 mc_5 ms_6 [.ref a0, .int v1, .int v2] μ_3 (fun v_8 μ_9 => ∃ v_13 : Int32, v_8 = some (.int v_13) ∧ Rt (some (.int v_13)) μ_9) (fun E_14 μ_9 => ((E_14 = "java/util/NoSuchElementException" ∧ ∀ q_15 : Nat, (∃ fs_16 : List Value, μ_9 a0 = some (.inr (3, fs_16)) ∧ 13 < fs_16.length ∧ ∀ μ_18 : sp_M, μ_18 = va_up μ_9 a0 (some (.inr (3, fs_16.set 13 (.int 1)))) → Rt (some (.int 0)) μ_18))))))) : sp_w κ x (sp_F κ x Rt Xt mc ms) k n 0 [(0, .ref a0), (1, .int v1), (2, .int v2)] [] μ := by
  refine sr_aload_n h dM_parentOf_0 rfl 0 rfl ?_
  refine sr_iconst (v := 0) h dM_parentOf_1 (by decide) ?_
  obtain ⟨fs_1, ho_2, vc⟩ := vc
  obtain ⟨hl_4, vc⟩ := vc
  replace vc := vc _ rfl
  refine sr_put h inM tyM tyM_ok nmM rfl 13 (by decide) kw_467 rfl dM_parentOf_2 ho_2 rfl rfl hl_4 ?_
  refine sr_aload_n h dM_parentOf_5 rfl 0 rfl ?_
  refine sr_iload_n h dM_parentOf_6 rfl 1 rfl ?_
  refine sr_iload_n h dM_parentOf_7 rfl 2 rfl ?_
  obtain ⟨mc_5, ms_6, hc_7, vc⟩ := vc
  obtain ⟨fs_10, ho_11, vc⟩ := vc
  refine sr_callV (y := yM_parentOf0) (n0 := 2) (As := [.int v1, .int v2]) h (sp_gV kw_595 kw_597 kw_25 kw_35 kw_598) rfl (by decide +kernel) ⟨Nat.le_of_ble_eq_true rfl, Nat.le_of_ble_eq_true rfl⟩ (ci := 3) rfl dM_parentOf_8 rfl rfl (Nat.le_of_ble_eq_true rfl) hc_7 ho_11 vc (fun v_8 μ_9 vc' => ?_) (fun E_14 μ_9 vc' => ?_)
  · replace vc := vc'
    clear vc'
    obtain ⟨v_13, rfl, vc⟩ := vc
    exact sr_iret h dM_parentOf_11 hc_7.1 hc_7.2 vc
  · replace vc := vc'
    clear vc'
    obtain ⟨rfl, vc⟩ := vc
    refine st_catch h [] ({ startPc := 5, endPc := 11, handlerPc := 12, catchType := 44 }) [] rfl (fun _ z => nomatch z) (by decide) (by decide) (name := "java/util/NoSuchElementException") kw_506 kt_131 (fun q_15 => ?_)
    replace vc := vc q_15
    refine sr_astore_n (lv' := [(0, .ref a0), (1, .int v1), (2, .int v2), (3, .ref q_15)]) h dM_parentOf_12 rfl (by decide) rfl ?_
    refine sr_aload_n h dM_parentOf_13 rfl 0 rfl ?_
    refine sr_iconst (v := 1) h dM_parentOf_14 (by decide) ?_
    obtain ⟨fs_16, ho_17, vc⟩ := vc
    obtain ⟨hl_19, vc⟩ := vc
    replace vc := vc _ rfl
    refine sr_put h inM tyM tyM_ok nmM rfl 13 (by decide) kw_467 rfl dM_parentOf_15 ho_17 rfl rfl hl_19 ?_
    refine sr_iconst (v := 0) h dM_parentOf_18 (by decide) ?_
    exact sr_iret h dM_parentOf_19 hc_7.1 hc_7.2 vc

abbrev cxM_parentOf0 (κ : sp_K) (x : sp_X) (mc ms : Nat) : Prop := sp_C κ x cM_parentOf0 3 RM (some .int) [] "parentOf0" (sp_rm 7 110 mc ms)
set_option maxRecDepth 100000 in
set_option maxHeartbeats 4000000 in
theorem bkM_parentOf0_0 {κ : sp_K} {x : sp_X} {mc ms : Nat} {Rt : Option Value → sp_M → Prop} {Xt : String → sp_M → Prop} {μ : sp_M} {k n : Nat} {a0 : Nat} {v1 : Int32} {v2 : Int32} (h : cxM_parentOf0 κ x mc ms) (hk : k ≤ mc ∧ n ≤ ms)
    (vc : (∃ mc_1 ms_2 : Nat, (k + mc_1 ≤ mc ∧ n + ms_2 ≤ ms) ∧ ∃ fs_6 : List Value, μ a0 = some (.inr (3, fs_6)) ∧ sp_m x.2.1 κ yM_isPlace wM_isPlace 0 0 mc_1 ms_2 [.ref a0, .int v1] μ (fun v_4 μ_5 => ∃ v_9 : Int32, v_4 = some (.int v_9) ∧ (∃ mc_10 ms_11 : Nat, ((k + mc_1) + mc_10 ≤ mc ∧ (n + ms_2) + ms_11 ≤ ms) ∧ sp_m x.2.1 κ yM_there wM_there 6 90 mc_10 ms_11 [.int v_9] μ_5 (fun v_13 μ_14 => v_13 = none ∧ ((v2 < (-1) → sp_w κ x (sp_F κ x Rt Xt mc ms) (k + mc_1 + mc_10) (n + ms_2 + ms_11) 27 [(0, .ref a0), (1, .int v1), (2, .int v2)] [] μ_14) ∧ (¬ v2 < (-1) → (∃ fs_16 : List Value, μ_14 a0 = some (.inr (3, fs_16)) ∧ ∃ r_18 : Option Nat, fs_16[6]? = some (va_rf r_18) ∧ (∃ a_20 : Nat, r_18 = some a_20 ∧ ∃ (N_21 : Nat) (f_22 : Nat → Int32), μ_14 a_20 = some (sp_sa κ N_21 f_22) ∧ ∃ j_24 : Nat, v1 = nI j_24 ∧ j_24 < N_21 ∧ (((f_22 j_24) ≤ v2 → sp_w κ x (sp_F κ x Rt Xt mc ms) (k + mc_1 + mc_10) (n + ms_2 + ms_11) 27 [(0, .ref a0), (1, .int v1), (2, .int v2)] [] μ_14) ∧ (¬ (f_22 j_24) ≤ v2 → sp_w κ x (sp_F κ x Rt Xt mc ms) (k + mc_1 + mc_10) (n + ms_2 + ms_11) 28 [(0, .ref a0), (1, .int v1), (2, .int v2)] [.int 1] μ_14))))))) (fun E_29 μ_14 => Xt E_29 μ_14))) (fun E_30 μ_5 => Xt E_30 μ_5))) : sp_w κ x (sp_F κ x Rt Xt mc ms) k n 0 [(0, .ref a0), (1, .int v1), (2, .int v2)] [] μ := by
  refine sr_aload_n h dM_parentOf0_0 rfl 0 rfl ?_
  refine sr_iload_n h dM_parentOf0_1 rfl 1 rfl ?_
  obtain ⟨mc_1, ms_2, hc_3, vc⟩ := vc
  obtain ⟨fs_6, ho_7, vc⟩ := vc
  refine sr_callV (y := yM_isPlace) (n0 := 1) (As := [.int v1]) h (sp_gV kw_586 kw_588 kw_24 kw_35 kw_589) rfl (by decide +kernel) ⟨Nat.le_of_ble_eq_true rfl, Nat.le_of_ble_eq_true rfl⟩ (ci := 3) rfl dM_parentOf0_2 rfl rfl (Nat.le_of_ble_eq_true rfl) hc_3 ho_7 vc (fun v_4 μ_5 vc' => ?_) (fun E_30 μ_5 vc' => ?_)
  · replace vc := vc'
    clear vc'
    obtain ⟨v_9, rfl, vc⟩ := vc
    obtain ⟨mc_10, ms_11, hc_12, vc⟩ := vc
    refine sr_callS (y := yM_there) (n0 := 1) (As := [.int v_9]) (st := []) h (sp_gS kw_521 kw_522 kw_35 kw_523) rfl (by decide +kernel) ⟨Nat.le_of_ble_eq_true rfl, Nat.le_of_ble_eq_true rfl⟩ dM_parentOf0_5 rfl rfl (Nat.le_of_ble_eq_true rfl) hc_12 vc (fun v_13 μ_14 vc' => ?_) (fun E_29 μ_14 vc' => ?_)
    · replace vc := vc'
      clear vc'
      obtain ⟨rfl, vc⟩ := vc
      refine sr_iload_n h dM_parentOf0_8 rfl 2 rfl ?_
      refine sr_iconst (v := -1) h dM_parentOf0_9 (by decide) ?_
      refine sr_icmp_lt (tgt := 27) h dM_parentOf0_10 (by decide) (fun c_28 => ?_) (fun c_28 => ?_)
      · replace vc := vc.1 c_28
        exact vc
      · replace vc := vc.2 c_28
        refine sr_iload_n h dM_parentOf0_13 rfl 2 rfl ?_
        refine sr_aload_n h dM_parentOf0_14 rfl 0 rfl ?_
        obtain ⟨fs_16, ho_17, vc⟩ := vc
        obtain ⟨r_18, hv_19, vc⟩ := vc
        refine sr_get h inM rfl 6 (by decide) kw_460 dM_parentOf0_15 ho_17 hv_19 ?_
        refine sr_iload_n h dM_parentOf0_18 rfl 1 rfl ?_
        obtain ⟨a_20, rfl, vc⟩ := vc
        obtain ⟨N_21, f_22, ho_23, vc⟩ := vc
        obtain ⟨j_24, hi_25, hj_26, vc⟩ := vc
        refine sr_sald h dM_parentOf0_19 ho_23 hi_25 hj_26 ?_
        refine sr_icmp_ge (tgt := 27) h dM_parentOf0_20 (by decide) (fun c_27 => ?_) (fun c_27 => ?_)
        · replace vc := vc.1 c_27
          exact vc
        · replace vc := vc.2 c_27
          refine sr_iconst (v := 1) h dM_parentOf0_23 (by decide) ?_
          refine sr_goto (tgt := 28) h dM_parentOf0_24 (by decide) ?_
          exact vc
    · replace vc := vc'
      clear vc'
      exact st_out h (fun _ z => nomatch z) hc_12.1 hc_12.2 vc
  · replace vc := vc'
    clear vc'
    exact st_out h (fun _ z => nomatch z) hc_3.1 hc_3.2 vc
set_option maxRecDepth 100000 in
set_option maxHeartbeats 4000000 in
theorem bkM_parentOf0_27 {κ : sp_K} {x : sp_X} {mc ms : Nat} {Rt : Option Value → sp_M → Prop} {Xt : String → sp_M → Prop} {μ : sp_M} {k n : Nat} {a0 : Nat} {v1 : Int32} {v2 : Int32} (h : cxM_parentOf0 κ x mc ms) (hk : k ≤ mc ∧ n ≤ ms)
    (vc : sp_w κ x (sp_F κ x Rt Xt mc ms) k n 28 [(0, .ref a0), (1, .int v1), (2, .int v2)] [.int 0] μ) : sp_w κ x (sp_F κ x Rt Xt mc ms) k n 27 [(0, .ref a0), (1, .int v1), (2, .int v2)] [] μ := by
  refine sr_iconst (v := 0) h dM_parentOf0_27 (by decide) ?_
  exact vc
set_option maxRecDepth 100000 in
set_option maxHeartbeats 4000000 in
theorem bkM_parentOf0_28 {κ : sp_K} {x : sp_X} {mc ms : Nat} {Rt : Option Value → sp_M → Prop} {Xt : String → sp_M → Prop} {μ : sp_M} {k n : Nat} {a0 : Nat} {v1 : Int32} {v2 : Int32} {vs0 : Int32} (h : cxM_parentOf0 κ x mc ms) (hk : k ≤ mc ∧ n ≤ ms)
    (vc : (∃ mc_1 ms_2 : Nat, (k + mc_1 ≤ mc ∧ n + ms_2 ≤ ms) ∧ sp_m x.2.1 κ yM_there wM_there 6 90 mc_1 ms_2 [.int vs0] μ (fun v_4 μ_5 => v_4 = none ∧ ((0 ≤ v2 → (∃ fs_7 : List Value, μ_5 a0 = some (.inr (3, fs_7)) ∧ ∃ r_9 : Option Nat, fs_7[7]? = some (va_rf r_9) ∧ (∃ a_11 : Nat, r_9 = some a_11 ∧ ∃ (N_12 : Nat) (f_13 : Nat → Int32), μ_5 a_11 = some (sp_sa κ N_12 f_13) ∧ ∃ j_15 : Nat, (16 * v1) + v2 = nI j_15 ∧ j_15 < N_12 ∧ Rt (some (.int (f_13 j_15))) μ_5))) ∧ (¬ 0 ≤ v2 → (∃ fs_18 : List Value, μ_5 a0 = some (.inr (3, fs_18)) ∧ ∃ r_20 : Option Nat, fs_18[6]? = some (va_rf r_20) ∧ (∃ a_22 : Nat, r_20 = some a_22 ∧ ∃ (N_23 : Nat) (f_24 : Nat → Int32), μ_5 a_22 = some (sp_sa κ N_23 f_24) ∧ ∃ j_26 : Nat, v1 = nI j_26 ∧ j_26 < N_23 ∧ Rt (some (.int (f_24 j_26))) μ_5))))) (fun E_30 μ_5 => Xt E_30 μ_5))) : sp_w κ x (sp_F κ x Rt Xt mc ms) k n 28 [(0, .ref a0), (1, .int v1), (2, .int v2)] [.int vs0] μ := by
  obtain ⟨mc_1, ms_2, hc_3, vc⟩ := vc
  refine sr_callS (y := yM_there) (n0 := 1) (As := [.int vs0]) (st := []) h (sp_gS kw_521 kw_522 kw_35 kw_523) rfl (by decide +kernel) ⟨Nat.le_of_ble_eq_true rfl, Nat.le_of_ble_eq_true rfl⟩ dM_parentOf0_28 rfl rfl (Nat.le_of_ble_eq_true rfl) hc_3 vc (fun v_4 μ_5 vc' => ?_) (fun E_30 μ_5 vc' => ?_)
  · replace vc := vc'
    clear vc'
    obtain ⟨rfl, vc⟩ := vc
    refine sr_iload_n h dM_parentOf0_31 rfl 2 rfl ?_
    refine sr_if_ge (tgt := 44) h dM_parentOf0_32 (by decide) (fun c_29 => ?_) (fun c_29 => ?_)
    · replace vc := vc.1 c_29
      refine sr_aload_n h dM_parentOf0_44 rfl 0 rfl ?_
      obtain ⟨fs_7, ho_8, vc⟩ := vc
      obtain ⟨r_9, hv_10, vc⟩ := vc
      refine sr_get h inM rfl 7 (by decide) kw_461 dM_parentOf0_45 ho_8 hv_10 ?_
      refine sr_bipush (v := 16) h dM_parentOf0_48 (by decide) ?_
      refine sr_iload_n h dM_parentOf0_50 rfl 1 rfl ?_
      refine sr_imul h dM_parentOf0_51 ?_
      refine sr_iload_n h dM_parentOf0_52 rfl 2 rfl ?_
      refine sr_iadd h dM_parentOf0_53 ?_
      obtain ⟨a_11, rfl, vc⟩ := vc
      obtain ⟨N_12, f_13, ho_14, vc⟩ := vc
      obtain ⟨j_15, hi_16, hj_17, vc⟩ := vc
      refine sr_sald h dM_parentOf0_54 ho_14 hi_16 hj_17 ?_
      exact sr_iret h dM_parentOf0_55 hc_3.1 hc_3.2 vc
    · replace vc := vc.2 c_29
      refine sr_aload_n h dM_parentOf0_35 rfl 0 rfl ?_
      obtain ⟨fs_18, ho_19, vc⟩ := vc
      obtain ⟨r_20, hv_21, vc⟩ := vc
      refine sr_get h inM rfl 6 (by decide) kw_460 dM_parentOf0_36 ho_19 hv_21 ?_
      refine sr_iload_n h dM_parentOf0_39 rfl 1 rfl ?_
      obtain ⟨a_22, rfl, vc⟩ := vc
      obtain ⟨N_23, f_24, ho_25, vc⟩ := vc
      obtain ⟨j_26, hi_27, hj_28, vc⟩ := vc
      refine sr_sald h dM_parentOf0_40 ho_25 hi_27 hj_28 ?_
      refine sr_goto (tgt := 55) h dM_parentOf0_41 (by decide) ?_
      exact sr_iret h dM_parentOf0_55 hc_3.1 hc_3.2 vc
  · replace vc := vc'
    clear vc'
    exact st_out h (fun _ z => nomatch z) hc_3.1 hc_3.2 vc

abbrev cxM_related (κ : sp_K) (x : sp_X) (mc ms : Nat) : Prop := sp_C κ x cM_related 4 RM (some .int) (tableOf hhM_related) "related" (sp_rm 8 132 mc ms)
set_option maxRecDepth 100000 in
set_option maxHeartbeats 4000000 in
theorem bkM_related_0 {κ : sp_K} {x : sp_X} {mc ms : Nat} {Rt : Option Value → sp_M → Prop} {Xt : String → sp_M → Prop} {μ : sp_M} {k n : Nat} {a0 : Nat} {v1 : Int32} {v2 : Int32} (h : cxM_related κ x mc ms) (hk : k ≤ mc ∧ n ≤ ms)
    (vc : (∃ fs_1 : List Value, μ a0 = some (.inr (3, fs_1)) ∧ 13 < fs_1.length ∧ ∀ μ_3 : sp_M, μ_3 = va_up μ a0 (some (.inr (3, fs_1.set 13 (.int 0)))) → (∃ mc_5 ms_6 : Nat, (k + mc_5 ≤ mc ∧ n + ms_6 ≤ ms) ∧ ∃ fs_10 : List Value, μ_3 a0 = some (.inr (3, fs_10)) ∧ sp_m x.2.1 κ yM_related0 wM_related0 7 110 mc_5 ms_6 [.ref a0, .int v1, .int v2] μ_3 (fun v_8 μ_9 => ∃ v_13 : Int32, v_8 = some (.int v_13) ∧ Rt (some (.int v_13)) μ_9) (fun E_14 μ_9 => ((E_14 = "java/util/NoSuchElementException" ∧ ∀ q_15 : Nat, (∃ fs_16 : List Value, μ_9 a0 = some (.inr (3, fs_16)) ∧ 13 < fs_16.length ∧ ∀ μ_18 : sp_M, μ_18 = va_up μ_9 a0 (some (.inr (3, fs_16.set 13 (.int 1)))) → Rt (some (.int 0)) μ_18))))))) : sp_w κ x (sp_F κ x Rt Xt mc ms) k n 0 [(0, .ref a0), (1, .int v1), (2, .int v2)] [] μ := by
  refine sr_aload_n h dM_related_0 rfl 0 rfl ?_
  refine sr_iconst (v := 0) h dM_related_1 (by decide) ?_
  obtain ⟨fs_1, ho_2, vc⟩ := vc
  obtain ⟨hl_4, vc⟩ := vc
  replace vc := vc _ rfl
  refine sr_put h inM tyM tyM_ok nmM rfl 13 (by decide) kw_467 rfl dM_related_2 ho_2 rfl rfl hl_4 ?_
  refine sr_aload_n h dM_related_5 rfl 0 rfl ?_
  refine sr_iload_n h dM_related_6 rfl 1 rfl ?_
  refine sr_iload_n h dM_related_7 rfl 2 rfl ?_
  obtain ⟨mc_5, ms_6, hc_7, vc⟩ := vc
  obtain ⟨fs_10, ho_11, vc⟩ := vc
  refine sr_callV (y := yM_related0) (n0 := 2) (As := [.int v1, .int v2]) h (sp_gV kw_603 kw_605 kw_26 kw_35 kw_606) rfl (by decide +kernel) ⟨Nat.le_of_ble_eq_true rfl, Nat.le_of_ble_eq_true rfl⟩ (ci := 3) rfl dM_related_8 rfl rfl (Nat.le_of_ble_eq_true rfl) hc_7 ho_11 vc (fun v_8 μ_9 vc' => ?_) (fun E_14 μ_9 vc' => ?_)
  · replace vc := vc'
    clear vc'
    obtain ⟨v_13, rfl, vc⟩ := vc
    exact sr_iret h dM_related_11 hc_7.1 hc_7.2 vc
  · replace vc := vc'
    clear vc'
    obtain ⟨rfl, vc⟩ := vc
    refine st_catch h [] ({ startPc := 5, endPc := 11, handlerPc := 12, catchType := 44 }) [] rfl (fun _ z => nomatch z) (by decide) (by decide) (name := "java/util/NoSuchElementException") kw_506 kt_131 (fun q_15 => ?_)
    replace vc := vc q_15
    refine sr_astore_n (lv' := [(0, .ref a0), (1, .int v1), (2, .int v2), (3, .ref q_15)]) h dM_related_12 rfl (by decide) rfl ?_
    refine sr_aload_n h dM_related_13 rfl 0 rfl ?_
    refine sr_iconst (v := 1) h dM_related_14 (by decide) ?_
    obtain ⟨fs_16, ho_17, vc⟩ := vc
    obtain ⟨hl_19, vc⟩ := vc
    replace vc := vc _ rfl
    refine sr_put h inM tyM tyM_ok nmM rfl 13 (by decide) kw_467 rfl dM_related_15 ho_17 rfl rfl hl_19 ?_
    refine sr_iconst (v := 0) h dM_related_18 (by decide) ?_
    exact sr_iret h dM_related_19 hc_7.1 hc_7.2 vc

abbrev cxM_related0 (κ : sp_K) (x : sp_X) (mc ms : Nat) : Prop := sp_C κ x cM_related0 3 RM (some .int) [] "related0" (sp_rm 7 110 mc ms)
set_option maxRecDepth 100000 in
set_option maxHeartbeats 4000000 in
theorem bkM_related0_0 {κ : sp_K} {x : sp_X} {mc ms : Nat} {Rt : Option Value → sp_M → Prop} {Xt : String → sp_M → Prop} {μ : sp_M} {k n : Nat} {a0 : Nat} {v1 : Int32} {v2 : Int32} (h : cxM_related0 κ x mc ms) (hk : k ≤ mc ∧ n ≤ ms)
    (vc : (∃ mc_1 ms_2 : Nat, (k + mc_1 ≤ mc ∧ n + ms_2 ≤ ms) ∧ ∃ fs_6 : List Value, μ a0 = some (.inr (3, fs_6)) ∧ sp_m x.2.1 κ yM_isPlace wM_isPlace 0 0 mc_1 ms_2 [.ref a0, .int v1] μ (fun v_4 μ_5 => ∃ v_9 : Int32, v_4 = some (.int v_9) ∧ ((v_9 = 0 → sp_w κ x (sp_F κ x Rt Xt mc ms) (k + mc_1) (n + ms_2) 20 [(0, .ref a0), (1, .int v1), (2, .int v2)] [] μ_5) ∧ (¬ v_9 = 0 → (∃ mc_10 ms_11 : Nat, ((k + mc_1) + mc_10 ≤ mc ∧ (n + ms_2) + ms_11 ≤ ms) ∧ ∃ fs_15 : List Value, μ_5 a0 = some (.inr (3, fs_15)) ∧ sp_m x.2.1 κ yM_isPlace wM_isPlace 0 0 mc_10 ms_11 [.ref a0, .int v2] μ_5 (fun v_13 μ_14 => ∃ v_18 : Int32, v_13 = some (.int v_18) ∧ ((v_18 = 0 → sp_w κ x (sp_F κ x Rt Xt mc ms) (k + mc_1 + mc_10) (n + ms_2 + ms_11) 20 [(0, .ref a0), (1, .int v1), (2, .int v2)] [] μ_14) ∧ (¬ v_18 = 0 → sp_w κ x (sp_F κ x Rt Xt mc ms) (k + mc_1 + mc_10) (n + ms_2 + ms_11) 21 [(0, .ref a0), (1, .int v1), (2, .int v2)] [.int 1] μ_14))) (fun E_20 μ_14 => Xt E_20 μ_14))))) (fun E_22 μ_5 => Xt E_22 μ_5))) : sp_w κ x (sp_F κ x Rt Xt mc ms) k n 0 [(0, .ref a0), (1, .int v1), (2, .int v2)] [] μ := by
  refine sr_aload_n h dM_related0_0 rfl 0 rfl ?_
  refine sr_iload_n h dM_related0_1 rfl 1 rfl ?_
  obtain ⟨mc_1, ms_2, hc_3, vc⟩ := vc
  obtain ⟨fs_6, ho_7, vc⟩ := vc
  refine sr_callV (y := yM_isPlace) (n0 := 1) (As := [.int v1]) h (sp_gV kw_586 kw_588 kw_24 kw_35 kw_589) rfl (by decide +kernel) ⟨Nat.le_of_ble_eq_true rfl, Nat.le_of_ble_eq_true rfl⟩ (ci := 3) rfl dM_related0_2 rfl rfl (Nat.le_of_ble_eq_true rfl) hc_3 ho_7 vc (fun v_4 μ_5 vc' => ?_) (fun E_22 μ_5 vc' => ?_)
  · replace vc := vc'
    clear vc'
    obtain ⟨v_9, rfl, vc⟩ := vc
    refine sr_if_eq (tgt := 20) h dM_related0_5 (by decide) (fun c_21 => ?_) (fun c_21 => ?_)
    · replace vc := vc.1 c_21
      exact vc
    · replace vc := vc.2 c_21
      refine sr_aload_n h dM_related0_8 rfl 0 rfl ?_
      refine sr_iload_n h dM_related0_9 rfl 2 rfl ?_
      obtain ⟨mc_10, ms_11, hc_12, vc⟩ := vc
      obtain ⟨fs_15, ho_16, vc⟩ := vc
      refine sr_callV (y := yM_isPlace) (n0 := 1) (As := [.int v2]) h (sp_gV kw_586 kw_588 kw_24 kw_35 kw_589) rfl (by decide +kernel) ⟨Nat.le_of_ble_eq_true rfl, Nat.le_of_ble_eq_true rfl⟩ (ci := 3) rfl dM_related0_10 rfl rfl (Nat.le_of_ble_eq_true rfl) hc_12 ho_16 vc (fun v_13 μ_14 vc' => ?_) (fun E_20 μ_14 vc' => ?_)
      · replace vc := vc'
        clear vc'
        obtain ⟨v_18, rfl, vc⟩ := vc
        refine sr_if_eq (tgt := 20) h dM_related0_13 (by decide) (fun c_19 => ?_) (fun c_19 => ?_)
        · replace vc := vc.1 c_19
          exact vc
        · replace vc := vc.2 c_19
          refine sr_iconst (v := 1) h dM_related0_16 (by decide) ?_
          refine sr_goto (tgt := 21) h dM_related0_17 (by decide) ?_
          exact vc
      · replace vc := vc'
        clear vc'
        exact st_out h (fun _ z => nomatch z) hc_12.1 hc_12.2 vc
  · replace vc := vc'
    clear vc'
    exact st_out h (fun _ z => nomatch z) hc_3.1 hc_3.2 vc
set_option maxRecDepth 100000 in
set_option maxHeartbeats 4000000 in
theorem bkM_related0_20 {κ : sp_K} {x : sp_X} {mc ms : Nat} {Rt : Option Value → sp_M → Prop} {Xt : String → sp_M → Prop} {μ : sp_M} {k n : Nat} {a0 : Nat} {v1 : Int32} {v2 : Int32} (h : cxM_related0 κ x mc ms) (hk : k ≤ mc ∧ n ≤ ms)
    (vc : sp_w κ x (sp_F κ x Rt Xt mc ms) k n 21 [(0, .ref a0), (1, .int v1), (2, .int v2)] [.int 0] μ) : sp_w κ x (sp_F κ x Rt Xt mc ms) k n 20 [(0, .ref a0), (1, .int v1), (2, .int v2)] [] μ := by
  refine sr_iconst (v := 0) h dM_related0_20 (by decide) ?_
  exact vc
set_option maxRecDepth 100000 in
set_option maxHeartbeats 4000000 in
theorem bkM_related0_21 {κ : sp_K} {x : sp_X} {mc ms : Nat} {Rt : Option Value → sp_M → Prop} {Xt : String → sp_M → Prop} {μ : sp_M} {k n : Nat} {a0 : Nat} {v1 : Int32} {v2 : Int32} {vs0 : Int32} (h : cxM_related0 κ x mc ms) (hk : k ≤ mc ∧ n ≤ ms)
    (vc : (∃ mc_1 ms_2 : Nat, (k + mc_1 ≤ mc ∧ n + ms_2 ≤ ms) ∧ sp_m x.2.1 κ yM_there wM_there 6 90 mc_1 ms_2 [.int vs0] μ (fun v_4 μ_5 => v_4 = none ∧ ((¬ v1 = v2 → (∃ mc_7 ms_8 : Nat, ((k + mc_1) + mc_7 ≤ mc ∧ (n + ms_2) + ms_8 ≤ ms) ∧ ∃ fs_12 : List Value, μ_5 a0 = some (.inr (3, fs_12)) ∧ sp_m x.2.1 κ yM_isIn wM_isIn 0 0 mc_7 ms_8 [.ref a0, .int v1, .int v2] μ_5 (fun v_10 μ_11 => ∃ v_15 : Int32, v_10 = some (.int v_15) ∧ ((v_15 = 0 → (∃ mc_16 ms_17 : Nat, ((k + mc_1 + mc_7) + mc_16 ≤ mc ∧ (n + ms_2 + ms_8) + ms_17 ≤ ms) ∧ ∃ fs_21 : List Value, μ_11 a0 = some (.inr (3, fs_21)) ∧ sp_m x.2.1 κ yM_isIn wM_isIn 0 0 mc_16 ms_17 [.ref a0, .int v2, .int v1] μ_11 (fun v_19 μ_20 => ∃ v_24 : Int32, v_19 = some (.int v_24) ∧ ((v_24 = 0 → Rt (some (.int 3)) μ_20) ∧ (¬ v_24 = 0 → Rt (some (.int 2)) μ_20))) (fun E_26 μ_20 => Xt E_26 μ_20))) ∧ (¬ v_15 = 0 → Rt (some (.int 1)) μ_11))) (fun E_28 μ_11 => Xt E_28 μ_11))) ∧ (v1 = v2 → Rt (some (.int 0)) μ_5))) (fun E_30 μ_5 => Xt E_30 μ_5))) : sp_w κ x (sp_F κ x Rt Xt mc ms) k n 21 [(0, .ref a0), (1, .int v1), (2, .int v2)] [.int vs0] μ := by
  obtain ⟨mc_1, ms_2, hc_3, vc⟩ := vc
  refine sr_callS (y := yM_there) (n0 := 1) (As := [.int vs0]) (st := []) h (sp_gS kw_521 kw_522 kw_35 kw_523) rfl (by decide +kernel) ⟨Nat.le_of_ble_eq_true rfl, Nat.le_of_ble_eq_true rfl⟩ dM_related0_21 rfl rfl (Nat.le_of_ble_eq_true rfl) hc_3 vc (fun v_4 μ_5 vc' => ?_) (fun E_30 μ_5 vc' => ?_)
  · replace vc := vc'
    clear vc'
    obtain ⟨rfl, vc⟩ := vc
    refine sr_iload_n h dM_related0_24 rfl 1 rfl ?_
    refine sr_iload_n h dM_related0_25 rfl 2 rfl ?_
    refine sr_icmp_ne (tgt := 33) h dM_related0_26 (by decide) (fun c_29 => ?_) (fun c_29 => ?_)
    · replace vc := vc.1 c_29
      refine sr_aload_n h dM_related0_33 rfl 0 rfl ?_
      refine sr_iload_n h dM_related0_34 rfl 1 rfl ?_
      refine sr_iload_n h dM_related0_35 rfl 2 rfl ?_
      obtain ⟨mc_7, ms_8, hc_9, vc⟩ := vc
      obtain ⟨fs_12, ho_13, vc⟩ := vc
      refine sr_callV (y := yM_isIn) (n0 := 2) (As := [.int v1, .int v2]) h (sp_gV kw_543 kw_545 kw_18 kw_35 kw_546) rfl (by decide +kernel) ⟨Nat.le_of_ble_eq_true rfl, Nat.le_of_ble_eq_true rfl⟩ (ci := 3) rfl dM_related0_36 rfl rfl (Nat.le_of_ble_eq_true rfl) hc_9 ho_13 vc (fun v_10 μ_11 vc' => ?_) (fun E_28 μ_11 vc' => ?_)
      · replace vc := vc'
        clear vc'
        obtain ⟨v_15, rfl, vc⟩ := vc
        refine sr_if_eq (tgt := 46) h dM_related0_39 (by decide) (fun c_27 => ?_) (fun c_27 => ?_)
        · replace vc := vc.1 c_27
          refine sr_aload_n h dM_related0_46 rfl 0 rfl ?_
          refine sr_iload_n h dM_related0_47 rfl 2 rfl ?_
          refine sr_iload_n h dM_related0_48 rfl 1 rfl ?_
          obtain ⟨mc_16, ms_17, hc_18, vc⟩ := vc
          obtain ⟨fs_21, ho_22, vc⟩ := vc
          refine sr_callV (y := yM_isIn) (n0 := 2) (As := [.int v2, .int v1]) h (sp_gV kw_543 kw_545 kw_18 kw_35 kw_546) rfl (by decide +kernel) ⟨Nat.le_of_ble_eq_true rfl, Nat.le_of_ble_eq_true rfl⟩ (ci := 3) rfl dM_related0_49 rfl rfl (Nat.le_of_ble_eq_true rfl) hc_18 ho_22 vc (fun v_19 μ_20 vc' => ?_) (fun E_26 μ_20 vc' => ?_)
          · replace vc := vc'
            clear vc'
            obtain ⟨v_24, rfl, vc⟩ := vc
            refine sr_if_eq (tgt := 59) h dM_related0_52 (by decide) (fun c_25 => ?_) (fun c_25 => ?_)
            · replace vc := vc.1 c_25
              refine sr_iconst (v := 3) h dM_related0_59 (by decide) ?_
              exact sr_iret h dM_related0_60 hc_18.1 hc_18.2 vc
            · replace vc := vc.2 c_25
              refine sr_iconst (v := 2) h dM_related0_55 (by decide) ?_
              refine sr_goto (tgt := 60) h dM_related0_56 (by decide) ?_
              exact sr_iret h dM_related0_60 hc_18.1 hc_18.2 vc
          · replace vc := vc'
            clear vc'
            exact st_out h (fun _ z => nomatch z) hc_18.1 hc_18.2 vc
        · replace vc := vc.2 c_27
          refine sr_iconst (v := 1) h dM_related0_42 (by decide) ?_
          refine sr_goto (tgt := 60) h dM_related0_43 (by decide) ?_
          exact sr_iret h dM_related0_60 hc_9.1 hc_9.2 vc
      · replace vc := vc'
        clear vc'
        exact st_out h (fun _ z => nomatch z) hc_9.1 hc_9.2 vc
    · replace vc := vc.2 c_29
      refine sr_iconst (v := 0) h dM_related0_29 (by decide) ?_
      refine sr_goto (tgt := 60) h dM_related0_30 (by decide) ?_
      exact sr_iret h dM_related0_60 hc_3.1 hc_3.2 vc
  · replace vc := vc'
    clear vc'
    exact st_out h (fun _ z => nomatch z) hc_3.1 hc_3.2 vc

abbrev cxM_apart (κ : sp_K) (x : sp_X) (mc ms : Nat) : Prop := sp_C κ x cM_apart 4 RM (some .int) (tableOf hhM_apart) "apart" (sp_rm 8 134 mc ms)
set_option maxRecDepth 100000 in
set_option maxHeartbeats 4000000 in
theorem bkM_apart_0 {κ : sp_K} {x : sp_X} {mc ms : Nat} {Rt : Option Value → sp_M → Prop} {Xt : String → sp_M → Prop} {μ : sp_M} {k n : Nat} {a0 : Nat} {v1 : Int32} {v2 : Int32} (h : cxM_apart κ x mc ms) (hk : k ≤ mc ∧ n ≤ ms)
    (vc : (∃ fs_1 : List Value, μ a0 = some (.inr (3, fs_1)) ∧ 13 < fs_1.length ∧ ∀ μ_3 : sp_M, μ_3 = va_up μ a0 (some (.inr (3, fs_1.set 13 (.int 0)))) → (∃ mc_5 ms_6 : Nat, (k + mc_5 ≤ mc ∧ n + ms_6 ≤ ms) ∧ ∃ fs_10 : List Value, μ_3 a0 = some (.inr (3, fs_10)) ∧ sp_m x.2.1 κ yM_apart0 wM_apart0 7 110 mc_5 ms_6 [.ref a0, .int v1, .int v2] μ_3 (fun v_8 μ_9 => ∃ v_13 : Int32, v_8 = some (.int v_13) ∧ Rt (some (.int v_13)) μ_9) (fun E_14 μ_9 => ((E_14 = "java/util/NoSuchElementException" ∧ ∀ q_15 : Nat, (∃ fs_16 : List Value, μ_9 a0 = some (.inr (3, fs_16)) ∧ 13 < fs_16.length ∧ ∀ μ_18 : sp_M, μ_18 = va_up μ_9 a0 (some (.inr (3, fs_16.set 13 (.int 1)))) → Rt (some (.int 0)) μ_18))))))) : sp_w κ x (sp_F κ x Rt Xt mc ms) k n 0 [(0, .ref a0), (1, .int v1), (2, .int v2)] [] μ := by
  refine sr_aload_n h dM_apart_0 rfl 0 rfl ?_
  refine sr_iconst (v := 0) h dM_apart_1 (by decide) ?_
  obtain ⟨fs_1, ho_2, vc⟩ := vc
  obtain ⟨hl_4, vc⟩ := vc
  replace vc := vc _ rfl
  refine sr_put h inM tyM tyM_ok nmM rfl 13 (by decide) kw_467 rfl dM_apart_2 ho_2 rfl rfl hl_4 ?_
  refine sr_aload_n h dM_apart_5 rfl 0 rfl ?_
  refine sr_iload_n h dM_apart_6 rfl 1 rfl ?_
  refine sr_iload_n h dM_apart_7 rfl 2 rfl ?_
  obtain ⟨mc_5, ms_6, hc_7, vc⟩ := vc
  obtain ⟨fs_10, ho_11, vc⟩ := vc
  refine sr_callV (y := yM_apart0) (n0 := 2) (As := [.int v1, .int v2]) h (sp_gV kw_611 kw_613 kw_27 kw_35 kw_614) rfl (by decide +kernel) ⟨Nat.le_of_ble_eq_true rfl, Nat.le_of_ble_eq_true rfl⟩ (ci := 3) rfl dM_apart_8 rfl rfl (Nat.le_of_ble_eq_true rfl) hc_7 ho_11 vc (fun v_8 μ_9 vc' => ?_) (fun E_14 μ_9 vc' => ?_)
  · replace vc := vc'
    clear vc'
    obtain ⟨v_13, rfl, vc⟩ := vc
    exact sr_iret h dM_apart_11 hc_7.1 hc_7.2 vc
  · replace vc := vc'
    clear vc'
    obtain ⟨rfl, vc⟩ := vc
    refine st_catch h [] ({ startPc := 5, endPc := 11, handlerPc := 12, catchType := 44 }) [] rfl (fun _ z => nomatch z) (by decide) (by decide) (name := "java/util/NoSuchElementException") kw_506 kt_131 (fun q_15 => ?_)
    replace vc := vc q_15
    refine sr_astore_n (lv' := [(0, .ref a0), (1, .int v1), (2, .int v2), (3, .ref q_15)]) h dM_apart_12 rfl (by decide) rfl ?_
    refine sr_aload_n h dM_apart_13 rfl 0 rfl ?_
    refine sr_iconst (v := 1) h dM_apart_14 (by decide) ?_
    obtain ⟨fs_16, ho_17, vc⟩ := vc
    obtain ⟨hl_19, vc⟩ := vc
    replace vc := vc _ rfl
    refine sr_put h inM tyM tyM_ok nmM rfl 13 (by decide) kw_467 rfl dM_apart_15 ho_17 rfl rfl hl_19 ?_
    refine sr_iconst (v := 0) h dM_apart_18 (by decide) ?_
    exact sr_iret h dM_apart_19 hc_7.1 hc_7.2 vc

abbrev cxM_apart0 (κ : sp_K) (x : sp_X) (mc ms : Nat) : Prop := sp_C κ x cM_apart0 5 RM (some .int) [] "apart0" (sp_rm 7 110 mc ms)
set_option maxRecDepth 100000 in
set_option maxHeartbeats 4000000 in
theorem bkM_apart0_0 {κ : sp_K} {x : sp_X} {mc ms : Nat} {Rt : Option Value → sp_M → Prop} {Xt : String → sp_M → Prop} {μ : sp_M} {k n : Nat} {a0 : Nat} {v1 : Int32} {v2 : Int32} (h : cxM_apart0 κ x mc ms) (hk : k ≤ mc ∧ n ≤ ms)
    (vc : (∃ mc_1 ms_2 : Nat, (k + mc_1 ≤ mc ∧ n + ms_2 ≤ ms) ∧ ∃ fs_6 : List Value, μ a0 = some (.inr (3, fs_6)) ∧ sp_m x.2.1 κ yM_isPlace wM_isPlace 0 0 mc_1 ms_2 [.ref a0, .int v1] μ (fun v_4 μ_5 => ∃ v_9 : Int32, v_4 = some (.int v_9) ∧ ((v_9 = 0 → (∃ mc_10 ms_11 : Nat, ((k + mc_1) + mc_10 ≤ mc ∧ (n + ms_2) + ms_11 ≤ ms) ∧ sp_m x.2.1 κ yM_there wM_there 6 90 mc_10 ms_11 [.int 0] μ_5 (fun v_13 μ_14 => v_13 = none ∧ sp_w κ x (sp_F κ x Rt Xt mc ms) (k + mc_1 + mc_10) (n + ms_2 + ms_11) 29 [(0, .ref a0), (1, .int v1), (2, .int v2), (3, .int 0), (4, .int 0)] [] μ_14) (fun E_16 μ_14 => Xt E_16 μ_14))) ∧ (¬ v_9 = 0 → (∃ mc_17 ms_18 : Nat, ((k + mc_1) + mc_17 ≤ mc ∧ (n + ms_2) + ms_18 ≤ ms) ∧ ∃ fs_22 : List Value, μ_5 a0 = some (.inr (3, fs_22)) ∧ sp_m x.2.1 κ yM_isPlace wM_isPlace 0 0 mc_17 ms_18 [.ref a0, .int v2] μ_5 (fun v_20 μ_21 => ∃ v_25 : Int32, v_20 = some (.int v_25) ∧ ((v_25 = 0 → (∃ mc_26 ms_27 : Nat, ((k + mc_1 + mc_17) + mc_26 ≤ mc ∧ (n + ms_2 + ms_18) + ms_27 ≤ ms) ∧ sp_m x.2.1 κ yM_there wM_there 6 90 mc_26 ms_27 [.int 0] μ_21 (fun v_29 μ_30 => v_29 = none ∧ sp_w κ x (sp_F κ x Rt Xt mc ms) (k + mc_1 + mc_17 + mc_26) (n + ms_2 + ms_18 + ms_27) 29 [(0, .ref a0), (1, .int v1), (2, .int v2), (3, .int 0), (4, .int 0)] [] μ_30) (fun E_32 μ_30 => Xt E_32 μ_30))) ∧ (¬ v_25 = 0 → (∃ mc_33 ms_34 : Nat, ((k + mc_1 + mc_17) + mc_33 ≤ mc ∧ (n + ms_2 + ms_18) + ms_34 ≤ ms) ∧ sp_m x.2.1 κ yM_there wM_there 6 90 mc_33 ms_34 [.int 1] μ_21 (fun v_36 μ_37 => v_36 = none ∧ sp_w κ x (sp_F κ x Rt Xt mc ms) (k + mc_1 + mc_17 + mc_33) (n + ms_2 + ms_18 + ms_34) 29 [(0, .ref a0), (1, .int v1), (2, .int v2), (3, .int 0), (4, .int 0)] [] μ_37) (fun E_39 μ_37 => Xt E_39 μ_37))))) (fun E_41 μ_21 => Xt E_41 μ_21))))) (fun E_43 μ_5 => Xt E_43 μ_5))) : sp_w κ x (sp_F κ x Rt Xt mc ms) k n 0 [(0, .ref a0), (1, .int v1), (2, .int v2)] [] μ := by
  refine sr_aload_n h dM_apart0_0 rfl 0 rfl ?_
  refine sr_iload_n h dM_apart0_1 rfl 1 rfl ?_
  obtain ⟨mc_1, ms_2, hc_3, vc⟩ := vc
  obtain ⟨fs_6, ho_7, vc⟩ := vc
  refine sr_callV (y := yM_isPlace) (n0 := 1) (As := [.int v1]) h (sp_gV kw_586 kw_588 kw_24 kw_35 kw_589) rfl (by decide +kernel) ⟨Nat.le_of_ble_eq_true rfl, Nat.le_of_ble_eq_true rfl⟩ (ci := 3) rfl dM_apart0_2 rfl rfl (Nat.le_of_ble_eq_true rfl) hc_3 ho_7 vc (fun v_4 μ_5 vc' => ?_) (fun E_43 μ_5 vc' => ?_)
  · replace vc := vc'
    clear vc'
    obtain ⟨v_9, rfl, vc⟩ := vc
    refine sr_if_eq (tgt := 20) h dM_apart0_5 (by decide) (fun c_42 => ?_) (fun c_42 => ?_)
    · replace vc := vc.1 c_42
      refine sr_iconst (v := 0) h dM_apart0_20 (by decide) ?_
      obtain ⟨mc_10, ms_11, hc_12, vc⟩ := vc
      refine sr_callS (y := yM_there) (n0 := 1) (As := [.int 0]) (st := []) h (sp_gS kw_521 kw_522 kw_35 kw_523) rfl (by decide +kernel) ⟨Nat.le_of_ble_eq_true rfl, Nat.le_of_ble_eq_true rfl⟩ dM_apart0_21 rfl rfl (Nat.le_of_ble_eq_true rfl) hc_12 vc (fun v_13 μ_14 vc' => ?_) (fun E_16 μ_14 vc' => ?_)
      · replace vc := vc'
        clear vc'
        obtain ⟨rfl, vc⟩ := vc
        refine sr_iconst (v := 0) h dM_apart0_24 (by decide) ?_
        refine sr_istore_n (lv' := [(0, .ref a0), (1, .int v1), (2, .int v2), (3, .int 0)]) h dM_apart0_25 rfl (by decide) rfl ?_
        refine sr_iconst (v := 0) h dM_apart0_26 (by decide) ?_
        refine sr_istore (lv' := [(0, .ref a0), (1, .int v1), (2, .int v2), (3, .int 0), (4, .int 0)]) h dM_apart0_27 (by decide) rfl ?_
        exact vc
      · replace vc := vc'
        clear vc'
        exact st_out h (fun _ z => nomatch z) hc_12.1 hc_12.2 vc
    · replace vc := vc.2 c_42
      refine sr_aload_n h dM_apart0_8 rfl 0 rfl ?_
      refine sr_iload_n h dM_apart0_9 rfl 2 rfl ?_
      obtain ⟨mc_17, ms_18, hc_19, vc⟩ := vc
      obtain ⟨fs_22, ho_23, vc⟩ := vc
      refine sr_callV (y := yM_isPlace) (n0 := 1) (As := [.int v2]) h (sp_gV kw_586 kw_588 kw_24 kw_35 kw_589) rfl (by decide +kernel) ⟨Nat.le_of_ble_eq_true rfl, Nat.le_of_ble_eq_true rfl⟩ (ci := 3) rfl dM_apart0_10 rfl rfl (Nat.le_of_ble_eq_true rfl) hc_19 ho_23 vc (fun v_20 μ_21 vc' => ?_) (fun E_41 μ_21 vc' => ?_)
      · replace vc := vc'
        clear vc'
        obtain ⟨v_25, rfl, vc⟩ := vc
        refine sr_if_eq (tgt := 20) h dM_apart0_13 (by decide) (fun c_40 => ?_) (fun c_40 => ?_)
        · replace vc := vc.1 c_40
          refine sr_iconst (v := 0) h dM_apart0_20 (by decide) ?_
          obtain ⟨mc_26, ms_27, hc_28, vc⟩ := vc
          refine sr_callS (y := yM_there) (n0 := 1) (As := [.int 0]) (st := []) h (sp_gS kw_521 kw_522 kw_35 kw_523) rfl (by decide +kernel) ⟨Nat.le_of_ble_eq_true rfl, Nat.le_of_ble_eq_true rfl⟩ dM_apart0_21 rfl rfl (Nat.le_of_ble_eq_true rfl) hc_28 vc (fun v_29 μ_30 vc' => ?_) (fun E_32 μ_30 vc' => ?_)
          · replace vc := vc'
            clear vc'
            obtain ⟨rfl, vc⟩ := vc
            refine sr_iconst (v := 0) h dM_apart0_24 (by decide) ?_
            refine sr_istore_n (lv' := [(0, .ref a0), (1, .int v1), (2, .int v2), (3, .int 0)]) h dM_apart0_25 rfl (by decide) rfl ?_
            refine sr_iconst (v := 0) h dM_apart0_26 (by decide) ?_
            refine sr_istore (lv' := [(0, .ref a0), (1, .int v1), (2, .int v2), (3, .int 0), (4, .int 0)]) h dM_apart0_27 (by decide) rfl ?_
            exact vc
          · replace vc := vc'
            clear vc'
            exact st_out h (fun _ z => nomatch z) hc_28.1 hc_28.2 vc
        · replace vc := vc.2 c_40
          refine sr_iconst (v := 1) h dM_apart0_16 (by decide) ?_
          refine sr_goto (tgt := 21) h dM_apart0_17 (by decide) ?_
          obtain ⟨mc_33, ms_34, hc_35, vc⟩ := vc
          refine sr_callS (y := yM_there) (n0 := 1) (As := [.int 1]) (st := []) h (sp_gS kw_521 kw_522 kw_35 kw_523) rfl (by decide +kernel) ⟨Nat.le_of_ble_eq_true rfl, Nat.le_of_ble_eq_true rfl⟩ dM_apart0_21 rfl rfl (Nat.le_of_ble_eq_true rfl) hc_35 vc (fun v_36 μ_37 vc' => ?_) (fun E_39 μ_37 vc' => ?_)
          · replace vc := vc'
            clear vc'
            obtain ⟨rfl, vc⟩ := vc
            refine sr_iconst (v := 0) h dM_apart0_24 (by decide) ?_
            refine sr_istore_n (lv' := [(0, .ref a0), (1, .int v1), (2, .int v2), (3, .int 0)]) h dM_apart0_25 rfl (by decide) rfl ?_
            refine sr_iconst (v := 0) h dM_apart0_26 (by decide) ?_
            refine sr_istore (lv' := [(0, .ref a0), (1, .int v1), (2, .int v2), (3, .int 0), (4, .int 0)]) h dM_apart0_27 (by decide) rfl ?_
            exact vc
          · replace vc := vc'
            clear vc'
            exact st_out h (fun _ z => nomatch z) hc_35.1 hc_35.2 vc
      · replace vc := vc'
        clear vc'
        exact st_out h (fun _ z => nomatch z) hc_19.1 hc_19.2 vc
  · replace vc := vc'
    clear vc'
    exact st_out h (fun _ z => nomatch z) hc_3.1 hc_3.2 vc
set_option maxRecDepth 100000 in
set_option maxHeartbeats 4000000 in
theorem bkM_apart0_29 {κ : sp_K} {x : sp_X} {mc ms : Nat} {Rt : Option Value → sp_M → Prop} {Xt : String → sp_M → Prop} {μ : sp_M} {k n : Nat} {a0 : Nat} {v1 : Int32} {v2 : Int32} {v3 : Int32} {v4 : Int32} (h : cxM_apart0 κ x mc ms) (hk : k ≤ mc ∧ n ≤ ms)
    (vc : ((v1 < v4 → Rt (some (.int v3)) μ) ∧ (¬ v1 < v4 → (∃ mc_1 ms_2 : Nat, (k + mc_1 ≤ mc ∧ n + ms_2 ≤ ms) ∧ ∃ fs_6 : List Value, μ a0 = some (.inr (3, fs_6)) ∧ sp_m x.2.1 κ yM_isIn wM_isIn 0 0 mc_1 ms_2 [.ref a0, .int v4, .int v1] μ (fun v_4 μ_5 => ∃ v_9 : Int32, v_4 = some (.int v_9) ∧ ((v_9 = 0 → sp_w κ x (sp_F κ x Rt Xt mc ms) (k + mc_1) (n + ms_2) 29 [(0, .ref a0), (1, .int v1), (2, .int v2), (3, .int v3), (4, .int (v4 + 1))] [] μ_5) ∧ (¬ v_9 = 0 → (∃ mc_10 ms_11 : Nat, ((k + mc_1) + mc_10 ≤ mc ∧ (n + ms_2) + ms_11 ≤ ms) ∧ ∃ fs_15 : List Value, μ_5 a0 = some (.inr (3, fs_15)) ∧ sp_m x.2.1 κ yM_isIn wM_isIn 0 0 mc_10 ms_11 [.ref a0, .int v4, .int v2] μ_5 (fun v_13 μ_14 => ∃ v_18 : Int32, v_13 = some (.int v_18) ∧ ((¬ v_18 = 0 → sp_w κ x (sp_F κ x Rt Xt mc ms) (k + mc_1 + mc_10) (n + ms_2 + ms_11) 29 [(0, .ref a0), (1, .int v1), (2, .int v2), (3, .int v3), (4, .int (v4 + 1))] [] μ_14) ∧ (v_18 = 0 → sp_w κ x (sp_F κ x Rt Xt mc ms) (k + mc_1 + mc_10) (n + ms_2 + ms_11) 29 [(0, .ref a0), (1, .int v1), (2, .int v2), (3, .int (v3 + 1)), (4, .int (v4 + 1))] [] μ_14))) (fun E_20 μ_14 => Xt E_20 μ_14))))) (fun E_22 μ_5 => Xt E_22 μ_5))))) : sp_w κ x (sp_F κ x Rt Xt mc ms) k n 29 [(0, .ref a0), (1, .int v1), (2, .int v2), (3, .int v3), (4, .int v4)] [] μ := by
  refine sr_iload h dM_apart0_29 4 rfl ?_
  refine sr_iload_n h dM_apart0_31 rfl 1 rfl ?_
  refine sr_icmp_gt (tgt := 64) h dM_apart0_32 (by decide) (fun c_23 => ?_) (fun c_23 => ?_)
  · replace vc := vc.1 c_23
    refine sr_iload_n h dM_apart0_64 rfl 3 rfl ?_
    exact sr_iret h dM_apart0_65 hk.1 hk.2 vc
  · replace vc := vc.2 c_23
    refine sr_aload_n h dM_apart0_35 rfl 0 rfl ?_
    refine sr_iload h dM_apart0_36 4 rfl ?_
    refine sr_iload_n h dM_apart0_38 rfl 1 rfl ?_
    obtain ⟨mc_1, ms_2, hc_3, vc⟩ := vc
    obtain ⟨fs_6, ho_7, vc⟩ := vc
    refine sr_callV (y := yM_isIn) (n0 := 2) (As := [.int v4, .int v1]) h (sp_gV kw_543 kw_545 kw_18 kw_35 kw_546) rfl (by decide +kernel) ⟨Nat.le_of_ble_eq_true rfl, Nat.le_of_ble_eq_true rfl⟩ (ci := 3) rfl dM_apart0_39 rfl rfl (Nat.le_of_ble_eq_true rfl) hc_3 ho_7 vc (fun v_4 μ_5 vc' => ?_) (fun E_22 μ_5 vc' => ?_)
    · replace vc := vc'
      clear vc'
      obtain ⟨v_9, rfl, vc⟩ := vc
      refine sr_if_eq (tgt := 58) h dM_apart0_42 (by decide) (fun c_21 => ?_) (fun c_21 => ?_)
      · replace vc := vc.1 c_21
        refine sr_iinc (u := v4 + 1) (lv' := [(0, .ref a0), (1, .int v1), (2, .int v2), (3, .int v3), (4, .int (v4 + 1))]) h dM_apart0_58 4 rfl rfl (by decide) rfl ?_
        refine sr_goto (tgt := 29) h dM_apart0_61 (by decide) ?_
        exact vc
      · replace vc := vc.2 c_21
        refine sr_aload_n h dM_apart0_45 rfl 0 rfl ?_
        refine sr_iload h dM_apart0_46 4 rfl ?_
        refine sr_iload_n h dM_apart0_48 rfl 2 rfl ?_
        obtain ⟨mc_10, ms_11, hc_12, vc⟩ := vc
        obtain ⟨fs_15, ho_16, vc⟩ := vc
        refine sr_callV (y := yM_isIn) (n0 := 2) (As := [.int v4, .int v2]) h (sp_gV kw_543 kw_545 kw_18 kw_35 kw_546) rfl (by decide +kernel) ⟨Nat.le_of_ble_eq_true rfl, Nat.le_of_ble_eq_true rfl⟩ (ci := 3) rfl dM_apart0_49 rfl rfl (Nat.le_of_ble_eq_true rfl) hc_12 ho_16 vc (fun v_13 μ_14 vc' => ?_) (fun E_20 μ_14 vc' => ?_)
        · replace vc := vc'
          clear vc'
          obtain ⟨v_18, rfl, vc⟩ := vc
          refine sr_if_ne (tgt := 58) h dM_apart0_52 (by decide) (fun c_19 => ?_) (fun c_19 => ?_)
          · replace vc := vc.1 c_19
            refine sr_iinc (u := v4 + 1) (lv' := [(0, .ref a0), (1, .int v1), (2, .int v2), (3, .int v3), (4, .int (v4 + 1))]) h dM_apart0_58 4 rfl rfl (by decide) rfl ?_
            refine sr_goto (tgt := 29) h dM_apart0_61 (by decide) ?_
            exact vc
          · replace vc := vc.2 c_19
            refine sr_iinc (u := v3 + 1) (lv' := [(0, .ref a0), (1, .int v1), (2, .int v2), (3, .int (v3 + 1)), (4, .int v4)]) h dM_apart0_55 3 rfl rfl (by decide) rfl ?_
            refine sr_iinc (u := v4 + 1) (lv' := [(0, .ref a0), (1, .int v1), (2, .int v2), (3, .int (v3 + 1)), (4, .int (v4 + 1))]) h dM_apart0_58 4 rfl rfl (by decide) rfl ?_
            refine sr_goto (tgt := 29) h dM_apart0_61 (by decide) ?_
            exact vc
        · replace vc := vc'
          clear vc'
          exact st_out h (fun _ z => nomatch z) hc_12.1 hc_12.2 vc
    · replace vc := vc'
      clear vc'
      exact st_out h (fun _ z => nomatch z) hc_3.1 hc_3.2 vc

abbrev cxM_latest (κ : sp_K) (x : sp_X) (mc ms : Nat) : Prop := sp_C κ x cM_latest 5 RM (some .int) (tableOf hhM_latest) "latest" (sp_rm 8 134 mc ms)
set_option maxRecDepth 100000 in
set_option maxHeartbeats 4000000 in
theorem bkM_latest_0 {κ : sp_K} {x : sp_X} {mc ms : Nat} {Rt : Option Value → sp_M → Prop} {Xt : String → sp_M → Prop} {μ : sp_M} {k n : Nat} {a0 : Nat} {v1 : Int32} {v2 : Int32} {v3 : Int32} (h : cxM_latest κ x mc ms) (hk : k ≤ mc ∧ n ≤ ms)
    (vc : (∃ fs_1 : List Value, μ a0 = some (.inr (3, fs_1)) ∧ 13 < fs_1.length ∧ ∀ μ_3 : sp_M, μ_3 = va_up μ a0 (some (.inr (3, fs_1.set 13 (.int 0)))) → (∃ mc_5 ms_6 : Nat, (k + mc_5 ≤ mc ∧ n + ms_6 ≤ ms) ∧ ∃ fs_10 : List Value, μ_3 a0 = some (.inr (3, fs_10)) ∧ sp_m x.2.1 κ yM_latest0 wM_latest0 7 110 mc_5 ms_6 [.ref a0, .int v1, .int v2, .int v3] μ_3 (fun v_8 μ_9 => ∃ v_13 : Int32, v_8 = some (.int v_13) ∧ Rt (some (.int v_13)) μ_9) (fun E_14 μ_9 => ((E_14 = "java/util/NoSuchElementException" ∧ ∀ q_15 : Nat, (∃ fs_16 : List Value, μ_9 a0 = some (.inr (3, fs_16)) ∧ 13 < fs_16.length ∧ ∀ μ_18 : sp_M, μ_18 = va_up μ_9 a0 (some (.inr (3, fs_16.set 13 (.int 1)))) → Rt (some (.int 0)) μ_18))))))) : sp_w κ x (sp_F κ x Rt Xt mc ms) k n 0 [(0, .ref a0), (1, .int v1), (2, .int v2), (3, .int v3)] [] μ := by
  refine sr_aload_n h dM_latest_0 rfl 0 rfl ?_
  refine sr_iconst (v := 0) h dM_latest_1 (by decide) ?_
  obtain ⟨fs_1, ho_2, vc⟩ := vc
  obtain ⟨hl_4, vc⟩ := vc
  replace vc := vc _ rfl
  refine sr_put h inM tyM tyM_ok nmM rfl 13 (by decide) kw_467 rfl dM_latest_2 ho_2 rfl rfl hl_4 ?_
  refine sr_aload_n h dM_latest_5 rfl 0 rfl ?_
  refine sr_iload_n h dM_latest_6 rfl 1 rfl ?_
  refine sr_iload_n h dM_latest_7 rfl 2 rfl ?_
  refine sr_iload_n h dM_latest_8 rfl 3 rfl ?_
  obtain ⟨mc_5, ms_6, hc_7, vc⟩ := vc
  obtain ⟨fs_10, ho_11, vc⟩ := vc
  refine sr_callV (y := yM_latest0) (n0 := 3) (As := [.int v1, .int v2, .int v3]) h (sp_gV kw_619 kw_621 kw_28 kw_35 kw_622) rfl (by decide +kernel) ⟨Nat.le_of_ble_eq_true rfl, Nat.le_of_ble_eq_true rfl⟩ (ci := 3) rfl dM_latest_9 rfl rfl (Nat.le_of_ble_eq_true rfl) hc_7 ho_11 vc (fun v_8 μ_9 vc' => ?_) (fun E_14 μ_9 vc' => ?_)
  · replace vc := vc'
    clear vc'
    obtain ⟨v_13, rfl, vc⟩ := vc
    exact sr_iret h dM_latest_12 hc_7.1 hc_7.2 vc
  · replace vc := vc'
    clear vc'
    obtain ⟨rfl, vc⟩ := vc
    refine st_catch h [] ({ startPc := 5, endPc := 12, handlerPc := 13, catchType := 44 }) [] rfl (fun _ z => nomatch z) (by decide) (by decide) (name := "java/util/NoSuchElementException") kw_506 kt_131 (fun q_15 => ?_)
    replace vc := vc q_15
    refine sr_astore (lv' := [(0, .ref a0), (1, .int v1), (2, .int v2), (3, .int v3), (4, .ref q_15)]) h dM_latest_13 (by decide) rfl ?_
    refine sr_aload_n h dM_latest_15 rfl 0 rfl ?_
    refine sr_iconst (v := 1) h dM_latest_16 (by decide) ?_
    obtain ⟨fs_16, ho_17, vc⟩ := vc
    obtain ⟨hl_19, vc⟩ := vc
    replace vc := vc _ rfl
    refine sr_put h inM tyM tyM_ok nmM rfl 13 (by decide) kw_467 rfl dM_latest_17 ho_17 rfl rfl hl_19 ?_
    refine sr_iconst (v := 0) h dM_latest_20 (by decide) ?_
    exact sr_iret h dM_latest_21 hc_7.1 hc_7.2 vc

abbrev cxM_latest0 (κ : sp_K) (x : sp_X) (mc ms : Nat) : Prop := sp_C κ x cM_latest0 5 RM (some .int) [] "latest0" (sp_rm 7 110 mc ms)
set_option maxRecDepth 100000 in
set_option maxHeartbeats 4000000 in
theorem bkM_latest0_0 {κ : sp_K} {x : sp_X} {mc ms : Nat} {Rt : Option Value → sp_M → Prop} {Xt : String → sp_M → Prop} {μ : sp_M} {k n : Nat} {a0 : Nat} {v1 : Int32} {v2 : Int32} {v3 : Int32} (h : cxM_latest0 κ x mc ms) (hk : k ≤ mc ∧ n ≤ ms)
    (vc : (∃ mc_1 ms_2 : Nat, (k + mc_1 ≤ mc ∧ n + ms_2 ≤ ms) ∧ ∃ fs_6 : List Value, μ a0 = some (.inr (3, fs_6)) ∧ sp_m x.2.1 κ yM_isPlace wM_isPlace 0 0 mc_1 ms_2 [.ref a0, .int v1] μ (fun v_4 μ_5 => ∃ v_9 : Int32, v_4 = some (.int v_9) ∧ ((v_9 = 0 → sp_w κ x (sp_F κ x Rt Xt mc ms) (k + mc_1) (n + ms_2) 20 [(0, .ref a0), (1, .int v1), (2, .int v2), (3, .int v3)] [] μ_5) ∧ (¬ v_9 = 0 → (∃ mc_10 ms_11 : Nat, ((k + mc_1) + mc_10 ≤ mc ∧ (n + ms_2) + ms_11 ≤ ms) ∧ ∃ fs_15 : List Value, μ_5 a0 = some (.inr (3, fs_15)) ∧ sp_m x.2.1 κ yM_isPlace wM_isPlace 0 0 mc_10 ms_11 [.ref a0, .int v2] μ_5 (fun v_13 μ_14 => ∃ v_18 : Int32, v_13 = some (.int v_18) ∧ ((v_18 = 0 → sp_w κ x (sp_F κ x Rt Xt mc ms) (k + mc_1 + mc_10) (n + ms_2 + ms_11) 20 [(0, .ref a0), (1, .int v1), (2, .int v2), (3, .int v3)] [] μ_14) ∧ (¬ v_18 = 0 → sp_w κ x (sp_F κ x Rt Xt mc ms) (k + mc_1 + mc_10) (n + ms_2 + ms_11) 21 [(0, .ref a0), (1, .int v1), (2, .int v2), (3, .int v3)] [.int 1] μ_14))) (fun E_20 μ_14 => Xt E_20 μ_14))))) (fun E_22 μ_5 => Xt E_22 μ_5))) : sp_w κ x (sp_F κ x Rt Xt mc ms) k n 0 [(0, .ref a0), (1, .int v1), (2, .int v2), (3, .int v3)] [] μ := by
  refine sr_aload_n h dM_latest0_0 rfl 0 rfl ?_
  refine sr_iload_n h dM_latest0_1 rfl 1 rfl ?_
  obtain ⟨mc_1, ms_2, hc_3, vc⟩ := vc
  obtain ⟨fs_6, ho_7, vc⟩ := vc
  refine sr_callV (y := yM_isPlace) (n0 := 1) (As := [.int v1]) h (sp_gV kw_586 kw_588 kw_24 kw_35 kw_589) rfl (by decide +kernel) ⟨Nat.le_of_ble_eq_true rfl, Nat.le_of_ble_eq_true rfl⟩ (ci := 3) rfl dM_latest0_2 rfl rfl (Nat.le_of_ble_eq_true rfl) hc_3 ho_7 vc (fun v_4 μ_5 vc' => ?_) (fun E_22 μ_5 vc' => ?_)
  · replace vc := vc'
    clear vc'
    obtain ⟨v_9, rfl, vc⟩ := vc
    refine sr_if_eq (tgt := 20) h dM_latest0_5 (by decide) (fun c_21 => ?_) (fun c_21 => ?_)
    · replace vc := vc.1 c_21
      exact vc
    · replace vc := vc.2 c_21
      refine sr_aload_n h dM_latest0_8 rfl 0 rfl ?_
      refine sr_iload_n h dM_latest0_9 rfl 2 rfl ?_
      obtain ⟨mc_10, ms_11, hc_12, vc⟩ := vc
      obtain ⟨fs_15, ho_16, vc⟩ := vc
      refine sr_callV (y := yM_isPlace) (n0 := 1) (As := [.int v2]) h (sp_gV kw_586 kw_588 kw_24 kw_35 kw_589) rfl (by decide +kernel) ⟨Nat.le_of_ble_eq_true rfl, Nat.le_of_ble_eq_true rfl⟩ (ci := 3) rfl dM_latest0_10 rfl rfl (Nat.le_of_ble_eq_true rfl) hc_12 ho_16 vc (fun v_13 μ_14 vc' => ?_) (fun E_20 μ_14 vc' => ?_)
      · replace vc := vc'
        clear vc'
        obtain ⟨v_18, rfl, vc⟩ := vc
        refine sr_if_eq (tgt := 20) h dM_latest0_13 (by decide) (fun c_19 => ?_) (fun c_19 => ?_)
        · replace vc := vc.1 c_19
          exact vc
        · replace vc := vc.2 c_19
          refine sr_iconst (v := 1) h dM_latest0_16 (by decide) ?_
          refine sr_goto (tgt := 21) h dM_latest0_17 (by decide) ?_
          exact vc
      · replace vc := vc'
        clear vc'
        exact st_out h (fun _ z => nomatch z) hc_12.1 hc_12.2 vc
  · replace vc := vc'
    clear vc'
    exact st_out h (fun _ z => nomatch z) hc_3.1 hc_3.2 vc
set_option maxRecDepth 100000 in
set_option maxHeartbeats 4000000 in
theorem bkM_latest0_20 {κ : sp_K} {x : sp_X} {mc ms : Nat} {Rt : Option Value → sp_M → Prop} {Xt : String → sp_M → Prop} {μ : sp_M} {k n : Nat} {a0 : Nat} {v1 : Int32} {v2 : Int32} {v3 : Int32} (h : cxM_latest0 κ x mc ms) (hk : k ≤ mc ∧ n ≤ ms)
    (vc : sp_w κ x (sp_F κ x Rt Xt mc ms) k n 21 [(0, .ref a0), (1, .int v1), (2, .int v2), (3, .int v3)] [.int 0] μ) : sp_w κ x (sp_F κ x Rt Xt mc ms) k n 20 [(0, .ref a0), (1, .int v1), (2, .int v2), (3, .int v3)] [] μ := by
  refine sr_iconst (v := 0) h dM_latest0_20 (by decide) ?_
  exact vc
set_option maxRecDepth 100000 in
set_option maxHeartbeats 4000000 in
theorem bkM_latest0_21 {κ : sp_K} {x : sp_X} {mc ms : Nat} {Rt : Option Value → sp_M → Prop} {Xt : String → sp_M → Prop} {μ : sp_M} {k n : Nat} {a0 : Nat} {v1 : Int32} {v2 : Int32} {v3 : Int32} {vs0 : Int32} (h : cxM_latest0 κ x mc ms) (hk : k ≤ mc ∧ n ≤ ms)
    (vc : (∃ mc_1 ms_2 : Nat, (k + mc_1 ≤ mc ∧ n + ms_2 ≤ ms) ∧ sp_m x.2.1 κ yM_there wM_there 6 90 mc_1 ms_2 [.int vs0] μ (fun v_4 μ_5 => v_4 = none ∧ ((v3 ≤ v1 → sp_w κ x (sp_F κ x Rt Xt mc ms) (k + mc_1) (n + ms_2) 42 [(0, .ref a0), (1, .int v1), (2, .int v2), (3, .int v3), (4, .int ((if v3 < 0 then 0 else v3) - 1))] [] μ_5) ∧ (¬ v3 ≤ v1 → sp_w κ x (sp_F κ x Rt Xt mc ms) (k + mc_1) (n + ms_2) 42 [(0, .ref a0), (1, .int v1), (2, .int v2), (3, .int v3), (4, .int v1)] [] μ_5))) (fun E_8 μ_5 => Xt E_8 μ_5))) : sp_w κ x (sp_F κ x Rt Xt mc ms) k n 21 [(0, .ref a0), (1, .int v1), (2, .int v2), (3, .int v3)] [.int vs0] μ := by
  obtain ⟨mc_1, ms_2, hc_3, vc⟩ := vc
  refine sr_callS (y := yM_there) (n0 := 1) (As := [.int vs0]) (st := []) h (sp_gS kw_521 kw_522 kw_35 kw_523) rfl (by decide +kernel) ⟨Nat.le_of_ble_eq_true rfl, Nat.le_of_ble_eq_true rfl⟩ dM_latest0_21 rfl rfl (Nat.le_of_ble_eq_true rfl) hc_3 vc (fun v_4 μ_5 vc' => ?_) (fun E_8 μ_5 vc' => ?_)
  · replace vc := vc'
    clear vc'
    obtain ⟨rfl, vc⟩ := vc
    refine sr_iload_n h dM_latest0_24 rfl 1 rfl ?_
    refine sr_iload_n h dM_latest0_25 rfl 3 rfl ?_
    refine sr_icmp_ge (tgt := 33) h dM_latest0_26 (by decide) (fun c_7 => ?_) (fun c_7 => ?_)
    · replace vc := vc.1 c_7
      refine sr_iload_n h dM_latest0_33 rfl 3 rfl ?_
      refine sr_iconst (v := 0) h dM_latest0_34 (by decide) ?_
      refine sr_mmax h kw_623 kw_110 kw_44 kw_mmax dM_latest0_35 (Nat.le_of_ble_eq_true rfl) (Nat.le_of_ble_eq_true rfl) hc_3.1 hc_3.2 ?_
      refine sr_iconst (v := 1) h dM_latest0_38 (by decide) ?_
      refine sr_isub h dM_latest0_39 ?_
      refine sr_istore (lv' := [(0, .ref a0), (1, .int v1), (2, .int v2), (3, .int v3), (4, .int ((if v3 < 0 then 0 else v3) - 1))]) h dM_latest0_40 (by decide) rfl ?_
      exact vc
    · replace vc := vc.2 c_7
      refine sr_iload_n h dM_latest0_29 rfl 1 rfl ?_
      refine sr_goto (tgt := 40) h dM_latest0_30 (by decide) ?_
      refine sr_istore (lv' := [(0, .ref a0), (1, .int v1), (2, .int v2), (3, .int v3), (4, .int v1)]) h dM_latest0_40 (by decide) rfl ?_
      exact vc
  · replace vc := vc'
    clear vc'
    exact st_out h (fun _ z => nomatch z) hc_3.1 hc_3.2 vc
set_option maxRecDepth 100000 in
set_option maxHeartbeats 4000000 in
theorem bkM_latest0_42 {κ : sp_K} {x : sp_X} {mc ms : Nat} {Rt : Option Value → sp_M → Prop} {Xt : String → sp_M → Prop} {μ : sp_M} {k n : Nat} {a0 : Nat} {v1 : Int32} {v2 : Int32} {v3 : Int32} {v4 : Int32} (h : cxM_latest0 κ x mc ms) (hk : k ≤ mc ∧ n ≤ ms)
    (vc : ((v4 < 0 → Rt (some (.int (-1))) μ) ∧ (¬ v4 < 0 → (∃ mc_1 ms_2 : Nat, (k + mc_1 ≤ mc ∧ n + ms_2 ≤ ms) ∧ ∃ fs_6 : List Value, μ a0 = some (.inr (3, fs_6)) ∧ sp_m x.2.1 κ yM_isIn wM_isIn 0 0 mc_1 ms_2 [.ref a0, .int v4, .int v1] μ (fun v_4 μ_5 => ∃ v_9 : Int32, v_4 = some (.int v_9) ∧ ((v_9 = 0 → sp_w κ x (sp_F κ x Rt Xt mc ms) (k + mc_1) (n + ms_2) 42 [(0, .ref a0), (1, .int v1), (2, .int v2), (3, .int v3), (4, .int (v4 + (-1)))] [] μ_5) ∧ (¬ v_9 = 0 → (∃ mc_10 ms_11 : Nat, ((k + mc_1) + mc_10 ≤ mc ∧ (n + ms_2) + ms_11 ≤ ms) ∧ ∃ fs_15 : List Value, μ_5 a0 = some (.inr (3, fs_15)) ∧ sp_m x.2.1 κ yM_isIn wM_isIn 0 0 mc_10 ms_11 [.ref a0, .int v4, .int v2] μ_5 (fun v_13 μ_14 => ∃ v_18 : Int32, v_13 = some (.int v_18) ∧ ((¬ v_18 = 0 → sp_w κ x (sp_F κ x Rt Xt mc ms) (k + mc_1 + mc_10) (n + ms_2 + ms_11) 42 [(0, .ref a0), (1, .int v1), (2, .int v2), (3, .int v3), (4, .int (v4 + (-1)))] [] μ_14) ∧ (v_18 = 0 → Rt (some (.int v4)) μ_14))) (fun E_20 μ_14 => Xt E_20 μ_14))))) (fun E_22 μ_5 => Xt E_22 μ_5))))) : sp_w κ x (sp_F κ x Rt Xt mc ms) k n 42 [(0, .ref a0), (1, .int v1), (2, .int v2), (3, .int v3), (4, .int v4)] [] μ := by
  refine sr_iload h dM_latest0_42 4 rfl ?_
  refine sr_if_lt (tgt := 76) h dM_latest0_44 (by decide) (fun c_23 => ?_) (fun c_23 => ?_)
  · replace vc := vc.1 c_23
    refine sr_iconst (v := -1) h dM_latest0_76 (by decide) ?_
    exact sr_iret h dM_latest0_77 hk.1 hk.2 vc
  · replace vc := vc.2 c_23
    refine sr_aload_n h dM_latest0_47 rfl 0 rfl ?_
    refine sr_iload h dM_latest0_48 4 rfl ?_
    refine sr_iload_n h dM_latest0_50 rfl 1 rfl ?_
    obtain ⟨mc_1, ms_2, hc_3, vc⟩ := vc
    obtain ⟨fs_6, ho_7, vc⟩ := vc
    refine sr_callV (y := yM_isIn) (n0 := 2) (As := [.int v4, .int v1]) h (sp_gV kw_543 kw_545 kw_18 kw_35 kw_546) rfl (by decide +kernel) ⟨Nat.le_of_ble_eq_true rfl, Nat.le_of_ble_eq_true rfl⟩ (ci := 3) rfl dM_latest0_51 rfl rfl (Nat.le_of_ble_eq_true rfl) hc_3 ho_7 vc (fun v_4 μ_5 vc' => ?_) (fun E_22 μ_5 vc' => ?_)
    · replace vc := vc'
      clear vc'
      obtain ⟨v_9, rfl, vc⟩ := vc
      refine sr_if_eq (tgt := 70) h dM_latest0_54 (by decide) (fun c_21 => ?_) (fun c_21 => ?_)
      · replace vc := vc.1 c_21
        refine sr_iinc (u := v4 + (-1)) (lv' := [(0, .ref a0), (1, .int v1), (2, .int v2), (3, .int v3), (4, .int (v4 + (-1)))]) h dM_latest0_70 4 rfl rfl (by decide) rfl ?_
        refine sr_goto (tgt := 42) h dM_latest0_73 (by decide) ?_
        exact vc
      · replace vc := vc.2 c_21
        refine sr_aload_n h dM_latest0_57 rfl 0 rfl ?_
        refine sr_iload h dM_latest0_58 4 rfl ?_
        refine sr_iload_n h dM_latest0_60 rfl 2 rfl ?_
        obtain ⟨mc_10, ms_11, hc_12, vc⟩ := vc
        obtain ⟨fs_15, ho_16, vc⟩ := vc
        refine sr_callV (y := yM_isIn) (n0 := 2) (As := [.int v4, .int v2]) h (sp_gV kw_543 kw_545 kw_18 kw_35 kw_546) rfl (by decide +kernel) ⟨Nat.le_of_ble_eq_true rfl, Nat.le_of_ble_eq_true rfl⟩ (ci := 3) rfl dM_latest0_61 rfl rfl (Nat.le_of_ble_eq_true rfl) hc_12 ho_16 vc (fun v_13 μ_14 vc' => ?_) (fun E_20 μ_14 vc' => ?_)
        · replace vc := vc'
          clear vc'
          obtain ⟨v_18, rfl, vc⟩ := vc
          refine sr_if_ne (tgt := 70) h dM_latest0_64 (by decide) (fun c_19 => ?_) (fun c_19 => ?_)
          · replace vc := vc.1 c_19
            refine sr_iinc (u := v4 + (-1)) (lv' := [(0, .ref a0), (1, .int v1), (2, .int v2), (3, .int v3), (4, .int (v4 + (-1)))]) h dM_latest0_70 4 rfl rfl (by decide) rfl ?_
            refine sr_goto (tgt := 42) h dM_latest0_73 (by decide) ?_
            exact vc
          · replace vc := vc.2 c_19
            refine sr_iload h dM_latest0_67 4 rfl ?_
            exact sr_iret h dM_latest0_69 hc_12.1 hc_12.2 vc
        · replace vc := vc'
          clear vc'
          exact st_out h (fun _ z => nomatch z) hc_12.1 hc_12.2 vc
    · replace vc := vc'
      clear vc'
      exact st_out h (fun _ z => nomatch z) hc_3.1 hc_3.2 vc

abbrev cxM_head (κ : sp_K) (x : sp_X) (mc ms : Nat) : Prop := sp_C κ x cM_head 3 RM (some .int) (tableOf hhM_head) "head" (sp_rm 8 132 mc ms)
set_option maxRecDepth 100000 in
set_option maxHeartbeats 4000000 in
theorem bkM_head_0 {κ : sp_K} {x : sp_X} {mc ms : Nat} {Rt : Option Value → sp_M → Prop} {Xt : String → sp_M → Prop} {μ : sp_M} {k n : Nat} {a0 : Nat} {v1 : Int32} (h : cxM_head κ x mc ms) (hk : k ≤ mc ∧ n ≤ ms)
    (vc : (∃ fs_1 : List Value, μ a0 = some (.inr (3, fs_1)) ∧ 13 < fs_1.length ∧ ∀ μ_3 : sp_M, μ_3 = va_up μ a0 (some (.inr (3, fs_1.set 13 (.int 0)))) → (∃ mc_5 ms_6 : Nat, (k + mc_5 ≤ mc ∧ n + ms_6 ≤ ms) ∧ ∃ fs_10 : List Value, μ_3 a0 = some (.inr (3, fs_10)) ∧ sp_m x.2.1 κ yM_head0 wM_head0 7 110 mc_5 ms_6 [.ref a0, .int v1] μ_3 (fun v_8 μ_9 => ∃ v_13 : Int32, v_8 = some (.int v_13) ∧ Rt (some (.int v_13)) μ_9) (fun E_14 μ_9 => ((E_14 = "java/util/NoSuchElementException" ∧ ∀ q_15 : Nat, (∃ fs_16 : List Value, μ_9 a0 = some (.inr (3, fs_16)) ∧ 13 < fs_16.length ∧ ∀ μ_18 : sp_M, μ_18 = va_up μ_9 a0 (some (.inr (3, fs_16.set 13 (.int 1)))) → Rt (some (.int 0)) μ_18))))))) : sp_w κ x (sp_F κ x Rt Xt mc ms) k n 0 [(0, .ref a0), (1, .int v1)] [] μ := by
  refine sr_aload_n h dM_head_0 rfl 0 rfl ?_
  refine sr_iconst (v := 0) h dM_head_1 (by decide) ?_
  obtain ⟨fs_1, ho_2, vc⟩ := vc
  obtain ⟨hl_4, vc⟩ := vc
  replace vc := vc _ rfl
  refine sr_put h inM tyM tyM_ok nmM rfl 13 (by decide) kw_467 rfl dM_head_2 ho_2 rfl rfl hl_4 ?_
  refine sr_aload_n h dM_head_5 rfl 0 rfl ?_
  refine sr_iload_n h dM_head_6 rfl 1 rfl ?_
  obtain ⟨mc_5, ms_6, hc_7, vc⟩ := vc
  obtain ⟨fs_10, ho_11, vc⟩ := vc
  refine sr_callV (y := yM_head0) (n0 := 1) (As := [.int v1]) h (sp_gV kw_628 kw_630 kw_29 kw_35 kw_631) rfl (by decide +kernel) ⟨Nat.le_of_ble_eq_true rfl, Nat.le_of_ble_eq_true rfl⟩ (ci := 3) rfl dM_head_7 rfl rfl (Nat.le_of_ble_eq_true rfl) hc_7 ho_11 vc (fun v_8 μ_9 vc' => ?_) (fun E_14 μ_9 vc' => ?_)
  · replace vc := vc'
    clear vc'
    obtain ⟨v_13, rfl, vc⟩ := vc
    exact sr_iret h dM_head_10 hc_7.1 hc_7.2 vc
  · replace vc := vc'
    clear vc'
    obtain ⟨rfl, vc⟩ := vc
    refine st_catch h [] ({ startPc := 5, endPc := 10, handlerPc := 11, catchType := 44 }) [] rfl (fun _ z => nomatch z) (by decide) (by decide) (name := "java/util/NoSuchElementException") kw_506 kt_131 (fun q_15 => ?_)
    replace vc := vc q_15
    refine sr_astore_n (lv' := [(0, .ref a0), (1, .int v1), (2, .ref q_15)]) h dM_head_11 rfl (by decide) rfl ?_
    refine sr_aload_n h dM_head_12 rfl 0 rfl ?_
    refine sr_iconst (v := 1) h dM_head_13 (by decide) ?_
    obtain ⟨fs_16, ho_17, vc⟩ := vc
    obtain ⟨hl_19, vc⟩ := vc
    replace vc := vc _ rfl
    refine sr_put h inM tyM tyM_ok nmM rfl 13 (by decide) kw_467 rfl dM_head_14 ho_17 rfl rfl hl_19 ?_
    refine sr_iconst (v := 0) h dM_head_17 (by decide) ?_
    exact sr_iret h dM_head_18 hc_7.1 hc_7.2 vc

abbrev cxM_head0 (κ : sp_K) (x : sp_X) (mc ms : Nat) : Prop := sp_C κ x cM_head0 3 RM (some .int) [] "head0" (sp_rm 7 110 mc ms)
set_option maxRecDepth 100000 in
set_option maxHeartbeats 4000000 in
theorem bkM_head0_0 {κ : sp_K} {x : sp_X} {mc ms : Nat} {Rt : Option Value → sp_M → Prop} {Xt : String → sp_M → Prop} {μ : sp_M} {k n : Nat} {a0 : Nat} {v1 : Int32} (h : cxM_head0 κ x mc ms) (hk : k ≤ mc ∧ n ≤ ms)
    (vc : (∃ fs_1 : List Value, μ a0 = some (.inr (3, fs_1)) ∧ ∃ r_3 : Option Nat, fs_1[12]? = some (va_rf r_3) ∧ (∃ mc_5 ms_6 : Nat, (k + mc_5 ≤ mc ∧ n + ms_6 ≤ ms) ∧ sp_m x.2.1 κ yM_headsTo wM_headsTo 2 45 mc_5 ms_6 [.ref a0, va_rf r_3] μ (fun v_8 μ_9 => ∃ v_11 : Int32, v_8 = some (.int v_11) ∧ ((v1 < 0 → sp_w κ x (sp_F κ x Rt Xt mc ms) (k + mc_5) (n + ms_6) 22 [(0, .ref a0), (1, .int v1), (2, .int v_11)] [] μ_9) ∧ (¬ v1 < 0 → ((v_11 ≤ v1 → sp_w κ x (sp_F κ x Rt Xt mc ms) (k + mc_5) (n + ms_6) 22 [(0, .ref a0), (1, .int v1), (2, .int v_11)] [] μ_9) ∧ (¬ v_11 ≤ v1 → (∃ mc_12 ms_13 : Nat, ((k + mc_5) + mc_12 ≤ mc ∧ (n + ms_6) + ms_13 ≤ ms) ∧ sp_m x.2.1 κ yM_there wM_there 6 90 mc_12 ms_13 [.int 1] μ_9 (fun v_15 μ_16 => v_15 = none ∧ (∃ fs_18 : List Value, μ_16 a0 = some (.inr (3, fs_18)) ∧ ∃ r_20 : Option Nat, fs_18[12]? = some (va_rf r_20) ∧ (∃ a_22 : Nat, r_20 = some a_22 ∧ ∃ (N_23 : Nat) (f_24 : Nat → Int32), μ_16 a_22 = some (sp_ia κ N_23 f_24) ∧ ∃ j_26 : Nat, v1 = nI j_26 ∧ j_26 < N_23 ∧ Rt (some (.int (f_24 j_26))) μ_16))) (fun E_29 μ_16 => Xt E_29 μ_16))))))) (fun E_32 μ_9 => Xt E_32 μ_9)))) : sp_w κ x (sp_F κ x Rt Xt mc ms) k n 0 [(0, .ref a0), (1, .int v1)] [] μ := by
  refine sr_aload_n h dM_head0_0 rfl 0 rfl ?_
  refine sr_aload_n h dM_head0_1 rfl 0 rfl ?_
  obtain ⟨fs_1, ho_2, vc⟩ := vc
  obtain ⟨r_3, hv_4, vc⟩ := vc
  refine sr_get h inM rfl 12 (by decide) kw_466 dM_head0_2 ho_2 hv_4 ?_
  obtain ⟨mc_5, ms_6, hc_7, vc⟩ := vc
  refine sr_callV (y := yM_headsTo) (n0 := 1) (As := [va_rf r_3]) h (sp_gV kw_535 kw_537 kw_16 kw_35 kw_538) rfl (by decide +kernel) ⟨Nat.le_of_ble_eq_true rfl, Nat.le_of_ble_eq_true rfl⟩ (ci := 3) rfl dM_head0_5 rfl rfl (Nat.le_of_ble_eq_true rfl) hc_7 ho_2 vc (fun v_8 μ_9 vc' => ?_) (fun E_32 μ_9 vc' => ?_)
  · replace vc := vc'
    clear vc'
    obtain ⟨v_11, rfl, vc⟩ := vc
    refine sr_istore_n (lv' := [(0, .ref a0), (1, .int v1), (2, .int v_11)]) h dM_head0_8 rfl (by decide) rfl ?_
    refine sr_iload_n h dM_head0_9 rfl 1 rfl ?_
    refine sr_if_lt (tgt := 22) h dM_head0_10 (by decide) (fun c_31 => ?_) (fun c_31 => ?_)
    · replace vc := vc.1 c_31
      exact vc
    · replace vc := vc.2 c_31
      refine sr_iload_n h dM_head0_13 rfl 1 rfl ?_
      refine sr_iload_n h dM_head0_14 rfl 2 rfl ?_
      refine sr_icmp_ge (tgt := 22) h dM_head0_15 (by decide) (fun c_30 => ?_) (fun c_30 => ?_)
      · replace vc := vc.1 c_30
        exact vc
      · replace vc := vc.2 c_30
        refine sr_iconst (v := 1) h dM_head0_18 (by decide) ?_
        refine sr_goto (tgt := 23) h dM_head0_19 (by decide) ?_
        obtain ⟨mc_12, ms_13, hc_14, vc⟩ := vc
        refine sr_callS (y := yM_there) (n0 := 1) (As := [.int 1]) (st := []) h (sp_gS kw_521 kw_522 kw_35 kw_523) rfl (by decide +kernel) ⟨Nat.le_of_ble_eq_true rfl, Nat.le_of_ble_eq_true rfl⟩ dM_head0_23 rfl rfl (Nat.le_of_ble_eq_true rfl) hc_14 vc (fun v_15 μ_16 vc' => ?_) (fun E_29 μ_16 vc' => ?_)
        · replace vc := vc'
          clear vc'
          obtain ⟨rfl, vc⟩ := vc
          refine sr_aload_n h dM_head0_26 rfl 0 rfl ?_
          obtain ⟨fs_18, ho_19, vc⟩ := vc
          obtain ⟨r_20, hv_21, vc⟩ := vc
          refine sr_get h inM rfl 12 (by decide) kw_466 dM_head0_27 ho_19 hv_21 ?_
          refine sr_iload_n h dM_head0_30 rfl 1 rfl ?_
          obtain ⟨a_22, rfl, vc⟩ := vc
          obtain ⟨N_23, f_24, ho_25, vc⟩ := vc
          obtain ⟨j_26, hi_27, hj_28, vc⟩ := vc
          refine sr_iald h dM_head0_31 ho_25 hi_27 hj_28 ?_
          exact sr_iret h dM_head0_32 hc_14.1 hc_14.2 vc
        · replace vc := vc'
          clear vc'
          exact st_out h (fun _ z => nomatch z) hc_14.1 hc_14.2 vc
  · replace vc := vc'
    clear vc'
    exact st_out h (fun _ z => nomatch z) hc_7.1 hc_7.2 vc
set_option maxRecDepth 100000 in
set_option maxHeartbeats 4000000 in
theorem bkM_head0_22 {κ : sp_K} {x : sp_X} {mc ms : Nat} {Rt : Option Value → sp_M → Prop} {Xt : String → sp_M → Prop} {μ : sp_M} {k n : Nat} {a0 : Nat} {v1 : Int32} {v2 : Int32} (h : cxM_head0 κ x mc ms) (hk : k ≤ mc ∧ n ≤ ms)
    (vc : (∃ mc_1 ms_2 : Nat, (k + mc_1 ≤ mc ∧ n + ms_2 ≤ ms) ∧ sp_m x.2.1 κ yM_there wM_there 6 90 mc_1 ms_2 [.int 0] μ (fun v_4 μ_5 => v_4 = none ∧ (∃ fs_7 : List Value, μ_5 a0 = some (.inr (3, fs_7)) ∧ ∃ r_9 : Option Nat, fs_7[12]? = some (va_rf r_9) ∧ (∃ a_11 : Nat, r_9 = some a_11 ∧ ∃ (N_12 : Nat) (f_13 : Nat → Int32), μ_5 a_11 = some (sp_ia κ N_12 f_13) ∧ ∃ j_15 : Nat, v1 = nI j_15 ∧ j_15 < N_12 ∧ Rt (some (.int (f_13 j_15))) μ_5))) (fun E_18 μ_5 => Xt E_18 μ_5))) : sp_w κ x (sp_F κ x Rt Xt mc ms) k n 22 [(0, .ref a0), (1, .int v1), (2, .int v2)] [] μ := by
  refine sr_iconst (v := 0) h dM_head0_22 (by decide) ?_
  obtain ⟨mc_1, ms_2, hc_3, vc⟩ := vc
  refine sr_callS (y := yM_there) (n0 := 1) (As := [.int 0]) (st := []) h (sp_gS kw_521 kw_522 kw_35 kw_523) rfl (by decide +kernel) ⟨Nat.le_of_ble_eq_true rfl, Nat.le_of_ble_eq_true rfl⟩ dM_head0_23 rfl rfl (Nat.le_of_ble_eq_true rfl) hc_3 vc (fun v_4 μ_5 vc' => ?_) (fun E_18 μ_5 vc' => ?_)
  · replace vc := vc'
    clear vc'
    obtain ⟨rfl, vc⟩ := vc
    refine sr_aload_n h dM_head0_26 rfl 0 rfl ?_
    obtain ⟨fs_7, ho_8, vc⟩ := vc
    obtain ⟨r_9, hv_10, vc⟩ := vc
    refine sr_get h inM rfl 12 (by decide) kw_466 dM_head0_27 ho_8 hv_10 ?_
    refine sr_iload_n h dM_head0_30 rfl 1 rfl ?_
    obtain ⟨a_11, rfl, vc⟩ := vc
    obtain ⟨N_12, f_13, ho_14, vc⟩ := vc
    obtain ⟨j_15, hi_16, hj_17, vc⟩ := vc
    refine sr_iald h dM_head0_31 ho_14 hi_16 hj_17 ?_
    exact sr_iret h dM_head0_32 hc_3.1 hc_3.2 vc
  · replace vc := vc'
    clear vc'
    exact st_out h (fun _ z => nomatch z) hc_3.1 hc_3.2 vc

abbrev cxM_critical (κ : sp_K) (x : sp_X) (mc ms : Nat) : Prop := sp_C κ x cM_critical 1 RM (some .int) [] "critical" (sp_rm 3 67 mc ms)
set_option maxRecDepth 100000 in
set_option maxHeartbeats 4000000 in
theorem bkM_critical_0 {κ : sp_K} {x : sp_X} {mc ms : Nat} {Rt : Option Value → sp_M → Prop} {Xt : String → sp_M → Prop} {μ : sp_M} {k n : Nat} {a0 : Nat} (h : cxM_critical κ x mc ms) (hk : k ≤ mc ∧ n ≤ ms)
    (vc : (∃ fs_1 : List Value, μ a0 = some (.inr (3, fs_1)) ∧ 13 < fs_1.length ∧ ∀ μ_3 : sp_M, μ_3 = va_up μ a0 (some (.inr (3, fs_1.set 13 (.int 0)))) → (∃ mc_5 ms_6 : Nat, (k + mc_5 ≤ mc ∧ n + ms_6 ≤ ms) ∧ ∃ fs_10 : List Value, μ_3 a0 = some (.inr (3, fs_10)) ∧ sp_m x.2.1 κ yM_critical0 wM_critical0 2 45 mc_5 ms_6 [.ref a0] μ_3 (fun v_8 μ_9 => ∃ v_13 : Int32, v_8 = some (.int v_13) ∧ Rt (some (.int v_13)) μ_9) (fun E_14 μ_9 => Xt E_14 μ_9)))) : sp_w κ x (sp_F κ x Rt Xt mc ms) k n 0 [(0, .ref a0)] [] μ := by
  refine sr_aload_n h dM_critical_0 rfl 0 rfl ?_
  refine sr_iconst (v := 0) h dM_critical_1 (by decide) ?_
  obtain ⟨fs_1, ho_2, vc⟩ := vc
  obtain ⟨hl_4, vc⟩ := vc
  replace vc := vc _ rfl
  refine sr_put h inM tyM tyM_ok nmM rfl 13 (by decide) kw_467 rfl dM_critical_2 ho_2 rfl rfl hl_4 ?_
  refine sr_aload_n h dM_critical_5 rfl 0 rfl ?_
  obtain ⟨mc_5, ms_6, hc_7, vc⟩ := vc
  obtain ⟨fs_10, ho_11, vc⟩ := vc
  refine sr_callV (y := yM_critical0) (n0 := 0) (As := []) h (sp_gV kw_636 kw_638 kw_30 kw_35 kw_639) rfl (by decide +kernel) ⟨Nat.le_of_ble_eq_true rfl, Nat.le_of_ble_eq_true rfl⟩ (ci := 3) rfl dM_critical_6 rfl rfl (Nat.le_of_ble_eq_true rfl) hc_7 ho_11 vc (fun v_8 μ_9 vc' => ?_) (fun E_14 μ_9 vc' => ?_)
  · replace vc := vc'
    clear vc'
    obtain ⟨v_13, rfl, vc⟩ := vc
    exact sr_iret h dM_critical_9 hc_7.1 hc_7.2 vc
  · replace vc := vc'
    clear vc'
    exact st_out h (fun _ z => nomatch z) hc_7.1 hc_7.2 vc

abbrev cxM_critical0 (κ : sp_K) (x : sp_X) (mc ms : Nat) : Prop := sp_C κ x cM_critical0 3 RM (some .int) [] "critical0" (sp_rm 2 45 mc ms)
set_option maxRecDepth 100000 in
set_option maxHeartbeats 4000000 in
theorem bkM_critical0_0 {κ : sp_K} {x : sp_X} {mc ms : Nat} {Rt : Option Value → sp_M → Prop} {Xt : String → sp_M → Prop} {μ : sp_M} {k n : Nat} {a0 : Nat} (h : cxM_critical0 κ x mc ms) (hk : k ≤ mc ∧ n ≤ ms)
    (vc : sp_w κ x (sp_F κ x Rt Xt mc ms) k n 4 [(0, .ref a0), (1, .int 0), (2, .int 0)] [] μ) : sp_w κ x (sp_F κ x Rt Xt mc ms) k n 0 [(0, .ref a0)] [] μ := by
  refine sr_iconst (v := 0) h dM_critical0_0 (by decide) ?_
  refine sr_istore_n (lv' := [(0, .ref a0), (1, .int 0)]) h dM_critical0_1 rfl (by decide) rfl ?_
  refine sr_iconst (v := 0) h dM_critical0_2 (by decide) ?_
  refine sr_istore_n (lv' := [(0, .ref a0), (1, .int 0), (2, .int 0)]) h dM_critical0_3 rfl (by decide) rfl ?_
  exact vc
set_option maxRecDepth 100000 in
set_option maxHeartbeats 4000000 in
theorem bkM_critical0_4 {κ : sp_K} {x : sp_X} {mc ms : Nat} {Rt : Option Value → sp_M → Prop} {Xt : String → sp_M → Prop} {μ : sp_M} {k n : Nat} {a0 : Nat} {v1 : Int32} {v2 : Int32} (h : cxM_critical0 κ x mc ms) (hk : k ≤ mc ∧ n ≤ ms)
    (vc : (∃ fs_1 : List Value, μ a0 = some (.inr (3, fs_1)) ∧ ∃ v_3 : Int32, fs_1[9]? = some (.int v_3) ∧ ((v_3 ≤ v2 → Rt (some (.int v1)) μ) ∧ (¬ v_3 ≤ v2 → (∃ mc_5 ms_6 : Nat, (k + mc_5 ≤ mc ∧ n + ms_6 ≤ ms) ∧ sp_m x.2.1 κ yM_isCritical wM_isCritical 1 22 mc_5 ms_6 [.ref a0, .int v2] μ (fun v_8 μ_9 => ∃ v_11 : Int32, v_8 = some (.int v_11) ∧ ((v_11 = 0 → sp_w κ x (sp_F κ x Rt Xt mc ms) (k + mc_5) (n + ms_6) 4 [(0, .ref a0), (1, .int v1), (2, .int (v2 + 1))] [] μ_9) ∧ (¬ v_11 = 0 → sp_w κ x (sp_F κ x Rt Xt mc ms) (k + mc_5) (n + ms_6) 4 [(0, .ref a0), (1, .int (v1 + 1)), (2, .int (v2 + 1))] [] μ_9))) (fun E_13 μ_9 => Xt E_13 μ_9)))))) : sp_w κ x (sp_F κ x Rt Xt mc ms) k n 4 [(0, .ref a0), (1, .int v1), (2, .int v2)] [] μ := by
  refine sr_iload_n h dM_critical0_4 rfl 2 rfl ?_
  refine sr_aload_n h dM_critical0_5 rfl 0 rfl ?_
  obtain ⟨fs_1, ho_2, vc⟩ := vc
  obtain ⟨v_3, hv_4, vc⟩ := vc
  refine sr_get h inM rfl 9 (by decide) kw_463 dM_critical0_6 ho_2 hv_4 ?_
  refine sr_icmp_ge (tgt := 29) h dM_critical0_9 (by decide) (fun c_14 => ?_) (fun c_14 => ?_)
  · replace vc := vc.1 c_14
    refine sr_iload_n h dM_critical0_29 rfl 1 rfl ?_
    exact sr_iret h dM_critical0_30 hk.1 hk.2 vc
  · replace vc := vc.2 c_14
    refine sr_aload_n h dM_critical0_12 rfl 0 rfl ?_
    refine sr_iload_n h dM_critical0_13 rfl 2 rfl ?_
    obtain ⟨mc_5, ms_6, hc_7, vc⟩ := vc
    refine sr_callV (y := yM_isCritical) (n0 := 1) (As := [.int v2]) h (sp_gV kw_640 kw_642 kw_31 kw_35 kw_643) rfl (by decide +kernel) ⟨Nat.le_of_ble_eq_true rfl, Nat.le_of_ble_eq_true rfl⟩ (ci := 3) rfl dM_critical0_14 rfl rfl (Nat.le_of_ble_eq_true rfl) hc_7 ho_2 vc (fun v_8 μ_9 vc' => ?_) (fun E_13 μ_9 vc' => ?_)
    · replace vc := vc'
      clear vc'
      obtain ⟨v_11, rfl, vc⟩ := vc
      refine sr_if_eq (tgt := 23) h dM_critical0_17 (by decide) (fun c_12 => ?_) (fun c_12 => ?_)
      · replace vc := vc.1 c_12
        refine sr_iinc (u := v2 + 1) (lv' := [(0, .ref a0), (1, .int v1), (2, .int (v2 + 1))]) h dM_critical0_23 2 rfl rfl (by decide) rfl ?_
        refine sr_goto (tgt := 4) h dM_critical0_26 (by decide) ?_
        exact vc
      · replace vc := vc.2 c_12
        refine sr_iinc (u := v1 + 1) (lv' := [(0, .ref a0), (1, .int (v1 + 1)), (2, .int v2)]) h dM_critical0_20 1 rfl rfl (by decide) rfl ?_
        refine sr_iinc (u := v2 + 1) (lv' := [(0, .ref a0), (1, .int (v1 + 1)), (2, .int (v2 + 1))]) h dM_critical0_23 2 rfl rfl (by decide) rfl ?_
        refine sr_goto (tgt := 4) h dM_critical0_26 (by decide) ?_
        exact vc
    · replace vc := vc'
      clear vc'
      exact st_out h (fun _ z => nomatch z) hc_7.1 hc_7.2 vc

abbrev cxM_isCritical (κ : sp_K) (x : sp_X) (mc ms : Nat) : Prop := sp_C κ x cM_isCritical 4 RM (some .boolean) [] "isCritical" (sp_rm 1 22 mc ms)
set_option maxRecDepth 100000 in
set_option maxHeartbeats 4000000 in
theorem bkM_isCritical_0 {κ : sp_K} {x : sp_X} {mc ms : Nat} {Rt : Option Value → sp_M → Prop} {Xt : String → sp_M → Prop} {μ : sp_M} {k n : Nat} {a0 : Nat} {v1 : Int32} (h : cxM_isCritical κ x mc ms) (hk : k ≤ mc ∧ n ≤ ms)
    (vc : sp_w κ x (sp_F κ x Rt Xt mc ms) k n 2 [(0, .ref a0), (1, .int v1), (2, .int 0)] [] μ) : sp_w κ x (sp_F κ x Rt Xt mc ms) k n 0 [(0, .ref a0), (1, .int v1)] [] μ := by
  refine sr_iconst (v := 0) h dM_isCritical_0 (by decide) ?_
  refine sr_istore_n (lv' := [(0, .ref a0), (1, .int v1), (2, .int 0)]) h dM_isCritical_1 rfl (by decide) rfl ?_
  exact vc
set_option maxRecDepth 100000 in
set_option maxHeartbeats 4000000 in
theorem bkM_isCritical_2 {κ : sp_K} {x : sp_X} {mc ms : Nat} {Rt : Option Value → sp_M → Prop} {Xt : String → sp_M → Prop} {μ : sp_M} {k n : Nat} {a0 : Nat} {v1 : Int32} {v2 : Int32} (h : cxM_isCritical κ x mc ms) (hk : k ≤ mc ∧ n ≤ ms)
    (vc : (∃ fs_1 : List Value, μ a0 = some (.inr (3, fs_1)) ∧ ∃ v_3 : Int32, fs_1[2]? = some (.int v_3) ∧ ((v_3 ≤ v2 → Rt (some (.int 1)) μ) ∧ (¬ v_3 ≤ v2 → (∃ r_5 : Option Nat, fs_1[8]? = some (va_rf r_5) ∧ (∃ a_7 : Nat, r_5 = some a_7 ∧ ∃ (N_8 : Nat) (f_9 : Nat → Int32), μ a_7 = some (sp_sa κ N_8 f_9) ∧ ∃ j_11 : Nat, (16 * v1) + v2 = nI j_11 ∧ j_11 < N_8 ∧ (∃ r_14 : Option Nat, fs_1[1]? = some (va_rf r_14) ∧ (∃ a_16 : Nat, r_14 = some a_16 ∧ ∃ (N_17 : Nat) (f_18 : Nat → Int32), μ a_16 = some (sp_ia κ N_17 f_18) ∧ ∃ j_20 : Nat, v2 = nI j_20 ∧ j_20 < N_17 ∧ (((f_18 j_20) ≤ (f_9 j_11) → sp_w κ x (sp_F κ x Rt Xt mc ms) k n 2 [(0, .ref a0), (1, .int v1), (2, .int (v2 + 1))] [] μ) ∧ (¬ (f_18 j_20) ≤ (f_9 j_11) → (∃ r_23 : Option Nat, fs_1[3]? = some (va_rf r_23) ∧ (∃ a_25 : Nat, r_23 = some a_25 ∧ ∃ (N_26 : Nat) (f_27 : Nat → Option Nat), μ a_25 = some (sp_ra κ 5 N_26 f_27) ∧ ∃ j_29 : Nat, v2 = nI j_29 ∧ j_29 < N_26 ∧ ∃ r_32 : Option Nat, f_27 j_29 = r_32 ∧ (∃ a_34 : Nat, r_32 = some a_34 ∧ ∃ (N_35 : Nat) (f_36 : Nat → Int32), μ a_34 = some (sp_ia κ N_35 f_36) ∧ ∃ j_38 : Nat, f_9 j_11 = nI j_38 ∧ j_38 < N_35 ∧ (∃ mc_41 ms_42 : Nat, (k + mc_41 ≤ mc ∧ n + ms_42 ≤ ms) ∧ sp_m x.2.1 κ yM_isIn wM_isIn 0 0 mc_41 ms_42 [.ref a0, .int v1, .int (f_36 j_38)] μ (fun v_44 μ_45 => ∃ v_47 : Int32, v_44 = some (.int v_47) ∧ ((¬ v_47 = 0 → sp_w κ x (sp_F κ x Rt Xt mc ms) (k + mc_41) (n + ms_42) 2 [(0, .ref a0), (1, .int v1), (2, .int (v2 + 1))] [] μ_45) ∧ (v_47 = 0 → Rt (some (.int 0)) μ_45))) (fun E_49 μ_45 => Xt E_49 μ_45))))))))))))))) : sp_w κ x (sp_F κ x Rt Xt mc ms) k n 2 [(0, .ref a0), (1, .int v1), (2, .int v2)] [] μ := by
  refine sr_iload_n h dM_isCritical_2 rfl 2 rfl ?_
  refine sr_aload_n h dM_isCritical_3 rfl 0 rfl ?_
  obtain ⟨fs_1, ho_2, vc⟩ := vc
  obtain ⟨v_3, hv_4, vc⟩ := vc
  refine sr_get h inM rfl 2 (by decide) kw_456 dM_isCritical_4 ho_2 hv_4 ?_
  refine sr_icmp_ge (tgt := 56) h dM_isCritical_7 (by decide) (fun c_51 => ?_) (fun c_51 => ?_)
  · replace vc := vc.1 c_51
    refine sr_iconst (v := 1) h dM_isCritical_56 (by decide) ?_
    exact sr_zret h dM_isCritical_57 rfl hk.1 hk.2 vc
  · replace vc := vc.2 c_51
    refine sr_aload_n h dM_isCritical_10 rfl 0 rfl ?_
    obtain ⟨r_5, hv_6, vc⟩ := vc
    refine sr_get h inM rfl 8 (by decide) kw_462 dM_isCritical_11 ho_2 hv_6 ?_
    refine sr_bipush (v := 16) h dM_isCritical_14 (by decide) ?_
    refine sr_iload_n h dM_isCritical_16 rfl 1 rfl ?_
    refine sr_imul h dM_isCritical_17 ?_
    refine sr_iload_n h dM_isCritical_18 rfl 2 rfl ?_
    refine sr_iadd h dM_isCritical_19 ?_
    obtain ⟨a_7, rfl, vc⟩ := vc
    obtain ⟨N_8, f_9, ho_10, vc⟩ := vc
    obtain ⟨j_11, hi_12, hj_13, vc⟩ := vc
    refine sr_sald h dM_isCritical_20 ho_10 hi_12 hj_13 ?_
    refine sr_istore_n (lv' := [(0, .ref a0), (1, .int v1), (2, .int v2), (3, .int (f_9 j_11))]) h dM_isCritical_21 rfl (by decide) rfl ?_
    refine sr_iload_n h dM_isCritical_22 rfl 3 rfl ?_
    refine sr_aload_n h dM_isCritical_23 rfl 0 rfl ?_
    obtain ⟨r_14, hv_15, vc⟩ := vc
    refine sr_get h inM rfl 1 (by decide) kw_455 dM_isCritical_24 ho_2 hv_15 ?_
    refine sr_iload_n h dM_isCritical_27 rfl 2 rfl ?_
    obtain ⟨a_16, rfl, vc⟩ := vc
    obtain ⟨N_17, f_18, ho_19, vc⟩ := vc
    obtain ⟨j_20, hi_21, hj_22, vc⟩ := vc
    refine sr_iald h dM_isCritical_28 ho_19 hi_21 hj_22 ?_
    refine sr_icmp_ge (tgt := 50) h dM_isCritical_29 (by decide) (fun c_50 => ?_) (fun c_50 => ?_)
    · replace vc := vc.1 c_50
      refine sr_iinc (u := v2 + 1) (lv' := [(0, .ref a0), (1, .int v1), (2, .int (v2 + 1)), (3, .int (f_9 j_11))]) h dM_isCritical_50 2 rfl rfl (by decide) rfl ?_
      refine sr_goto (tgt := 2) h dM_isCritical_53 (by decide) ?_
      exact sr_sub (lv' := [(0, .ref a0), (1, .int v1), (2, .int (v2 + 1))]) [0, 1, 2] rfl vc
    · replace vc := vc.2 c_50
      refine sr_aload_n h dM_isCritical_32 rfl 0 rfl ?_
      refine sr_iload_n h dM_isCritical_33 rfl 1 rfl ?_
      refine sr_aload_n h dM_isCritical_34 rfl 0 rfl ?_
      obtain ⟨r_23, hv_24, vc⟩ := vc
      refine sr_get h inM rfl 3 (by decide) kw_457 dM_isCritical_35 ho_2 hv_24 ?_
      refine sr_iload_n h dM_isCritical_38 rfl 2 rfl ?_
      obtain ⟨a_25, rfl, vc⟩ := vc
      obtain ⟨N_26, f_27, ho_28, vc⟩ := vc
      obtain ⟨j_29, hi_30, hj_31, vc⟩ := vc
      obtain ⟨r_32, hr_33, vc⟩ := vc
      refine sr_aaldA h dM_isCritical_39 ho_28 hi_30 hj_31 hr_33 ?_
      refine sr_iload_n h dM_isCritical_40 rfl 3 rfl ?_
      obtain ⟨a_34, rfl, vc⟩ := vc
      obtain ⟨N_35, f_36, ho_37, vc⟩ := vc
      obtain ⟨j_38, hi_39, hj_40, vc⟩ := vc
      refine sr_iald h dM_isCritical_41 ho_37 hi_39 hj_40 ?_
      obtain ⟨mc_41, ms_42, hc_43, vc⟩ := vc
      refine sr_callV (y := yM_isIn) (n0 := 2) (As := [.int v1, .int (f_36 j_38)]) h (sp_gV kw_543 kw_545 kw_18 kw_35 kw_546) rfl (by decide +kernel) ⟨Nat.le_of_ble_eq_true rfl, Nat.le_of_ble_eq_true rfl⟩ (ci := 3) rfl dM_isCritical_42 rfl rfl (Nat.le_of_ble_eq_true rfl) hc_43 ho_2 vc (fun v_44 μ_45 vc' => ?_) (fun E_49 μ_45 vc' => ?_)
      · replace vc := vc'
        clear vc'
        obtain ⟨v_47, rfl, vc⟩ := vc
        refine sr_if_ne (tgt := 50) h dM_isCritical_45 (by decide) (fun c_48 => ?_) (fun c_48 => ?_)
        · replace vc := vc.1 c_48
          refine sr_iinc (u := v2 + 1) (lv' := [(0, .ref a0), (1, .int v1), (2, .int (v2 + 1)), (3, .int (f_9 j_11))]) h dM_isCritical_50 2 rfl rfl (by decide) rfl ?_
          refine sr_goto (tgt := 2) h dM_isCritical_53 (by decide) ?_
          exact sr_sub (lv' := [(0, .ref a0), (1, .int v1), (2, .int (v2 + 1))]) [0, 1, 2] rfl vc
        · replace vc := vc.2 c_48
          refine sr_iconst (v := 0) h dM_isCritical_48 (by decide) ?_
          exact sr_zret h dM_isCritical_49 rfl hc_43.1 hc_43.2 vc
      · replace vc := vc'
        clear vc'
        exact st_out h (fun _ z => nomatch z) hc_43.1 hc_43.2 vc

abbrev cxM_base (κ : sp_K) (x : sp_X) (mc ms : Nat) : Prop := sp_C κ x cM_base 2 RM (some .int) [] "base" (sp_rm 3 67 mc ms)
set_option maxRecDepth 100000 in
set_option maxHeartbeats 4000000 in
theorem bkM_base_0 {κ : sp_K} {x : sp_X} {mc ms : Nat} {Rt : Option Value → sp_M → Prop} {Xt : String → sp_M → Prop} {μ : sp_M} {k n : Nat} {a0 : Nat} {v1 : Int32} (h : cxM_base κ x mc ms) (hk : k ≤ mc ∧ n ≤ ms)
    (vc : (∃ fs_1 : List Value, μ a0 = some (.inr (3, fs_1)) ∧ 13 < fs_1.length ∧ ∀ μ_3 : sp_M, μ_3 = va_up μ a0 (some (.inr (3, fs_1.set 13 (.int 0)))) → (∃ mc_5 ms_6 : Nat, (k + mc_5 ≤ mc ∧ n + ms_6 ≤ ms) ∧ ∃ fs_10 : List Value, μ_3 a0 = some (.inr (3, fs_10)) ∧ sp_m x.2.1 κ yM_base0 wM_base0 2 45 mc_5 ms_6 [.ref a0, .int v1] μ_3 (fun v_8 μ_9 => ∃ v_13 : Int32, v_8 = some (.int v_13) ∧ Rt (some (.int v_13)) μ_9) (fun E_14 μ_9 => Xt E_14 μ_9)))) : sp_w κ x (sp_F κ x Rt Xt mc ms) k n 0 [(0, .ref a0), (1, .int v1)] [] μ := by
  refine sr_aload_n h dM_base_0 rfl 0 rfl ?_
  refine sr_iconst (v := 0) h dM_base_1 (by decide) ?_
  obtain ⟨fs_1, ho_2, vc⟩ := vc
  obtain ⟨hl_4, vc⟩ := vc
  replace vc := vc _ rfl
  refine sr_put h inM tyM tyM_ok nmM rfl 13 (by decide) kw_467 rfl dM_base_2 ho_2 rfl rfl hl_4 ?_
  refine sr_aload_n h dM_base_5 rfl 0 rfl ?_
  refine sr_iload_n h dM_base_6 rfl 1 rfl ?_
  obtain ⟨mc_5, ms_6, hc_7, vc⟩ := vc
  obtain ⟨fs_10, ho_11, vc⟩ := vc
  refine sr_callV (y := yM_base0) (n0 := 1) (As := [.int v1]) h (sp_gV kw_648 kw_650 kw_32 kw_35 kw_651) rfl (by decide +kernel) ⟨Nat.le_of_ble_eq_true rfl, Nat.le_of_ble_eq_true rfl⟩ (ci := 3) rfl dM_base_7 rfl rfl (Nat.le_of_ble_eq_true rfl) hc_7 ho_11 vc (fun v_8 μ_9 vc' => ?_) (fun E_14 μ_9 vc' => ?_)
  · replace vc := vc'
    clear vc'
    obtain ⟨v_13, rfl, vc⟩ := vc
    exact sr_iret h dM_base_10 hc_7.1 hc_7.2 vc
  · replace vc := vc'
    clear vc'
    exact st_out h (fun _ z => nomatch z) hc_7.1 hc_7.2 vc

abbrev cxM_base0 (κ : sp_K) (x : sp_X) (mc ms : Nat) : Prop := sp_C κ x cM_base0 3 RM (some .int) [] "base0" (sp_rm 2 45 mc ms)
set_option maxRecDepth 100000 in
set_option maxHeartbeats 4000000 in
theorem bkM_base0_0 {κ : sp_K} {x : sp_X} {mc ms : Nat} {Rt : Option Value → sp_M → Prop} {Xt : String → sp_M → Prop} {μ : sp_M} {k n : Nat} {a0 : Nat} {v1 : Int32} (h : cxM_base0 κ x mc ms) (hk : k ≤ mc ∧ n ≤ ms)
    (vc : (∃ fs_1 : List Value, μ a0 = some (.inr (3, fs_1)) ∧ ∃ v_3 : Int32, fs_1[9]? = some (.int v_3) ∧ ((v_3 ≤ v1 → (sp_w κ x (sp_F κ x Rt Xt mc ms) k n 25 [(0, .ref a0), (1, .int v1), (2, .int (v_3 - 1))] [] μ)) ∧ (¬ v_3 ≤ v1 → sp_w κ x (sp_F κ x Rt Xt mc ms) k n 25 [(0, .ref a0), (1, .int v1), (2, .int ((if v1 < 0 then 0 else v1) - 1))] [] μ)))) : sp_w κ x (sp_F κ x Rt Xt mc ms) k n 0 [(0, .ref a0), (1, .int v1)] [] μ := by
  refine sr_iload_n h dM_base0_0 rfl 1 rfl ?_
  refine sr_aload_n h dM_base0_1 rfl 0 rfl ?_
  obtain ⟨fs_1, ho_2, vc⟩ := vc
  obtain ⟨v_3, hv_4, vc⟩ := vc
  refine sr_get h inM rfl 9 (by decide) kw_463 dM_base0_2 ho_2 hv_4 ?_
  refine sr_icmp_ge (tgt := 18) h dM_base0_5 (by decide) (fun c_5 => ?_) (fun c_5 => ?_)
  · replace vc := vc.1 c_5
    refine sr_aload_n h dM_base0_18 rfl 0 rfl ?_
    refine sr_get h inM rfl 9 (by decide) kw_463 dM_base0_19 ho_2 hv_4 ?_
    refine sr_iconst (v := 1) h dM_base0_22 (by decide) ?_
    refine sr_isub h dM_base0_23 ?_
    refine sr_istore_n (lv' := [(0, .ref a0), (1, .int v1), (2, .int (v_3 - 1))]) h dM_base0_24 rfl (by decide) rfl ?_
    exact vc
  · replace vc := vc.2 c_5
    refine sr_iload_n h dM_base0_8 rfl 1 rfl ?_
    refine sr_iconst (v := 0) h dM_base0_9 (by decide) ?_
    refine sr_mmax h kw_623 kw_110 kw_44 kw_mmax dM_base0_10 (Nat.le_of_ble_eq_true rfl) (Nat.le_of_ble_eq_true rfl) hk.1 hk.2 ?_
    refine sr_iconst (v := 1) h dM_base0_13 (by decide) ?_
    refine sr_isub h dM_base0_14 ?_
    refine sr_goto (tgt := 24) h dM_base0_15 (by decide) ?_
    refine sr_istore_n (lv' := [(0, .ref a0), (1, .int v1), (2, .int ((if v1 < 0 then 0 else v1) - 1))]) h dM_base0_24 rfl (by decide) rfl ?_
    exact vc
set_option maxRecDepth 100000 in
set_option maxHeartbeats 4000000 in
theorem bkM_base0_25 {κ : sp_K} {x : sp_X} {mc ms : Nat} {Rt : Option Value → sp_M → Prop} {Xt : String → sp_M → Prop} {μ : sp_M} {k n : Nat} {a0 : Nat} {v1 : Int32} {v2 : Int32} (h : cxM_base0 κ x mc ms) (hk : k ≤ mc ∧ n ≤ ms)
    (vc : ((v2 < 0 → Rt (some (.int (-1))) μ) ∧ (¬ v2 < 0 → (∃ mc_1 ms_2 : Nat, (k + mc_1 ≤ mc ∧ n + ms_2 ≤ ms) ∧ ∃ fs_6 : List Value, μ a0 = some (.inr (3, fs_6)) ∧ sp_m x.2.1 κ yM_isCritical wM_isCritical 1 22 mc_1 ms_2 [.ref a0, .int v2] μ (fun v_4 μ_5 => ∃ v_9 : Int32, v_4 = some (.int v_9) ∧ ((v_9 = 0 → sp_w κ x (sp_F κ x Rt Xt mc ms) (k + mc_1) (n + ms_2) 25 [(0, .ref a0), (1, .int v1), (2, .int (v2 + (-1)))] [] μ_5) ∧ (¬ v_9 = 0 → Rt (some (.int v2)) μ_5))) (fun E_11 μ_5 => Xt E_11 μ_5))))) : sp_w κ x (sp_F κ x Rt Xt mc ms) k n 25 [(0, .ref a0), (1, .int v1), (2, .int v2)] [] μ := by
  refine sr_iload_n h dM_base0_25 rfl 2 rfl ?_
  refine sr_if_lt (tgt := 45) h dM_base0_26 (by decide) (fun c_12 => ?_) (fun c_12 => ?_)
  · replace vc := vc.1 c_12
    refine sr_iconst (v := -1) h dM_base0_45 (by decide) ?_
    exact sr_iret h dM_base0_46 hk.1 hk.2 vc
  · replace vc := vc.2 c_12
    refine sr_aload_n h dM_base0_29 rfl 0 rfl ?_
    refine sr_iload_n h dM_base0_30 rfl 2 rfl ?_
    obtain ⟨mc_1, ms_2, hc_3, vc⟩ := vc
    obtain ⟨fs_6, ho_7, vc⟩ := vc
    refine sr_callV (y := yM_isCritical) (n0 := 1) (As := [.int v2]) h (sp_gV kw_640 kw_642 kw_31 kw_35 kw_643) rfl (by decide +kernel) ⟨Nat.le_of_ble_eq_true rfl, Nat.le_of_ble_eq_true rfl⟩ (ci := 3) rfl dM_base0_31 rfl rfl (Nat.le_of_ble_eq_true rfl) hc_3 ho_7 vc (fun v_4 μ_5 vc' => ?_) (fun E_11 μ_5 vc' => ?_)
    · replace vc := vc'
      clear vc'
      obtain ⟨v_9, rfl, vc⟩ := vc
      refine sr_if_eq (tgt := 39) h dM_base0_34 (by decide) (fun c_10 => ?_) (fun c_10 => ?_)
      · replace vc := vc.1 c_10
        refine sr_iinc (u := v2 + (-1)) (lv' := [(0, .ref a0), (1, .int v1), (2, .int (v2 + (-1)))]) h dM_base0_39 2 rfl rfl (by decide) rfl ?_
        refine sr_goto (tgt := 25) h dM_base0_42 (by decide) ?_
        exact vc
      · replace vc := vc.2 c_10
        refine sr_iload_n h dM_base0_37 rfl 2 rfl ?_
        exact sr_iret h dM_base0_38 hc_3.1 hc_3.2 vc
    · replace vc := vc'
      clear vc'
      exact st_out h (fun _ z => nomatch z) hc_3.1 hc_3.2 vc
end
section
abbrev cxL_parent (κ : sp_K) (x : sp_X) (mc ms : Nat) : Prop := sp_C κ x cL_parent 5 RL (some .int) (tableOf hhL_parent) "parent" (sp_rm 8 136 mc ms)
set_option maxRecDepth 100000 in
set_option maxHeartbeats 4000000 in
theorem bkL_parent_0 {κ : sp_K} {x : sp_X} {mc ms : Nat} {Rt : Option Value → sp_M → Prop} {Xt : String → sp_M → Prop} {μ : sp_M} {k n : Nat} {a0 : Nat} {v1 : Int32} {v2 : Int32} {a3 : Nat} (h : cxL_parent κ x mc ms) (hk : k ≤ mc ∧ n ≤ ms)
    (vc : (∃ mc_1 ms_2 : Nat, (k + mc_1 ≤ mc ∧ n + ms_2 ≤ ms) ∧ ∃ fs_6 : List Value, μ a0 = some (.inr (2, fs_6)) ∧ sp_m x.2.1 κ yE_parent wE_parent 7 113 mc_1 ms_2 [.ref a0, .int v1, .int v2] μ (fun v_4 μ_5 => ∃ v_9 : Int32, v_4 = some (.int v_9) ∧ (∃ (N_10 : Nat) (f_11 : Nat → Int64), μ_5 a3 = some (sp_la κ N_10 f_11) ∧ ∃ j_13 : Nat, 0 = nI j_13 ∧ j_13 < N_10 ∧ ∀ μ_16 : sp_M, μ_16 = va_up μ_5 a3 (some (sp_la κ N_10 (vp_updL f_11 j_13 (Int32.toInt64 v_9)))) → Rt (some (.int 0)) μ_16)) (fun E_17 μ_5 => ((E_17 = "java/util/NoSuchElementException" ∧ ∀ q_18 : Nat, Rt (some (.int 1)) μ_5) ∨ (E_17 = "java/lang/UnsupportedOperationException" ∧ ∀ q_19 : Nat, Rt (some (.int 2)) μ_5) ∨ (E_17 = "java/lang/IllegalStateException" ∧ ∀ q_20 : Nat, Rt (some (.int 3)) μ_5))))) : sp_w κ x (sp_F κ x Rt Xt mc ms) k n 0 [(0, .ref a0), (1, .int v1), (2, .int v2), (3, .ref a3)] [] μ := by
  refine sr_aload_n h dL_parent_0 rfl 3 rfl ?_
  refine sr_iconst (v := 0) h dL_parent_1 (by decide) ?_
  refine sr_aload_n h dL_parent_2 rfl 0 rfl ?_
  refine sr_iload_n h dL_parent_3 rfl 1 rfl ?_
  refine sr_iload_n h dL_parent_4 rfl 2 rfl ?_
  obtain ⟨mc_1, ms_2, hc_3, vc⟩ := vc
  obtain ⟨fs_6, ho_7, vc⟩ := vc
  refine sr_callV (y := yE_parent) (n0 := 2) (As := [.int v1, .int v2]) h (sp_gV kw_118 kw_119 kw_120 kw_34 kw_121) rfl (by decide +kernel) ⟨Nat.le_of_ble_eq_true rfl, Nat.le_of_ble_eq_true rfl⟩ (ci := 2) rfl dL_parent_5 rfl rfl (Nat.le_of_ble_eq_true rfl) hc_3 ho_7 vc (fun v_4 μ_5 vc' => ?_) (fun E_17 μ_5 vc' => ?_)
  · replace vc := vc'
    clear vc'
    obtain ⟨v_9, rfl, vc⟩ := vc
    refine sr_i2l h dL_parent_8 ?_
    obtain ⟨N_10, f_11, ho_12, vc⟩ := vc
    obtain ⟨j_13, hi_14, hj_15, vc⟩ := vc
    replace vc := vc _ rfl
    refine sr_last h dL_parent_9 ho_12 hi_14 hj_15 ?_
    refine sr_goto (tgt := 25) h dL_parent_10 (by decide) ?_
    refine sr_iconst (v := 0) h dL_parent_25 (by decide) ?_
    exact sr_iret h dL_parent_26 hc_3.1 hc_3.2 vc
  · replace vc := vc'
    clear vc'
    rcases vc with ⟨rfl, vc⟩ | ⟨rfl, vc⟩ | ⟨rfl, vc⟩
    · refine st_catch h [] ({ startPc := 0, endPc := 10, handlerPc := 13, catchType := 13 }) [{ startPc := 0, endPc := 10, handlerPc := 17, catchType := 15 }, { startPc := 0, endPc := 10, handlerPc := 21, catchType := 17 }] rfl (fun _ z => nomatch z) (by decide) (by decide) (name := "java/util/NoSuchElementException") kw_115 kt_131 (fun q_18 => ?_)
      replace vc := vc q_18
      refine sr_astore (lv' := [(0, .ref a0), (1, .int v1), (2, .int v2), (3, .ref a3), (4, .ref q_18)]) h dL_parent_13 (by decide) rfl ?_
      refine sr_iconst (v := 1) h dL_parent_15 (by decide) ?_
      exact sr_iret h dL_parent_16 hc_3.1 hc_3.2 vc
    · refine st_catch h [{ startPc := 0, endPc := 10, handlerPc := 13, catchType := 13 }] ({ startPc := 0, endPc := 10, handlerPc := 17, catchType := 15 }) [{ startPc := 0, endPc := 10, handlerPc := 21, catchType := 17 }] rfl (fun w hw => by simp only [List.mem_cons, List.not_mem_nil, or_false] at hw; subst hw; exact Or.inr ⟨by decide, "java/util/NoSuchElementException", kw_115, by decide +kernel⟩) (by decide) (by decide) (name := "java/lang/UnsupportedOperationException") kw_116 kt_211 (fun q_19 => ?_)
      replace vc := vc q_19
      refine sr_astore (lv' := [(0, .ref a0), (1, .int v1), (2, .int v2), (3, .ref a3), (4, .ref q_19)]) h dL_parent_17 (by decide) rfl ?_
      refine sr_iconst (v := 2) h dL_parent_19 (by decide) ?_
      exact sr_iret h dL_parent_20 hc_3.1 hc_3.2 vc
    · refine st_catch h [{ startPc := 0, endPc := 10, handlerPc := 13, catchType := 13 }, { startPc := 0, endPc := 10, handlerPc := 17, catchType := 15 }] ({ startPc := 0, endPc := 10, handlerPc := 21, catchType := 17 }) [] rfl (fun w hw => by simp only [List.mem_cons, List.not_mem_nil, or_false] at hw; rcases hw with rfl | rfl <;> first | exact Or.inr ⟨by decide, "java/util/NoSuchElementException", kw_115, by decide +kernel⟩ | exact Or.inr ⟨by decide, "java/lang/UnsupportedOperationException", kw_116, by decide +kernel⟩) (by decide) (by decide) (name := "java/lang/IllegalStateException") kw_117 kt_226 (fun q_20 => ?_)
      replace vc := vc q_20
      refine sr_astore (lv' := [(0, .ref a0), (1, .int v1), (2, .int v2), (3, .ref a3), (4, .ref q_20)]) h dL_parent_21 (by decide) rfl ?_
      refine sr_iconst (v := 3) h dL_parent_23 (by decide) ?_
      exact sr_iret h dL_parent_24 hc_3.1 hc_3.2 vc

abbrev cxL_add (κ : sp_K) (x : sp_X) (mc ms : Nat) : Prop := sp_C κ x cL_add 5 RL (some .int) (tableOf hhL_add) "add" (sp_rm 10 189 mc ms)
set_option maxRecDepth 100000 in
set_option maxHeartbeats 4000000 in
theorem bkL_add_0 {κ : sp_K} {x : sp_X} {mc ms : Nat} {Rt : Option Value → sp_M → Prop} {Xt : String → sp_M → Prop} {μ : sp_M} {k n : Nat} {a0 : Nat} {v1 : Int32} {v2 : Int32} {a3 : Nat} (h : cxL_add κ x mc ms) (hk : k ≤ mc ∧ n ≤ ms)
    (vc : (∃ mc_1 ms_2 : Nat, (k + mc_1 ≤ mc ∧ n + ms_2 ≤ ms) ∧ ∃ fs_6 : List Value, μ a0 = some (.inr (2, fs_6)) ∧ sp_m x.2.1 κ yE_add wE_add 9 164 mc_1 ms_2 [.ref a0, .int v1, .int v2] μ (fun v_4 μ_5 => ∃ v_9 : Int32, v_4 = some (.int v_9) ∧ (∃ (N_10 : Nat) (f_11 : Nat → Int64), μ_5 a3 = some (sp_la κ N_10 f_11) ∧ ∃ j_13 : Nat, 0 = nI j_13 ∧ j_13 < N_10 ∧ ∀ μ_16 : sp_M, μ_16 = va_up μ_5 a3 (some (sp_la κ N_10 (vp_updL f_11 j_13 (Int32.toInt64 v_9)))) → Rt (some (.int 0)) μ_16)) (fun E_17 μ_5 => ((E_17 = "java/lang/IllegalArgumentException" ∧ ∀ q_18 : Nat, Rt (some (.int 1)) μ_5) ∨ (E_17 = "java/lang/UnsupportedOperationException" ∧ ∀ q_19 : Nat, Rt (some (.int 2)) μ_5) ∨ (E_17 = "java/lang/IllegalStateException" ∧ ∀ q_20 : Nat, Rt (some (.int 3)) μ_5))))) : sp_w κ x (sp_F κ x Rt Xt mc ms) k n 0 [(0, .ref a0), (1, .int v1), (2, .int v2), (3, .ref a3)] [] μ := by
  refine sr_aload_n h dL_add_0 rfl 3 rfl ?_
  refine sr_iconst (v := 0) h dL_add_1 (by decide) ?_
  refine sr_aload_n h dL_add_2 rfl 0 rfl ?_
  refine sr_iload_n h dL_add_3 rfl 1 rfl ?_
  refine sr_iload_n h dL_add_4 rfl 2 rfl ?_
  obtain ⟨mc_1, ms_2, hc_3, vc⟩ := vc
  obtain ⟨fs_6, ho_7, vc⟩ := vc
  refine sr_callV (y := yE_add) (n0 := 2) (As := [.int v1, .int v2]) h (sp_gV kw_243 kw_244 kw_245 kw_34 kw_246) rfl (by decide +kernel) ⟨Nat.le_of_ble_eq_true rfl, Nat.le_of_ble_eq_true rfl⟩ (ci := 2) rfl dL_add_5 rfl rfl (Nat.le_of_ble_eq_true rfl) hc_3 ho_7 vc (fun v_4 μ_5 vc' => ?_) (fun E_17 μ_5 vc' => ?_)
  · replace vc := vc'
    clear vc'
    obtain ⟨v_9, rfl, vc⟩ := vc
    refine sr_i2l h dL_add_8 ?_
    obtain ⟨N_10, f_11, ho_12, vc⟩ := vc
    obtain ⟨j_13, hi_14, hj_15, vc⟩ := vc
    replace vc := vc _ rfl
    refine sr_last h dL_add_9 ho_12 hi_14 hj_15 ?_
    refine sr_goto (tgt := 25) h dL_add_10 (by decide) ?_
    refine sr_iconst (v := 0) h dL_add_25 (by decide) ?_
    exact sr_iret h dL_add_26 hc_3.1 hc_3.2 vc
  · replace vc := vc'
    clear vc'
    rcases vc with ⟨rfl, vc⟩ | ⟨rfl, vc⟩ | ⟨rfl, vc⟩
    · refine st_catch h [] ({ startPc := 0, endPc := 10, handlerPc := 13, catchType := 22 }) [{ startPc := 0, endPc := 10, handlerPc := 17, catchType := 15 }, { startPc := 0, endPc := 10, handlerPc := 21, catchType := 17 }] rfl (fun _ z => nomatch z) (by decide) (by decide) (name := "java/lang/IllegalArgumentException") kw_242 kt_249 (fun q_18 => ?_)
      replace vc := vc q_18
      refine sr_astore (lv' := [(0, .ref a0), (1, .int v1), (2, .int v2), (3, .ref a3), (4, .ref q_18)]) h dL_add_13 (by decide) rfl ?_
      refine sr_iconst (v := 1) h dL_add_15 (by decide) ?_
      exact sr_iret h dL_add_16 hc_3.1 hc_3.2 vc
    · refine st_catch h [{ startPc := 0, endPc := 10, handlerPc := 13, catchType := 22 }] ({ startPc := 0, endPc := 10, handlerPc := 17, catchType := 15 }) [{ startPc := 0, endPc := 10, handlerPc := 21, catchType := 17 }] rfl (fun w hw => by simp only [List.mem_cons, List.not_mem_nil, or_false] at hw; subst hw; exact Or.inr ⟨by decide, "java/lang/IllegalArgumentException", kw_242, by decide +kernel⟩) (by decide) (by decide) (name := "java/lang/UnsupportedOperationException") kw_116 kt_211 (fun q_19 => ?_)
      replace vc := vc q_19
      refine sr_astore (lv' := [(0, .ref a0), (1, .int v1), (2, .int v2), (3, .ref a3), (4, .ref q_19)]) h dL_add_17 (by decide) rfl ?_
      refine sr_iconst (v := 2) h dL_add_19 (by decide) ?_
      exact sr_iret h dL_add_20 hc_3.1 hc_3.2 vc
    · refine st_catch h [{ startPc := 0, endPc := 10, handlerPc := 13, catchType := 22 }, { startPc := 0, endPc := 10, handlerPc := 17, catchType := 15 }] ({ startPc := 0, endPc := 10, handlerPc := 21, catchType := 17 }) [] rfl (fun w hw => by simp only [List.mem_cons, List.not_mem_nil, or_false] at hw; rcases hw with rfl | rfl <;> first | exact Or.inr ⟨by decide, "java/lang/IllegalArgumentException", kw_242, by decide +kernel⟩ | exact Or.inr ⟨by decide, "java/lang/UnsupportedOperationException", kw_116, by decide +kernel⟩) (by decide) (by decide) (name := "java/lang/IllegalStateException") kw_117 kt_226 (fun q_20 => ?_)
      replace vc := vc q_20
      refine sr_astore (lv' := [(0, .ref a0), (1, .int v1), (2, .int v2), (3, .ref a3), (4, .ref q_20)]) h dL_add_21 (by decide) rfl ?_
      refine sr_iconst (v := 3) h dL_add_23 (by decide) ?_
      exact sr_iret h dL_add_24 hc_3.1 hc_3.2 vc

abbrev cxL_events (κ : sp_K) (x : sp_X) (mc ms : Nat) : Prop := sp_C κ x cL_events 4 RL (some .int) (tableOf hhL_events) "events" (sp_rm 7 111 mc ms)
set_option maxRecDepth 100000 in
set_option maxHeartbeats 4000000 in
theorem bkL_events_0 {κ : sp_K} {x : sp_X} {mc ms : Nat} {Rt : Option Value → sp_M → Prop} {Xt : String → sp_M → Prop} {μ : sp_M} {k n : Nat} {a0 : Nat} {v1 : Int32} {a2 : Nat} (h : cxL_events κ x mc ms) (hk : k ≤ mc ∧ n ≤ ms)
    (vc : (∃ mc_1 ms_2 : Nat, (k + mc_1 ≤ mc ∧ n + ms_2 ≤ ms) ∧ ∃ fs_6 : List Value, μ a0 = some (.inr (2, fs_6)) ∧ sp_m x.2.1 κ yE_events wE_events 6 90 mc_1 ms_2 [.ref a0, .int v1] μ (fun v_4 μ_5 => ∃ v_9 : Int32, v_4 = some (.int v_9) ∧ (∃ (N_10 : Nat) (f_11 : Nat → Int64), μ_5 a2 = some (sp_la κ N_10 f_11) ∧ ∃ j_13 : Nat, 0 = nI j_13 ∧ j_13 < N_10 ∧ ∀ μ_16 : sp_M, μ_16 = va_up μ_5 a2 (some (sp_la κ N_10 (vp_updL f_11 j_13 (Int32.toInt64 v_9)))) → Rt (some (.int 0)) μ_16)) (fun E_17 μ_5 => ((E_17 = "java/lang/IllegalArgumentException" ∧ ∀ q_18 : Nat, Rt (some (.int 1)) μ_5))))) : sp_w κ x (sp_F κ x Rt Xt mc ms) k n 0 [(0, .ref a0), (1, .int v1), (2, .ref a2)] [] μ := by
  refine sr_aload_n h dL_events_0 rfl 2 rfl ?_
  refine sr_iconst (v := 0) h dL_events_1 (by decide) ?_
  refine sr_aload_n h dL_events_2 rfl 0 rfl ?_
  refine sr_iload_n h dL_events_3 rfl 1 rfl ?_
  obtain ⟨mc_1, ms_2, hc_3, vc⟩ := vc
  obtain ⟨fs_6, ho_7, vc⟩ := vc
  refine sr_callV (y := yE_events) (n0 := 1) (As := [.int v1]) h (sp_gV kw_392 kw_393 kw_394 kw_34 kw_395) rfl (by decide +kernel) ⟨Nat.le_of_ble_eq_true rfl, Nat.le_of_ble_eq_true rfl⟩ (ci := 2) rfl dL_events_4 rfl rfl (Nat.le_of_ble_eq_true rfl) hc_3 ho_7 vc (fun v_4 μ_5 vc' => ?_) (fun E_17 μ_5 vc' => ?_)
  · replace vc := vc'
    clear vc'
    obtain ⟨v_9, rfl, vc⟩ := vc
    refine sr_i2l h dL_events_7 ?_
    obtain ⟨N_10, f_11, ho_12, vc⟩ := vc
    obtain ⟨j_13, hi_14, hj_15, vc⟩ := vc
    replace vc := vc _ rfl
    refine sr_last h dL_events_8 ho_12 hi_14 hj_15 ?_
    refine sr_goto (tgt := 15) h dL_events_9 (by decide) ?_
    refine sr_iconst (v := 0) h dL_events_15 (by decide) ?_
    exact sr_iret h dL_events_16 hc_3.1 hc_3.2 vc
  · replace vc := vc'
    clear vc'
    obtain ⟨rfl, vc⟩ := vc
    refine st_catch h [] ({ startPc := 0, endPc := 9, handlerPc := 12, catchType := 22 }) [] rfl (fun _ z => nomatch z) (by decide) (by decide) (name := "java/lang/IllegalArgumentException") kw_242 kt_249 (fun q_18 => ?_)
    replace vc := vc q_18
    refine sr_astore_n (lv' := [(0, .ref a0), (1, .int v1), (2, .ref a2), (3, .ref q_18)]) h dL_events_12 rfl (by decide) rfl ?_
    refine sr_iconst (v := 1) h dL_events_13 (by decide) ?_
    exact sr_iret h dL_events_14 hc_3.1 hc_3.2 vc

abbrev cxL_place (κ : sp_K) (x : sp_X) (mc ms : Nat) : Prop := sp_C κ x cL_place 5 RL (some .int) (tableOf hhL_place) "place" (sp_rm 8 135 mc ms)
set_option maxRecDepth 100000 in
set_option maxHeartbeats 4000000 in
theorem bkL_place_0 {κ : sp_K} {x : sp_X} {mc ms : Nat} {Rt : Option Value → sp_M → Prop} {Xt : String → sp_M → Prop} {μ : sp_M} {k n : Nat} {a0 : Nat} {v1 : Int32} {v2 : Int32} {a3 : Nat} (h : cxL_place κ x mc ms) (hk : k ≤ mc ∧ n ≤ ms)
    (vc : (∃ mc_1 ms_2 : Nat, (k + mc_1 ≤ mc ∧ n + ms_2 ≤ ms) ∧ ∃ fs_6 : List Value, μ a0 = some (.inr (2, fs_6)) ∧ sp_m x.2.1 κ yE_place wE_place 7 113 mc_1 ms_2 [.ref a0, .int v1, .int v2] μ (fun v_4 μ_5 => ∃ v_9 : Int32, v_4 = some (.int v_9) ∧ (∃ (N_10 : Nat) (f_11 : Nat → Int64), μ_5 a3 = some (sp_la κ N_10 f_11) ∧ ∃ j_13 : Nat, 0 = nI j_13 ∧ j_13 < N_10 ∧ ∀ μ_16 : sp_M, μ_16 = va_up μ_5 a3 (some (sp_la κ N_10 (vp_updL f_11 j_13 (Int32.toInt64 v_9)))) → Rt (some (.int 0)) μ_16)) (fun E_17 μ_5 => ((E_17 = "java/util/NoSuchElementException" ∧ ∀ q_18 : Nat, Rt (some (.int 1)) μ_5))))) : sp_w κ x (sp_F κ x Rt Xt mc ms) k n 0 [(0, .ref a0), (1, .int v1), (2, .int v2), (3, .ref a3)] [] μ := by
  refine sr_aload_n h dL_place_0 rfl 3 rfl ?_
  refine sr_iconst (v := 0) h dL_place_1 (by decide) ?_
  refine sr_aload_n h dL_place_2 rfl 0 rfl ?_
  refine sr_iload_n h dL_place_3 rfl 1 rfl ?_
  refine sr_iload_n h dL_place_4 rfl 2 rfl ?_
  obtain ⟨mc_1, ms_2, hc_3, vc⟩ := vc
  obtain ⟨fs_6, ho_7, vc⟩ := vc
  refine sr_callV (y := yE_place) (n0 := 2) (As := [.int v1, .int v2]) h (sp_gV kw_399 kw_400 kw_401 kw_34 kw_402) rfl (by decide +kernel) ⟨Nat.le_of_ble_eq_true rfl, Nat.le_of_ble_eq_true rfl⟩ (ci := 2) rfl dL_place_5 rfl rfl (Nat.le_of_ble_eq_true rfl) hc_3 ho_7 vc (fun v_4 μ_5 vc' => ?_) (fun E_17 μ_5 vc' => ?_)
  · replace vc := vc'
    clear vc'
    obtain ⟨v_9, rfl, vc⟩ := vc
    refine sr_i2l h dL_place_8 ?_
    obtain ⟨N_10, f_11, ho_12, vc⟩ := vc
    obtain ⟨j_13, hi_14, hj_15, vc⟩ := vc
    replace vc := vc _ rfl
    refine sr_last h dL_place_9 ho_12 hi_14 hj_15 ?_
    refine sr_goto (tgt := 17) h dL_place_10 (by decide) ?_
    refine sr_iconst (v := 0) h dL_place_17 (by decide) ?_
    exact sr_iret h dL_place_18 hc_3.1 hc_3.2 vc
  · replace vc := vc'
    clear vc'
    obtain ⟨rfl, vc⟩ := vc
    refine st_catch h [] ({ startPc := 0, endPc := 10, handlerPc := 13, catchType := 13 }) [] rfl (fun _ z => nomatch z) (by decide) (by decide) (name := "java/util/NoSuchElementException") kw_115 kt_131 (fun q_18 => ?_)
    replace vc := vc q_18
    refine sr_astore (lv' := [(0, .ref a0), (1, .int v1), (2, .int v2), (3, .ref a3), (4, .ref q_18)]) h dL_place_13 (by decide) rfl ?_
    refine sr_iconst (v := 1) h dL_place_15 (by decide) ?_
    exact sr_iret h dL_place_16 hc_3.1 hc_3.2 vc

abbrev cxL_id (κ : sp_K) (x : sp_X) (mc ms : Nat) : Prop := sp_C κ x cL_id 4 RL (some .int) (tableOf hhL_id) "id" (sp_rm 8 133 mc ms)
set_option maxRecDepth 100000 in
set_option maxHeartbeats 4000000 in
theorem bkL_id_0 {κ : sp_K} {x : sp_X} {mc ms : Nat} {Rt : Option Value → sp_M → Prop} {Xt : String → sp_M → Prop} {μ : sp_M} {k n : Nat} {a0 : Nat} {v1 : Int32} {a2 : Nat} (h : cxL_id κ x mc ms) (hk : k ≤ mc ∧ n ≤ ms)
    (vc : (∃ mc_1 ms_2 : Nat, (k + mc_1 ≤ mc ∧ n + ms_2 ≤ ms) ∧ ∃ fs_6 : List Value, μ a0 = some (.inr (2, fs_6)) ∧ sp_m x.2.1 κ yE_id wE_id 7 111 mc_1 ms_2 [.ref a0, .int v1] μ (fun v_4 μ_5 => ∃ v_9 : Int64, v_4 = some (.long v_9) ∧ (∃ (N_10 : Nat) (f_11 : Nat → Int64), μ_5 a2 = some (sp_la κ N_10 f_11) ∧ ∃ j_13 : Nat, 0 = nI j_13 ∧ j_13 < N_10 ∧ ∀ μ_16 : sp_M, μ_16 = va_up μ_5 a2 (some (sp_la κ N_10 (vp_updL f_11 j_13 v_9))) → Rt (some (.int 0)) μ_16)) (fun E_17 μ_5 => ((E_17 = "java/util/NoSuchElementException" ∧ ∀ q_18 : Nat, Rt (some (.int 1)) μ_5))))) : sp_w κ x (sp_F κ x Rt Xt mc ms) k n 0 [(0, .ref a0), (1, .int v1), (2, .ref a2)] [] μ := by
  refine sr_aload_n h dL_id_0 rfl 2 rfl ?_
  refine sr_iconst (v := 0) h dL_id_1 (by decide) ?_
  refine sr_aload_n h dL_id_2 rfl 0 rfl ?_
  refine sr_iload_n h dL_id_3 rfl 1 rfl ?_
  obtain ⟨mc_1, ms_2, hc_3, vc⟩ := vc
  obtain ⟨fs_6, ho_7, vc⟩ := vc
  refine sr_callV (y := yE_id) (n0 := 1) (As := [.int v1]) h (sp_gV kw_406 kw_407 kw_408 kw_34 kw_409) rfl (by decide +kernel) ⟨Nat.le_of_ble_eq_true rfl, Nat.le_of_ble_eq_true rfl⟩ (ci := 2) rfl dL_id_4 rfl rfl (Nat.le_of_ble_eq_true rfl) hc_3 ho_7 vc (fun v_4 μ_5 vc' => ?_) (fun E_17 μ_5 vc' => ?_)
  · replace vc := vc'
    clear vc'
    obtain ⟨v_9, rfl, vc⟩ := vc
    obtain ⟨N_10, f_11, ho_12, vc⟩ := vc
    obtain ⟨j_13, hi_14, hj_15, vc⟩ := vc
    replace vc := vc _ rfl
    refine sr_last h dL_id_7 ho_12 hi_14 hj_15 ?_
    refine sr_goto (tgt := 14) h dL_id_8 (by decide) ?_
    refine sr_iconst (v := 0) h dL_id_14 (by decide) ?_
    exact sr_iret h dL_id_15 hc_3.1 hc_3.2 vc
  · replace vc := vc'
    clear vc'
    obtain ⟨rfl, vc⟩ := vc
    refine st_catch h [] ({ startPc := 0, endPc := 8, handlerPc := 11, catchType := 13 }) [] rfl (fun _ z => nomatch z) (by decide) (by decide) (name := "java/util/NoSuchElementException") kw_115 kt_131 (fun q_18 => ?_)
    replace vc := vc q_18
    refine sr_astore_n (lv' := [(0, .ref a0), (1, .int v1), (2, .ref a2), (3, .ref q_18)]) h dL_id_11 rfl (by decide) rfl ?_
    refine sr_iconst (v := 1) h dL_id_12 (by decide) ?_
    exact sr_iret h dL_id_13 hc_3.1 hc_3.2 vc

abbrev cxL_parentOf (κ : sp_K) (x : sp_X) (mc ms : Nat) : Prop := sp_C κ x cL_parentOf 5 RL (some .int) (tableOf hhL_parentOf) "parentOf" (sp_rm 8 136 mc ms)
set_option maxRecDepth 100000 in
set_option maxHeartbeats 4000000 in
theorem bkL_parentOf_0 {κ : sp_K} {x : sp_X} {mc ms : Nat} {Rt : Option Value → sp_M → Prop} {Xt : String → sp_M → Prop} {μ : sp_M} {k n : Nat} {a0 : Nat} {v1 : Int32} {v2 : Int32} {a3 : Nat} (h : cxL_parentOf κ x mc ms) (hk : k ≤ mc ∧ n ≤ ms)
    (vc : (∃ mc_1 ms_2 : Nat, (k + mc_1 ≤ mc ∧ n + ms_2 ≤ ms) ∧ ∃ fs_6 : List Value, μ a0 = some (.inr (2, fs_6)) ∧ sp_m x.2.1 κ yE_parentOf wE_parentOf 7 111 mc_1 ms_2 [.ref a0, .int v1, .int v2] μ (fun v_4 μ_5 => ∃ v_9 : Int32, v_4 = some (.int v_9) ∧ (∃ (N_10 : Nat) (f_11 : Nat → Int64), μ_5 a3 = some (sp_la κ N_10 f_11) ∧ ∃ j_13 : Nat, 0 = nI j_13 ∧ j_13 < N_10 ∧ ∀ μ_16 : sp_M, μ_16 = va_up μ_5 a3 (some (sp_la κ N_10 (vp_updL f_11 j_13 (Int32.toInt64 v_9)))) → Rt (some (.int 0)) μ_16)) (fun E_17 μ_5 => ((E_17 = "java/util/NoSuchElementException" ∧ ∀ q_18 : Nat, Rt (some (.int 1)) μ_5))))) : sp_w κ x (sp_F κ x Rt Xt mc ms) k n 0 [(0, .ref a0), (1, .int v1), (2, .int v2), (3, .ref a3)] [] μ := by
  refine sr_aload_n h dL_parentOf_0 rfl 3 rfl ?_
  refine sr_iconst (v := 0) h dL_parentOf_1 (by decide) ?_
  refine sr_aload_n h dL_parentOf_2 rfl 0 rfl ?_
  refine sr_iload_n h dL_parentOf_3 rfl 1 rfl ?_
  refine sr_iload_n h dL_parentOf_4 rfl 2 rfl ?_
  obtain ⟨mc_1, ms_2, hc_3, vc⟩ := vc
  obtain ⟨fs_6, ho_7, vc⟩ := vc
  refine sr_callV (y := yE_parentOf) (n0 := 2) (As := [.int v1, .int v2]) h (sp_gV kw_413 kw_414 kw_415 kw_34 kw_416) rfl (by decide +kernel) ⟨Nat.le_of_ble_eq_true rfl, Nat.le_of_ble_eq_true rfl⟩ (ci := 2) rfl dL_parentOf_5 rfl rfl (Nat.le_of_ble_eq_true rfl) hc_3 ho_7 vc (fun v_4 μ_5 vc' => ?_) (fun E_17 μ_5 vc' => ?_)
  · replace vc := vc'
    clear vc'
    obtain ⟨v_9, rfl, vc⟩ := vc
    refine sr_i2l h dL_parentOf_8 ?_
    obtain ⟨N_10, f_11, ho_12, vc⟩ := vc
    obtain ⟨j_13, hi_14, hj_15, vc⟩ := vc
    replace vc := vc _ rfl
    refine sr_last h dL_parentOf_9 ho_12 hi_14 hj_15 ?_
    refine sr_goto (tgt := 17) h dL_parentOf_10 (by decide) ?_
    refine sr_iconst (v := 0) h dL_parentOf_17 (by decide) ?_
    exact sr_iret h dL_parentOf_18 hc_3.1 hc_3.2 vc
  · replace vc := vc'
    clear vc'
    obtain ⟨rfl, vc⟩ := vc
    refine st_catch h [] ({ startPc := 0, endPc := 10, handlerPc := 13, catchType := 13 }) [] rfl (fun _ z => nomatch z) (by decide) (by decide) (name := "java/util/NoSuchElementException") kw_115 kt_131 (fun q_18 => ?_)
    replace vc := vc q_18
    refine sr_astore (lv' := [(0, .ref a0), (1, .int v1), (2, .int v2), (3, .ref a3), (4, .ref q_18)]) h dL_parentOf_13 (by decide) rfl ?_
    refine sr_iconst (v := 1) h dL_parentOf_15 (by decide) ?_
    exact sr_iret h dL_parentOf_16 hc_3.1 hc_3.2 vc

abbrev cxL_related (κ : sp_K) (x : sp_X) (mc ms : Nat) : Prop := sp_C κ x cL_related 5 RL (some .int) (tableOf hhL_related) "related" (sp_rm 9 157 mc ms)
set_option maxRecDepth 100000 in
set_option maxHeartbeats 4000000 in
theorem bkL_related_0 {κ : sp_K} {x : sp_X} {mc ms : Nat} {Rt : Option Value → sp_M → Prop} {Xt : String → sp_M → Prop} {μ : sp_M} {k n : Nat} {a0 : Nat} {v1 : Int32} {v2 : Int32} {a3 : Nat} (h : cxL_related κ x mc ms) (hk : k ≤ mc ∧ n ≤ ms)
    (vc : (∃ mc_1 ms_2 : Nat, (k + mc_1 ≤ mc ∧ n + ms_2 ≤ ms) ∧ ∃ fs_6 : List Value, μ a0 = some (.inr (2, fs_6)) ∧ sp_m x.2.1 κ yE_related wE_related 8 135 mc_1 ms_2 [.ref a0, .int v1, .int v2] μ (fun v_4 μ_5 => ∃ v_9 : Int32, v_4 = some (.int v_9) ∧ (∃ (N_10 : Nat) (f_11 : Nat → Int64), μ_5 a3 = some (sp_la κ N_10 f_11) ∧ ∃ j_13 : Nat, 0 = nI j_13 ∧ j_13 < N_10 ∧ ∀ μ_16 : sp_M, μ_16 = va_up μ_5 a3 (some (sp_la κ N_10 (vp_updL f_11 j_13 (Int32.toInt64 v_9)))) → Rt (some (.int 0)) μ_16)) (fun E_17 μ_5 => ((E_17 = "java/util/NoSuchElementException" ∧ ∀ q_18 : Nat, Rt (some (.int 1)) μ_5))))) : sp_w κ x (sp_F κ x Rt Xt mc ms) k n 0 [(0, .ref a0), (1, .int v1), (2, .int v2), (3, .ref a3)] [] μ := by
  refine sr_aload_n h dL_related_0 rfl 3 rfl ?_
  refine sr_iconst (v := 0) h dL_related_1 (by decide) ?_
  refine sr_aload_n h dL_related_2 rfl 0 rfl ?_
  refine sr_iload_n h dL_related_3 rfl 1 rfl ?_
  refine sr_iload_n h dL_related_4 rfl 2 rfl ?_
  obtain ⟨mc_1, ms_2, hc_3, vc⟩ := vc
  obtain ⟨fs_6, ho_7, vc⟩ := vc
  refine sr_callV (y := yE_related) (n0 := 2) (As := [.int v1, .int v2]) h (sp_gV kw_420 kw_421 kw_422 kw_34 kw_423) rfl (by decide +kernel) ⟨Nat.le_of_ble_eq_true rfl, Nat.le_of_ble_eq_true rfl⟩ (ci := 2) rfl dL_related_5 rfl rfl (Nat.le_of_ble_eq_true rfl) hc_3 ho_7 vc (fun v_4 μ_5 vc' => ?_) (fun E_17 μ_5 vc' => ?_)
  · replace vc := vc'
    clear vc'
    obtain ⟨v_9, rfl, vc⟩ := vc
    refine sr_i2l h dL_related_8 ?_
    obtain ⟨N_10, f_11, ho_12, vc⟩ := vc
    obtain ⟨j_13, hi_14, hj_15, vc⟩ := vc
    replace vc := vc _ rfl
    refine sr_last h dL_related_9 ho_12 hi_14 hj_15 ?_
    refine sr_goto (tgt := 17) h dL_related_10 (by decide) ?_
    refine sr_iconst (v := 0) h dL_related_17 (by decide) ?_
    exact sr_iret h dL_related_18 hc_3.1 hc_3.2 vc
  · replace vc := vc'
    clear vc'
    obtain ⟨rfl, vc⟩ := vc
    refine st_catch h [] ({ startPc := 0, endPc := 10, handlerPc := 13, catchType := 13 }) [] rfl (fun _ z => nomatch z) (by decide) (by decide) (name := "java/util/NoSuchElementException") kw_115 kt_131 (fun q_18 => ?_)
    replace vc := vc q_18
    refine sr_astore (lv' := [(0, .ref a0), (1, .int v1), (2, .int v2), (3, .ref a3), (4, .ref q_18)]) h dL_related_13 (by decide) rfl ?_
    refine sr_iconst (v := 1) h dL_related_15 (by decide) ?_
    exact sr_iret h dL_related_16 hc_3.1 hc_3.2 vc

abbrev cxL_apart (κ : sp_K) (x : sp_X) (mc ms : Nat) : Prop := sp_C κ x cL_apart 5 RL (some .int) (tableOf hhL_apart) "apart" (sp_rm 8 137 mc ms)
set_option maxRecDepth 100000 in
set_option maxHeartbeats 4000000 in
theorem bkL_apart_0 {κ : sp_K} {x : sp_X} {mc ms : Nat} {Rt : Option Value → sp_M → Prop} {Xt : String → sp_M → Prop} {μ : sp_M} {k n : Nat} {a0 : Nat} {v1 : Int32} {v2 : Int32} {a3 : Nat} (h : cxL_apart κ x mc ms) (hk : k ≤ mc ∧ n ≤ ms)
    (vc : (∃ mc_1 ms_2 : Nat, (k + mc_1 ≤ mc ∧ n + ms_2 ≤ ms) ∧ ∃ fs_6 : List Value, μ a0 = some (.inr (2, fs_6)) ∧ sp_m x.2.1 κ yE_apart wE_apart 7 111 mc_1 ms_2 [.ref a0, .int v1, .int v2] μ (fun v_4 μ_5 => ∃ v_9 : Int32, v_4 = some (.int v_9) ∧ (∃ (N_10 : Nat) (f_11 : Nat → Int64), μ_5 a3 = some (sp_la κ N_10 f_11) ∧ ∃ j_13 : Nat, 0 = nI j_13 ∧ j_13 < N_10 ∧ ∀ μ_16 : sp_M, μ_16 = va_up μ_5 a3 (some (sp_la κ N_10 (vp_updL f_11 j_13 (Int32.toInt64 v_9)))) → Rt (some (.int 0)) μ_16)) (fun E_17 μ_5 => ((E_17 = "java/util/NoSuchElementException" ∧ ∀ q_18 : Nat, Rt (some (.int 1)) μ_5))))) : sp_w κ x (sp_F κ x Rt Xt mc ms) k n 0 [(0, .ref a0), (1, .int v1), (2, .int v2), (3, .ref a3)] [] μ := by
  refine sr_aload_n h dL_apart_0 rfl 3 rfl ?_
  refine sr_iconst (v := 0) h dL_apart_1 (by decide) ?_
  refine sr_aload_n h dL_apart_2 rfl 0 rfl ?_
  refine sr_iload_n h dL_apart_3 rfl 1 rfl ?_
  refine sr_iload_n h dL_apart_4 rfl 2 rfl ?_
  obtain ⟨mc_1, ms_2, hc_3, vc⟩ := vc
  obtain ⟨fs_6, ho_7, vc⟩ := vc
  refine sr_callV (y := yE_apart) (n0 := 2) (As := [.int v1, .int v2]) h (sp_gV kw_427 kw_428 kw_429 kw_34 kw_430) rfl (by decide +kernel) ⟨Nat.le_of_ble_eq_true rfl, Nat.le_of_ble_eq_true rfl⟩ (ci := 2) rfl dL_apart_5 rfl rfl (Nat.le_of_ble_eq_true rfl) hc_3 ho_7 vc (fun v_4 μ_5 vc' => ?_) (fun E_17 μ_5 vc' => ?_)
  · replace vc := vc'
    clear vc'
    obtain ⟨v_9, rfl, vc⟩ := vc
    refine sr_i2l h dL_apart_8 ?_
    obtain ⟨N_10, f_11, ho_12, vc⟩ := vc
    obtain ⟨j_13, hi_14, hj_15, vc⟩ := vc
    replace vc := vc _ rfl
    refine sr_last h dL_apart_9 ho_12 hi_14 hj_15 ?_
    refine sr_goto (tgt := 17) h dL_apart_10 (by decide) ?_
    refine sr_iconst (v := 0) h dL_apart_17 (by decide) ?_
    exact sr_iret h dL_apart_18 hc_3.1 hc_3.2 vc
  · replace vc := vc'
    clear vc'
    obtain ⟨rfl, vc⟩ := vc
    refine st_catch h [] ({ startPc := 0, endPc := 10, handlerPc := 13, catchType := 13 }) [] rfl (fun _ z => nomatch z) (by decide) (by decide) (name := "java/util/NoSuchElementException") kw_115 kt_131 (fun q_18 => ?_)
    replace vc := vc q_18
    refine sr_astore (lv' := [(0, .ref a0), (1, .int v1), (2, .int v2), (3, .ref a3), (4, .ref q_18)]) h dL_apart_13 (by decide) rfl ?_
    refine sr_iconst (v := 1) h dL_apart_15 (by decide) ?_
    exact sr_iret h dL_apart_16 hc_3.1 hc_3.2 vc

abbrev cxL_latest (κ : sp_K) (x : sp_X) (mc ms : Nat) : Prop := sp_C κ x cL_latest 6 RL (some .int) (tableOf hhL_latest) "latest" (sp_rm 8 142 mc ms)
set_option maxRecDepth 100000 in
set_option maxHeartbeats 4000000 in
theorem bkL_latest_0 {κ : sp_K} {x : sp_X} {mc ms : Nat} {Rt : Option Value → sp_M → Prop} {Xt : String → sp_M → Prop} {μ : sp_M} {k n : Nat} {a0 : Nat} {v1 : Int32} {v2 : Int32} {v3 : Int32} {a4 : Nat} (h : cxL_latest κ x mc ms) (hk : k ≤ mc ∧ n ≤ ms)
    (vc : (∃ mc_1 ms_2 : Nat, (k + mc_1 ≤ mc ∧ n + ms_2 ≤ ms) ∧ ∃ fs_6 : List Value, μ a0 = some (.inr (2, fs_6)) ∧ sp_m x.2.1 κ yE_latest wE_latest 7 111 mc_1 ms_2 [.ref a0, .int v1, .int v2, .int v3] μ (fun v_4 μ_5 => ∃ v_9 : Int32, v_4 = some (.int v_9) ∧ (∃ (N_10 : Nat) (f_11 : Nat → Int64), μ_5 a4 = some (sp_la κ N_10 f_11) ∧ ∃ j_13 : Nat, 0 = nI j_13 ∧ j_13 < N_10 ∧ ∀ μ_16 : sp_M, μ_16 = va_up μ_5 a4 (some (sp_la κ N_10 (vp_updL f_11 j_13 (Int32.toInt64 v_9)))) → Rt (some (.int 0)) μ_16)) (fun E_17 μ_5 => ((E_17 = "java/util/NoSuchElementException" ∧ ∀ q_18 : Nat, Rt (some (.int 1)) μ_5))))) : sp_w κ x (sp_F κ x Rt Xt mc ms) k n 0 [(0, .ref a0), (1, .int v1), (2, .int v2), (3, .int v3), (4, .ref a4)] [] μ := by
  refine sr_aload h dL_latest_0 4 rfl ?_
  refine sr_iconst (v := 0) h dL_latest_2 (by decide) ?_
  refine sr_aload_n h dL_latest_3 rfl 0 rfl ?_
  refine sr_iload_n h dL_latest_4 rfl 1 rfl ?_
  refine sr_iload_n h dL_latest_5 rfl 2 rfl ?_
  refine sr_iload_n h dL_latest_6 rfl 3 rfl ?_
  obtain ⟨mc_1, ms_2, hc_3, vc⟩ := vc
  obtain ⟨fs_6, ho_7, vc⟩ := vc
  refine sr_callV (y := yE_latest) (n0 := 3) (As := [.int v1, .int v2, .int v3]) h (sp_gV kw_434 kw_435 kw_436 kw_34 kw_437) rfl (by decide +kernel) ⟨Nat.le_of_ble_eq_true rfl, Nat.le_of_ble_eq_true rfl⟩ (ci := 2) rfl dL_latest_7 rfl rfl (Nat.le_of_ble_eq_true rfl) hc_3 ho_7 vc (fun v_4 μ_5 vc' => ?_) (fun E_17 μ_5 vc' => ?_)
  · replace vc := vc'
    clear vc'
    obtain ⟨v_9, rfl, vc⟩ := vc
    refine sr_i2l h dL_latest_10 ?_
    obtain ⟨N_10, f_11, ho_12, vc⟩ := vc
    obtain ⟨j_13, hi_14, hj_15, vc⟩ := vc
    replace vc := vc _ rfl
    refine sr_last h dL_latest_11 ho_12 hi_14 hj_15 ?_
    refine sr_goto (tgt := 19) h dL_latest_12 (by decide) ?_
    refine sr_iconst (v := 0) h dL_latest_19 (by decide) ?_
    exact sr_iret h dL_latest_20 hc_3.1 hc_3.2 vc
  · replace vc := vc'
    clear vc'
    obtain ⟨rfl, vc⟩ := vc
    refine st_catch h [] ({ startPc := 0, endPc := 12, handlerPc := 15, catchType := 13 }) [] rfl (fun _ z => nomatch z) (by decide) (by decide) (name := "java/util/NoSuchElementException") kw_115 kt_131 (fun q_18 => ?_)
    replace vc := vc q_18
    refine sr_astore (lv' := [(0, .ref a0), (1, .int v1), (2, .int v2), (3, .int v3), (4, .ref a4), (5, .ref q_18)]) h dL_latest_15 (by decide) rfl ?_
    refine sr_iconst (v := 1) h dL_latest_17 (by decide) ?_
    exact sr_iret h dL_latest_18 hc_3.1 hc_3.2 vc

abbrev cxL_head (κ : sp_K) (x : sp_X) (mc ms : Nat) : Prop := sp_C κ x cL_head 4 RL (some .int) (tableOf hhL_head) "head" (sp_rm 7 116 mc ms)
set_option maxRecDepth 100000 in
set_option maxHeartbeats 4000000 in
theorem bkL_head_0 {κ : sp_K} {x : sp_X} {mc ms : Nat} {Rt : Option Value → sp_M → Prop} {Xt : String → sp_M → Prop} {μ : sp_M} {k n : Nat} {a0 : Nat} {v1 : Int32} {a2 : Nat} (h : cxL_head κ x mc ms) (hk : k ≤ mc ∧ n ≤ ms)
    (vc : (∃ mc_1 ms_2 : Nat, (k + mc_1 ≤ mc ∧ n + ms_2 ≤ ms) ∧ ∃ fs_6 : List Value, μ a0 = some (.inr (2, fs_6)) ∧ sp_m x.2.1 κ yE_head wE_head 6 90 mc_1 ms_2 [.ref a0, .int v1] μ (fun v_4 μ_5 => ∃ v_9 : Int32, v_4 = some (.int v_9) ∧ (∃ (N_10 : Nat) (f_11 : Nat → Int64), μ_5 a2 = some (sp_la κ N_10 f_11) ∧ ∃ j_13 : Nat, 0 = nI j_13 ∧ j_13 < N_10 ∧ ∀ μ_16 : sp_M, μ_16 = va_up μ_5 a2 (some (sp_la κ N_10 (vp_updL f_11 j_13 (Int32.toInt64 v_9)))) → Rt (some (.int 0)) μ_16)) (fun E_17 μ_5 => ((E_17 = "java/util/NoSuchElementException" ∧ ∀ q_18 : Nat, Rt (some (.int 1)) μ_5))))) : sp_w κ x (sp_F κ x Rt Xt mc ms) k n 0 [(0, .ref a0), (1, .int v1), (2, .ref a2)] [] μ := by
  refine sr_aload_n h dL_head_0 rfl 2 rfl ?_
  refine sr_iconst (v := 0) h dL_head_1 (by decide) ?_
  refine sr_aload_n h dL_head_2 rfl 0 rfl ?_
  refine sr_iload_n h dL_head_3 rfl 1 rfl ?_
  obtain ⟨mc_1, ms_2, hc_3, vc⟩ := vc
  obtain ⟨fs_6, ho_7, vc⟩ := vc
  refine sr_callV (y := yE_head) (n0 := 1) (As := [.int v1]) h (sp_gV kw_441 kw_442 kw_443 kw_34 kw_444) rfl (by decide +kernel) ⟨Nat.le_of_ble_eq_true rfl, Nat.le_of_ble_eq_true rfl⟩ (ci := 2) rfl dL_head_4 rfl rfl (Nat.le_of_ble_eq_true rfl) hc_3 ho_7 vc (fun v_4 μ_5 vc' => ?_) (fun E_17 μ_5 vc' => ?_)
  · replace vc := vc'
    clear vc'
    obtain ⟨v_9, rfl, vc⟩ := vc
    refine sr_i2l h dL_head_7 ?_
    obtain ⟨N_10, f_11, ho_12, vc⟩ := vc
    obtain ⟨j_13, hi_14, hj_15, vc⟩ := vc
    replace vc := vc _ rfl
    refine sr_last h dL_head_8 ho_12 hi_14 hj_15 ?_
    refine sr_goto (tgt := 15) h dL_head_9 (by decide) ?_
    refine sr_iconst (v := 0) h dL_head_15 (by decide) ?_
    exact sr_iret h dL_head_16 hc_3.1 hc_3.2 vc
  · replace vc := vc'
    clear vc'
    obtain ⟨rfl, vc⟩ := vc
    refine st_catch h [] ({ startPc := 0, endPc := 9, handlerPc := 12, catchType := 13 }) [] rfl (fun _ z => nomatch z) (by decide) (by decide) (name := "java/util/NoSuchElementException") kw_115 kt_131 (fun q_18 => ?_)
    replace vc := vc q_18
    refine sr_astore_n (lv' := [(0, .ref a0), (1, .int v1), (2, .ref a2), (3, .ref q_18)]) h dL_head_12 rfl (by decide) rfl ?_
    refine sr_iconst (v := 1) h dL_head_13 (by decide) ?_
    exact sr_iret h dL_head_14 hc_3.1 hc_3.2 vc
end
